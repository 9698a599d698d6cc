/-! the law: the cases of its switch -/
section LC
variable {g : GT} {Q : Option Value → Hp → Prop} {k n D q ot i : Nat} {hp : Hp} {B : Int}
theorem lc_30 (hd : D + 171 ≤ q ∧ q + 25 ≤ ot) (hi : i + 5 ≤ scL g) (hL : scL g ≤ 2560) (hB : 0 ≤ B ∧ B ≤ 1000000) (hk : k + 1 ≤ 601024) (hn : n + 6 ≤ 7293034) (L : LSt hp D q ot B) (Kn : ∀ hp2 k2 n2, LSt hp2 D q ot (B + 1000) → k2 ≤ k + 1 → n2 ≤ n + 6 → wp g ML_law room_1 Q k2 n2 1545 (lls D q ot i) [] hp2) : wp g ML_law room_1 Q k n 1140 (lls D q ot i) [] hp := by
  obtain ⟨N, T, U, tx, rw, rt, hs, ss, KT, th, ⟨r, s, Tr, z, Z, K⟩, M, ⟨f, hf⟩, X⟩ := L
  have hI := X.1.1
  have hH := X.1.2.1
  have hZ := X.1.2.2.1
  have hZD := X.1.2.2.2.1
  have hb : T 7 0 < 1900000000 := by have := X.1.2.2.2.2; omega
  have hl := X.2.2.1
  have ho := X.2.2.2.1
  have so := X.2.2.2.2.1
  have hK8 := X.k8
  have hrl : rw.length ≤ 16 := by obtain ⟨F, r0, r1, q1, q2⟩ := K.ro; omega
  have rv1 := sv_R g ((i : Int) + 1)
  have rv2 := sv_R g ((i : Int) + 2)
  have rv3 := sv_R g ((i : Int) + 3)
  have rv4 := sv_R g ((i : Int) + 4)
  refine wp_aload_n (pc := 1140) dL_law_1140 rfl ?_
  refine wd_Vs (pc := 1141) dL_law_1141 cl_L_156 (sp_D_fits K (by first | assumption | omega)) rfl rfl K.o (by rfl) ⟨by decide, by decide, rfl, rfl, by show _ ≤ 601024; omega, by show _ ≤ 7293034; omega⟩ (Nat.le_of_ble_eq_true rfl) (fun hp1 e1 => ?_)
  obtain ⟨K1, O1⟩ := e1
  have M1 := M.mv (fun x a b => O1.2 x (by omega))
  have hf1 := (O1.2 ot (by omega)).trans hf
  refine wp_aload_n (pc := 1144) dL_law_1144 rfl ?_
  refine wd_Vs (pc := 1145) dL_law_1145 cl_L_159 (sp_Ref_fits_ M1 (by first | assumption | omega) (by first | assumption | omega)) rfl rfl M1.o (by rfl) ⟨by decide, by decide, rfl, rfl, by show _ ≤ 601024; omega, by show _ ≤ 7293034; omega⟩ (Nat.le_of_ble_eq_true rfl) (fun hp2 e2 => ?_)
  obtain ⟨M2, O2⟩ := e2
  have K2 := K1.mv (fun x a b => O2.2 x (by omega))
  have hf2 := (O2.2 ot (by omega)).trans hf1
  refine wp_icmpx_eq (pc := 1148) 1545 dL_law_1148 (by decide) (fun _ => ?_) (fun c => absurd rfl c)
  exact Kn _ _ _ ⟨_, _, _, _, _, _, _, _, _, _, K2, M2, ⟨f, hf2⟩, X.mo (by omega)⟩ (by omega) (by omega)
theorem lc_31 (hd : D + 171 ≤ q ∧ q + 25 ≤ ot) (hi : i + 5 ≤ scL g) (hL : scL g ≤ 2560) (hB : 0 ≤ B ∧ B ≤ 1000000) (hk : k + 1 ≤ 601024) (hn : n + 6 ≤ 7293034) (L : LSt hp D q ot B) (Kn : ∀ hp2 k2 n2, LSt hp2 D q ot (B + 1000) → k2 ≤ k + 1 → n2 ≤ n + 6 → wp g ML_law room_1 Q k2 n2 1545 (lls D q ot i) [] hp2) : wp g ML_law room_1 Q k n 1153 (lls D q ot i) [] hp := by
  obtain ⟨N, T, U, tx, rw, rt, hs, ss, KT, th, ⟨r, s, Tr, z, Z, K⟩, M, ⟨f, hf⟩, X⟩ := L
  have hI := X.1.1
  have hH := X.1.2.1
  have hZ := X.1.2.2.1
  have hZD := X.1.2.2.2.1
  have hb : T 7 0 < 1900000000 := by have := X.1.2.2.2.2; omega
  have hl := X.2.2.1
  have ho := X.2.2.2.1
  have so := X.2.2.2.2.1
  have hK8 := X.k8
  have hrl : rw.length ≤ 16 := by obtain ⟨F, r0, r1, q1, q2⟩ := K.ro; omega
  have rv1 := sv_R g ((i : Int) + 1)
  have rv2 := sv_R g ((i : Int) + 2)
  have rv3 := sv_R g ((i : Int) + 3)
  have rv4 := sv_R g ((i : Int) + 4)
  refine wp_aload_n (pc := 1153) dL_law_1153 rfl ?_
  refine wd_Vs (pc := 1154) dL_law_1154 cl_L_160 (sp_D_asks K (by first | assumption | omega)) rfl rfl K.o (by rfl) ⟨by decide, by decide, rfl, rfl, by show _ ≤ 601024; omega, by show _ ≤ 7293034; omega⟩ (Nat.le_of_ble_eq_true rfl) (fun hp1 e1 => ?_)
  obtain ⟨K1, O1⟩ := e1
  have M1 := M.mv (fun x a b => O1.2 x (by omega))
  have hf1 := (O1.2 ot (by omega)).trans hf
  refine wp_aload_n (pc := 1157) dL_law_1157 rfl ?_
  refine wd_Vs (pc := 1158) dL_law_1158 cl_L_163 (sp_Ref_asks M1 (by first | assumption | omega) (by first | assumption | omega)) rfl rfl M1.o (by rfl) ⟨by decide, by decide, rfl, rfl, by show _ ≤ 601024; omega, by show _ ≤ 7293034; omega⟩ (Nat.le_of_ble_eq_true rfl) (fun hp2 e2 => ?_)
  obtain ⟨M2, O2⟩ := e2
  have K2 := K1.mv (fun x a b => O2.2 x (by omega))
  have hf2 := (O2.2 ot (by omega)).trans hf1
  refine wp_icmpx_eq (pc := 1161) 1545 dL_law_1161 (by decide) (fun _ => ?_) (fun c => absurd rfl c)
  exact Kn _ _ _ ⟨_, _, _, _, _, _, _, _, _, _, K2, M2, ⟨f, hf2⟩, X.mo (by omega)⟩ (by omega) (by omega)
theorem lc_32 (hd : D + 171 ≤ q ∧ q + 25 ≤ ot) (hi : i + 5 ≤ scL g) (hL : scL g ≤ 2560) (hB : 0 ≤ B ∧ B ≤ 1000000) (hk : k + 1 ≤ 601024) (hn : n + 6 ≤ 7293034) (L : LSt hp D q ot B) (Kn : ∀ hp2 k2 n2, LSt hp2 D q ot (B + 1000) → k2 ≤ k + 1 → n2 ≤ n + 6 → wp g ML_law room_1 Q k2 n2 1545 (lls D q ot i) [] hp2) : wp g ML_law room_1 Q k n 1166 (lls D q ot i) [] hp := by
  obtain ⟨N, T, U, tx, rw, rt, hs, ss, KT, th, ⟨r, s, Tr, z, Z, K⟩, M, ⟨f, hf⟩, X⟩ := L
  have hI := X.1.1
  have hH := X.1.2.1
  have hZ := X.1.2.2.1
  have hZD := X.1.2.2.2.1
  have hb : T 7 0 < 1900000000 := by have := X.1.2.2.2.2; omega
  have hl := X.2.2.1
  have ho := X.2.2.2.1
  have so := X.2.2.2.2.1
  have hK8 := X.k8
  have hrl : rw.length ≤ 16 := by obtain ⟨F, r0, r1, q1, q2⟩ := K.ro; omega
  have rv1 := sv_R g ((i : Int) + 1)
  have rv2 := sv_R g ((i : Int) + 2)
  have rv3 := sv_R g ((i : Int) + 3)
  have rv4 := sv_R g ((i : Int) + 4)
  refine wp_aload_n (pc := 1166) dL_law_1166 rfl ?_
  refine wp_aload_n (pc := 1167) dL_law_1167 rfl ?_
  refine wp_iload (pc := 1168) dL_law_1168 rfl ?_
  refine wp_iconst (pc := 1170) dL_law_1170 ?_
  refine wp_iadd (pc := 1171) dL_law_1171 ?_
  refine wp_sld (pc := 1172) dL_law_1172 (by omega) (by omega) hL ?_
  refine wp_aload_n (pc := 1173) dL_law_1173 rfl ?_
  refine wp_iload (pc := 1174) dL_law_1174 rfl ?_
  refine wp_iconst (pc := 1176) dL_law_1176 ?_
  refine wp_iadd (pc := 1177) dL_law_1177 ?_
  refine wp_sld (pc := 1178) dL_law_1178 (by omega) (by omega) hL ?_
  refine wp_aload_n (pc := 1179) dL_law_1179 rfl ?_
  refine wp_iload (pc := 1180) dL_law_1180 rfl ?_
  refine wp_iconst (pc := 1182) dL_law_1182 ?_
  refine wp_iadd (pc := 1183) dL_law_1183 ?_
  refine wp_sld (pc := 1184) dL_law_1184 (by omega) (by omega) hL ?_
  refine wd_Vs (pc := 1185) dL_law_1185 cl_L_164 (sp_D_listens K (by first | assumption | omega) (by first | assumption | omega) (by first | assumption | omega)) rfl rfl K.o (by rfl) ⟨by decide, by decide, rfl, rfl, by show _ ≤ 601024; omega, by show _ ≤ 7293034; omega⟩ (Nat.le_of_ble_eq_true rfl) (fun hp1 e1 => ?_)
  obtain ⟨K1, O1⟩ := e1
  have M1 := M.mv (fun x a b => O1.2 x (by omega))
  have hf1 := (O1.2 ot (by omega)).trans hf
  refine wp_aload_n (pc := 1188) dL_law_1188 rfl ?_
  refine wp_aload_n (pc := 1189) dL_law_1189 rfl ?_
  refine wp_iload (pc := 1190) dL_law_1190 rfl ?_
  refine wp_iconst (pc := 1192) dL_law_1192 ?_
  refine wp_iadd (pc := 1193) dL_law_1193 ?_
  refine wp_sld (pc := 1194) dL_law_1194 (by omega) (by omega) hL ?_
  refine wp_aload_n (pc := 1195) dL_law_1195 rfl ?_
  refine wp_iload (pc := 1196) dL_law_1196 rfl ?_
  refine wp_iconst (pc := 1198) dL_law_1198 ?_
  refine wp_iadd (pc := 1199) dL_law_1199 ?_
  refine wp_sld (pc := 1200) dL_law_1200 (by omega) (by omega) hL ?_
  refine wp_aload_n (pc := 1201) dL_law_1201 rfl ?_
  refine wp_iload (pc := 1202) dL_law_1202 rfl ?_
  refine wp_iconst (pc := 1204) dL_law_1204 ?_
  refine wp_iadd (pc := 1205) dL_law_1205 ?_
  refine wp_sld (pc := 1206) dL_law_1206 (by omega) (by omega) hL ?_
  refine wd_Vs (pc := 1207) dL_law_1207 cl_L_167 (sp_Ref_listens M1 (by first | assumption | omega) (by first | assumption | omega) (by first | assumption | omega)) rfl rfl M1.o (by rfl) ⟨by decide, by decide, rfl, rfl, by show _ ≤ 601024; omega, by show _ ≤ 7293034; omega⟩ (Nat.le_of_ble_eq_true rfl) (fun hp2 e2 => ?_)
  obtain ⟨M2, O2⟩ := e2
  have K2 := K1.mv (fun x a b => O2.2 x (by omega))
  have hf2 := (O2.2 ot (by omega)).trans hf1
  refine wp_icmpx_eq (pc := 1210) 1545 dL_law_1210 (by decide) (fun _ => ?_) (fun c => absurd rfl c)
  exact Kn _ _ _ ⟨_, _, _, _, _, _, _, _, _, _, K2, M2, ⟨f, hf2⟩, X.lis.mo (by omega)⟩ (by omega) (by omega)
theorem lc_33 (hd : D + 171 ≤ q ∧ q + 25 ≤ ot) (hi : i + 5 ≤ scL g) (hL : scL g ≤ 2560) (hB : 0 ≤ B ∧ B ≤ 1000000) (hk : k + 1 ≤ 601024) (hn : n + 6 ≤ 7293034) (L : LSt hp D q ot B) (Kn : ∀ hp2 k2 n2, LSt hp2 D q ot (B + 1000) → k2 ≤ k + 1 → n2 ≤ n + 6 → wp g ML_law room_1 Q k2 n2 1545 (lls D q ot i) [] hp2) : wp g ML_law room_1 Q k n 1215 (lls D q ot i) [] hp := by
  obtain ⟨N, T, U, tx, rw, rt, hs, ss, KT, th, ⟨r, s, Tr, z, Z, K⟩, M, ⟨f, hf⟩, X⟩ := L
  have hI := X.1.1
  have hH := X.1.2.1
  have hZ := X.1.2.2.1
  have hZD := X.1.2.2.2.1
  have hb : T 7 0 < 1900000000 := by have := X.1.2.2.2.2; omega
  have hl := X.2.2.1
  have ho := X.2.2.2.1
  have so := X.2.2.2.2.1
  have hK8 := X.k8
  have hrl : rw.length ≤ 16 := by obtain ⟨F, r0, r1, q1, q2⟩ := K.ro; omega
  have rv1 := sv_R g ((i : Int) + 1)
  have rv2 := sv_R g ((i : Int) + 2)
  have rv3 := sv_R g ((i : Int) + 3)
  have rv4 := sv_R g ((i : Int) + 4)
  refine wp_aload_n (pc := 1215) dL_law_1215 rfl ?_
  refine wd_Vs (pc := 1216) dL_law_1216 cl_L_168 (sp_D_doubts K ) rfl rfl K.o (by rfl) ⟨by decide, by decide, rfl, rfl, by show _ ≤ 601024; omega, by show _ ≤ 7293034; omega⟩ (Nat.le_of_ble_eq_true rfl) (fun hp1 e1 => ?_)
  obtain ⟨K1, O1⟩ := e1
  have M1 := M.mv (fun x a b => O1.2 x (by omega))
  have hf1 := (O1.2 ot (by omega)).trans hf
  refine wp_aload_n (pc := 1219) dL_law_1219 rfl ?_
  refine wd_Vs (pc := 1220) dL_law_1220 cl_L_171 (sp_Ref_doubts M1 ) rfl rfl M1.o (by rfl) ⟨by decide, by decide, rfl, rfl, by show _ ≤ 601024; omega, by show _ ≤ 7293034; omega⟩ (Nat.le_of_ble_eq_true rfl) (fun hp2 e2 => ?_)
  obtain ⟨M2, O2⟩ := e2
  have K2 := K1.mv (fun x a b => O2.2 x (by omega))
  have hf2 := (O2.2 ot (by omega)).trans hf1
  refine wp_icmpx_eq (pc := 1223) 1545 dL_law_1223 (by decide) (fun _ => ?_) (fun c => absurd rfl c)
  exact Kn _ _ _ ⟨_, _, _, _, _, _, _, _, _, _, K2, M2, ⟨f, hf2⟩, X.dbt.mo (by omega)⟩ (by omega) (by omega)
theorem lc_34 (hd : D + 171 ≤ q ∧ q + 25 ≤ ot) (hi : i + 5 ≤ scL g) (hL : scL g ≤ 2560) (hB : 0 ≤ B ∧ B ≤ 1000000) (hk : k + 1 ≤ 601024) (hn : n + 6 ≤ 7293034) (L : LSt hp D q ot B) (Kn : ∀ hp2 k2 n2, LSt hp2 D q ot (B + 1000) → k2 ≤ k + 1 → n2 ≤ n + 6 → wp g ML_law room_1 Q k2 n2 1545 (lls D q ot i) [] hp2) : wp g ML_law room_1 Q k n 1228 (lls D q ot i) [] hp := by
  obtain ⟨N, T, U, tx, rw, rt, hs, ss, KT, th, ⟨r, s, Tr, z, Z, K⟩, M, ⟨f, hf⟩, X⟩ := L
  have hI := X.1.1
  have hH := X.1.2.1
  have hZ := X.1.2.2.1
  have hZD := X.1.2.2.2.1
  have hb : T 7 0 < 1900000000 := by have := X.1.2.2.2.2; omega
  have hl := X.2.2.1
  have ho := X.2.2.2.1
  have so := X.2.2.2.2.1
  have hK8 := X.k8
  have hrl : rw.length ≤ 16 := by obtain ⟨F, r0, r1, q1, q2⟩ := K.ro; omega
  have rv1 := sv_R g ((i : Int) + 1)
  have rv2 := sv_R g ((i : Int) + 2)
  have rv3 := sv_R g ((i : Int) + 3)
  have rv4 := sv_R g ((i : Int) + 4)
  refine wp_aload_n (pc := 1228) dL_law_1228 rfl ?_
  refine wd_Vs (pc := 1229) dL_law_1229 cl_L_172 (sp_D_laws K ) rfl rfl K.o (by rfl) ⟨by decide, by decide, rfl, rfl, by show _ ≤ 601024; omega, by show _ ≤ 7293034; omega⟩ (Nat.le_of_ble_eq_true rfl) (fun hp1 e1 => ?_)
  obtain ⟨K1, O1⟩ := e1
  have M1 := M.mv (fun x a b => O1.2 x (by omega))
  have hf1 := (O1.2 ot (by omega)).trans hf
  refine wp_aload_n (pc := 1232) dL_law_1232 rfl ?_
  refine wd_Vs (pc := 1233) dL_law_1233 cl_L_175 (sp_Ref_laws M1 (by first | assumption | omega)) rfl rfl M1.o (by rfl) ⟨by decide, by decide, rfl, rfl, by show _ ≤ 601024; omega, by show _ ≤ 7293034; omega⟩ (Nat.le_of_ble_eq_true rfl) (fun hp2 e2 => ?_)
  obtain ⟨M2, O2⟩ := e2
  have K2 := K1.mv (fun x a b => O2.2 x (by omega))
  have hf2 := (O2.2 ot (by omega)).trans hf1
  refine wp_icmpx_eq (pc := 1236) 1545 dL_law_1236 (by decide) (fun _ => ?_) (fun c => absurd rfl c)
  exact Kn _ _ _ ⟨_, _, _, _, _, _, _, _, _, _, K2, M2, ⟨f, hf2⟩, X.mo (by omega)⟩ (by omega) (by omega)
theorem lc_35 (hd : D + 171 ≤ q ∧ q + 25 ≤ ot) (hi : i + 5 ≤ scL g) (hL : scL g ≤ 2560) (hB : 0 ≤ B ∧ B ≤ 1000000) (hk : k + 1 ≤ 601024) (hn : n + 6 ≤ 7293034) (L : LSt hp D q ot B) (Kn : ∀ hp2 k2 n2, LSt hp2 D q ot (B + 1000) → k2 ≤ k + 1 → n2 ≤ n + 6 → wp g ML_law room_1 Q k2 n2 1545 (lls D q ot i) [] hp2) : wp g ML_law room_1 Q k n 1241 (lls D q ot i) [] hp := by
  obtain ⟨N, T, U, tx, rw, rt, hs, ss, KT, th, ⟨r, s, Tr, z, Z, K⟩, M, ⟨f, hf⟩, X⟩ := L
  have hI := X.1.1
  have hH := X.1.2.1
  have hZ := X.1.2.2.1
  have hZD := X.1.2.2.2.1
  have hb : T 7 0 < 1900000000 := by have := X.1.2.2.2.2; omega
  have hl := X.2.2.1
  have ho := X.2.2.2.1
  have so := X.2.2.2.2.1
  have hK8 := X.k8
  have hrl : rw.length ≤ 16 := by obtain ⟨F, r0, r1, q1, q2⟩ := K.ro; omega
  have rv1 := sv_R g ((i : Int) + 1)
  have rv2 := sv_R g ((i : Int) + 2)
  have rv3 := sv_R g ((i : Int) + 3)
  have rv4 := sv_R g ((i : Int) + 4)
  refine wp_aload_n (pc := 1241) dL_law_1241 rfl ?_
  refine wd_Vs (pc := 1242) dL_law_1242 cl_L_176 (sp_D_tries K ) rfl rfl K.o (by rfl) ⟨by decide, by decide, rfl, rfl, by show _ ≤ 601024; omega, by show _ ≤ 7293034; omega⟩ (Nat.le_of_ble_eq_true rfl) (fun hp1 e1 => ?_)
  obtain ⟨K1, O1⟩ := e1
  have M1 := M.mv (fun x a b => O1.2 x (by omega))
  have hf1 := (O1.2 ot (by omega)).trans hf
  refine wp_aload_n (pc := 1245) dL_law_1245 rfl ?_
  refine wd_Vs (pc := 1246) dL_law_1246 cl_L_179 (sp_Ref_tries M1 (by first | assumption | omega)) rfl rfl M1.o (by rfl) ⟨by decide, by decide, rfl, rfl, by show _ ≤ 601024; omega, by show _ ≤ 7293034; omega⟩ (Nat.le_of_ble_eq_true rfl) (fun hp2 e2 => ?_)
  obtain ⟨M2, O2⟩ := e2
  have K2 := K1.mv (fun x a b => O2.2 x (by omega))
  have hf2 := (O2.2 ot (by omega)).trans hf1
  refine wp_icmpx_eq (pc := 1249) 1545 dL_law_1249 (by decide) (fun _ => ?_) (fun c => absurd rfl c)
  exact Kn _ _ _ ⟨_, _, _, _, _, _, _, _, _, _, K2, M2, ⟨f, hf2⟩, X.mo (by omega)⟩ (by omega) (by omega)
theorem lc_36 (hd : D + 171 ≤ q ∧ q + 25 ≤ ot) (hi : i + 5 ≤ scL g) (hL : scL g ≤ 2560) (hB : 0 ≤ B ∧ B ≤ 1000000) (hk : k + 1 ≤ 601024) (hn : n + 6 ≤ 7293034) (L : LSt hp D q ot B) (Kn : ∀ hp2 k2 n2, LSt hp2 D q ot (B + 1000) → k2 ≤ k + 1 → n2 ≤ n + 6 → wp g ML_law room_1 Q k2 n2 1545 (lls D q ot i) [] hp2) : wp g ML_law room_1 Q k n 1254 (lls D q ot i) [] hp := by
  obtain ⟨N, T, U, tx, rw, rt, hs, ss, KT, th, ⟨r, s, Tr, z, Z, K⟩, M, ⟨f, hf⟩, X⟩ := L
  have hI := X.1.1
  have hH := X.1.2.1
  have hZ := X.1.2.2.1
  have hZD := X.1.2.2.2.1
  have hb : T 7 0 < 1900000000 := by have := X.1.2.2.2.2; omega
  have hl := X.2.2.1
  have ho := X.2.2.2.1
  have so := X.2.2.2.2.1
  have hK8 := X.k8
  have hrl : rw.length ≤ 16 := by obtain ⟨F, r0, r1, q1, q2⟩ := K.ro; omega
  have rv1 := sv_R g ((i : Int) + 1)
  have rv2 := sv_R g ((i : Int) + 2)
  have rv3 := sv_R g ((i : Int) + 3)
  have rv4 := sv_R g ((i : Int) + 4)
  refine wp_aload_n (pc := 1254) dL_law_1254 rfl ?_
  refine wp_aload_n (pc := 1255) dL_law_1255 rfl ?_
  refine wp_iload (pc := 1256) dL_law_1256 rfl ?_
  refine wp_iconst (pc := 1258) dL_law_1258 ?_
  refine wp_iadd (pc := 1259) dL_law_1259 ?_
  refine wp_sld (pc := 1260) dL_law_1260 (by omega) (by omega) hL ?_
  refine wp_aload_n (pc := 1261) dL_law_1261 rfl ?_
  refine wp_iload (pc := 1262) dL_law_1262 rfl ?_
  refine wp_iconst (pc := 1264) dL_law_1264 ?_
  refine wp_iadd (pc := 1265) dL_law_1265 ?_
  refine wp_sld (pc := 1266) dL_law_1266 (by omega) (by omega) hL ?_
  refine wd_Vs (pc := 1267) dL_law_1267 cl_L_180 (sp_D_bank K (by first | assumption | omega) (by first | assumption | omega)) rfl rfl K.o (by rfl) ⟨by decide, by decide, rfl, rfl, by show _ ≤ 601024; omega, by show _ ≤ 7293034; omega⟩ (Nat.le_of_ble_eq_true rfl) (fun hp1 e1 => ?_)
  obtain ⟨K1, O1⟩ := e1
  have M1 := M.mv (fun x a b => O1.2 x (by omega))
  have hf1 := (O1.2 ot (by omega)).trans hf
  refine wp_aload_n (pc := 1270) dL_law_1270 rfl ?_
  refine wp_aload_n (pc := 1271) dL_law_1271 rfl ?_
  refine wp_iload (pc := 1272) dL_law_1272 rfl ?_
  refine wp_iconst (pc := 1274) dL_law_1274 ?_
  refine wp_iadd (pc := 1275) dL_law_1275 ?_
  refine wp_sld (pc := 1276) dL_law_1276 (by omega) (by omega) hL ?_
  refine wp_aload_n (pc := 1277) dL_law_1277 rfl ?_
  refine wp_iload (pc := 1278) dL_law_1278 rfl ?_
  refine wp_iconst (pc := 1280) dL_law_1280 ?_
  refine wp_iadd (pc := 1281) dL_law_1281 ?_
  refine wp_sld (pc := 1282) dL_law_1282 (by omega) (by omega) hL ?_
  refine wd_Vs (pc := 1283) dL_law_1283 cl_L_183 (sp_Ref_bank M1 (by first | assumption | omega) (by first | assumption | omega)) rfl rfl M1.o (by rfl) ⟨by decide, by decide, rfl, rfl, by show _ ≤ 601024; omega, by show _ ≤ 7293034; omega⟩ (Nat.le_of_ble_eq_true rfl) (fun hp2 e2 => ?_)
  obtain ⟨M2, O2⟩ := e2
  have K2 := K1.mv (fun x a b => O2.2 x (by omega))
  have hf2 := (O2.2 ot (by omega)).trans hf1
  refine wp_icmpx_eq (pc := 1286) 1545 dL_law_1286 (by decide) (fun _ => ?_) (fun c => absurd rfl c)
  exact Kn _ _ _ ⟨_, _, _, _, _, _, _, _, _, _, K2, M2, ⟨f, hf2⟩, X.mo (by omega)⟩ (by omega) (by omega)
theorem lc_37 (hd : D + 171 ≤ q ∧ q + 25 ≤ ot) (hi : i + 5 ≤ scL g) (hL : scL g ≤ 2560) (hB : 0 ≤ B ∧ B ≤ 1000000) (hk : k + 1 ≤ 601024) (hn : n + 6 ≤ 7293034) (L : LSt hp D q ot B) (Kn : ∀ hp2 k2 n2, LSt hp2 D q ot (B + 1000) → k2 ≤ k + 1 → n2 ≤ n + 6 → wp g ML_law room_1 Q k2 n2 1545 (lls D q ot i) [] hp2) : wp g ML_law room_1 Q k n 1291 (lls D q ot i) [] hp := by
  obtain ⟨N, T, U, tx, rw, rt, hs, ss, KT, th, ⟨r, s, Tr, z, Z, K⟩, M, ⟨f, hf⟩, X⟩ := L
  have hI := X.1.1
  have hH := X.1.2.1
  have hZ := X.1.2.2.1
  have hZD := X.1.2.2.2.1
  have hb : T 7 0 < 1900000000 := by have := X.1.2.2.2.2; omega
  have hl := X.2.2.1
  have ho := X.2.2.2.1
  have so := X.2.2.2.2.1
  have hK8 := X.k8
  have hrl : rw.length ≤ 16 := by obtain ⟨F, r0, r1, q1, q2⟩ := K.ro; omega
  have rv1 := sv_R g ((i : Int) + 1)
  have rv2 := sv_R g ((i : Int) + 2)
  have rv3 := sv_R g ((i : Int) + 3)
  have rv4 := sv_R g ((i : Int) + 4)
  refine wp_aload_n (pc := 1291) dL_law_1291 rfl ?_
  refine wp_aload_n (pc := 1292) dL_law_1292 rfl ?_
  refine wp_iload (pc := 1293) dL_law_1293 rfl ?_
  refine wp_iconst (pc := 1295) dL_law_1295 ?_
  refine wp_iadd (pc := 1296) dL_law_1296 ?_
  refine wp_sld (pc := 1297) dL_law_1297 (by omega) (by omega) hL ?_
  refine wp_aload_n (pc := 1298) dL_law_1298 rfl ?_
  refine wp_iload (pc := 1299) dL_law_1299 rfl ?_
  refine wp_iconst (pc := 1301) dL_law_1301 ?_
  refine wp_iadd (pc := 1302) dL_law_1302 ?_
  refine wp_sld (pc := 1303) dL_law_1303 (by omega) (by omega) hL ?_
  refine wd_Vs (pc := 1304) dL_law_1304 cl_L_184 (sp_D_quiet K (by first | assumption | omega) (by first | assumption | omega) (by first | assumption | omega)) rfl rfl K.o (by rfl) ⟨by decide, by decide, rfl, rfl, by show _ ≤ 601024; omega, by show _ ≤ 7293034; omega⟩ (Nat.le_of_ble_eq_true rfl) (fun hp1 e1 => ?_)
  obtain ⟨K1, O1⟩ := e1
  have M1 := M.mv (fun x a b => O1.2 x (by omega))
  have hf1 := (O1.2 ot (by omega)).trans hf
  refine wp_aload_n (pc := 1307) dL_law_1307 rfl ?_
  refine wp_aload_n (pc := 1308) dL_law_1308 rfl ?_
  refine wp_iload (pc := 1309) dL_law_1309 rfl ?_
  refine wp_iconst (pc := 1311) dL_law_1311 ?_
  refine wp_iadd (pc := 1312) dL_law_1312 ?_
  refine wp_sld (pc := 1313) dL_law_1313 (by omega) (by omega) hL ?_
  refine wp_aload_n (pc := 1314) dL_law_1314 rfl ?_
  refine wp_iload (pc := 1315) dL_law_1315 rfl ?_
  refine wp_iconst (pc := 1317) dL_law_1317 ?_
  refine wp_iadd (pc := 1318) dL_law_1318 ?_
  refine wp_sld (pc := 1319) dL_law_1319 (by omega) (by omega) hL ?_
  refine wd_Vs (pc := 1320) dL_law_1320 cl_L_187 (sp_Ref_quiet M1 (by first | assumption | omega) (by first | assumption | omega) (by first | assumption | omega)) rfl rfl M1.o (by rfl) ⟨by decide, by decide, rfl, rfl, by show _ ≤ 601024; omega, by show _ ≤ 7293034; omega⟩ (Nat.le_of_ble_eq_true rfl) (fun hp2 e2 => ?_)
  obtain ⟨M2, O2⟩ := e2
  have K2 := K1.mv (fun x a b => O2.2 x (by omega))
  have hf2 := (O2.2 ot (by omega)).trans hf1
  refine wp_icmpx_eq (pc := 1323) 1545 dL_law_1323 (by decide) (fun _ => ?_) (fun c => absurd rfl c)
  exact Kn _ _ _ ⟨_, _, _, _, _, _, _, _, _, _, K2, M2, ⟨f, hf2⟩, X.mo (by omega)⟩ (by omega) (by omega)
theorem lc_38 (hd : D + 171 ≤ q ∧ q + 25 ≤ ot) (hi : i + 5 ≤ scL g) (hL : scL g ≤ 2560) (hB : 0 ≤ B ∧ B ≤ 1000000) (hk : k + 1 ≤ 601024) (hn : n + 6 ≤ 7293034) (L : LSt hp D q ot B) (Kn : ∀ hp2 k2 n2, LSt hp2 D q ot (B + 1000) → k2 ≤ k + 1 → n2 ≤ n + 6 → wp g ML_law room_1 Q k2 n2 1545 (lls D q ot i) [] hp2) : wp g ML_law room_1 Q k n 1328 (lls D q ot i) [] hp := by
  obtain ⟨N, T, U, tx, rw, rt, hs, ss, KT, th, ⟨r, s, Tr, z, Z, K⟩, M, ⟨f, hf⟩, X⟩ := L
  have hI := X.1.1
  have hH := X.1.2.1
  have hZ := X.1.2.2.1
  have hZD := X.1.2.2.2.1
  have hb : T 7 0 < 1900000000 := by have := X.1.2.2.2.2; omega
  have hl := X.2.2.1
  have ho := X.2.2.2.1
  have so := X.2.2.2.2.1
  have hK8 := X.k8
  have hrl : rw.length ≤ 16 := by obtain ⟨F, r0, r1, q1, q2⟩ := K.ro; omega
  have rv1 := sv_R g ((i : Int) + 1)
  have rv2 := sv_R g ((i : Int) + 2)
  have rv3 := sv_R g ((i : Int) + 3)
  have rv4 := sv_R g ((i : Int) + 4)
  refine wp_aload_n (pc := 1328) dL_law_1328 rfl ?_
  refine wp_aload_n (pc := 1329) dL_law_1329 rfl ?_
  refine wp_iload (pc := 1330) dL_law_1330 rfl ?_
  refine wp_iconst (pc := 1332) dL_law_1332 ?_
  refine wp_iadd (pc := 1333) dL_law_1333 ?_
  refine wp_sld (pc := 1334) dL_law_1334 (by omega) (by omega) hL ?_
  refine wp_aload_n (pc := 1335) dL_law_1335 rfl ?_
  refine wp_iload (pc := 1336) dL_law_1336 rfl ?_
  refine wp_iconst (pc := 1338) dL_law_1338 ?_
  refine wp_iadd (pc := 1339) dL_law_1339 ?_
  refine wp_sld (pc := 1340) dL_law_1340 (by omega) (by omega) hL ?_
  refine wd_Vs (pc := 1341) dL_law_1341 cl_L_188 (sp_D_rests K (by first | assumption | omega) (by first | assumption | omega)) rfl rfl K.o (by rfl) ⟨by decide, by decide, rfl, rfl, by show _ ≤ 601024; omega, by show _ ≤ 7293034; omega⟩ (Nat.le_of_ble_eq_true rfl) (fun hp1 e1 => ?_)
  obtain ⟨K1, O1⟩ := e1
  have M1 := M.mv (fun x a b => O1.2 x (by omega))
  have hf1 := (O1.2 ot (by omega)).trans hf
  refine wp_aload_n (pc := 1344) dL_law_1344 rfl ?_
  refine wp_aload_n (pc := 1345) dL_law_1345 rfl ?_
  refine wp_iload (pc := 1346) dL_law_1346 rfl ?_
  refine wp_iconst (pc := 1348) dL_law_1348 ?_
  refine wp_iadd (pc := 1349) dL_law_1349 ?_
  refine wp_sld (pc := 1350) dL_law_1350 (by omega) (by omega) hL ?_
  refine wp_aload_n (pc := 1351) dL_law_1351 rfl ?_
  refine wp_iload (pc := 1352) dL_law_1352 rfl ?_
  refine wp_iconst (pc := 1354) dL_law_1354 ?_
  refine wp_iadd (pc := 1355) dL_law_1355 ?_
  refine wp_sld (pc := 1356) dL_law_1356 (by omega) (by omega) hL ?_
  refine wd_Vs (pc := 1357) dL_law_1357 cl_L_191 (sp_Ref_rests M1 (by first | assumption | omega) (by first | assumption | omega)) rfl rfl M1.o (by rfl) ⟨by decide, by decide, rfl, rfl, by show _ ≤ 601024; omega, by show _ ≤ 7293034; omega⟩ (Nat.le_of_ble_eq_true rfl) (fun hp2 e2 => ?_)
  obtain ⟨M2, O2⟩ := e2
  have K2 := K1.mv (fun x a b => O2.2 x (by omega))
  have hf2 := (O2.2 ot (by omega)).trans hf1
  refine wp_icmpx_eq (pc := 1360) 1545 dL_law_1360 (by decide) (fun _ => ?_) (fun c => absurd rfl c)
  exact Kn _ _ _ ⟨_, _, _, _, _, _, _, _, _, _, K2, M2, ⟨f, hf2⟩, X.mo (by omega)⟩ (by omega) (by omega)
theorem lc_39 (hd : D + 171 ≤ q ∧ q + 25 ≤ ot) (hi : i + 5 ≤ scL g) (hL : scL g ≤ 2560) (hB : 0 ≤ B ∧ B ≤ 1000000) (hk : k + 1 ≤ 601024) (hn : n + 6 ≤ 7293034) (L : LSt hp D q ot B) (Kn : ∀ hp2 k2 n2, LSt hp2 D q ot (B + 1000) → k2 ≤ k + 1 → n2 ≤ n + 6 → wp g ML_law room_1 Q k2 n2 1545 (lls D q ot i) [] hp2) : wp g ML_law room_1 Q k n 1365 (lls D q ot i) [] hp := by
  obtain ⟨N, T, U, tx, rw, rt, hs, ss, KT, th, ⟨r, s, Tr, z, Z, K⟩, M, ⟨f, hf⟩, X⟩ := L
  have hI := X.1.1
  have hH := X.1.2.1
  have hZ := X.1.2.2.1
  have hZD := X.1.2.2.2.1
  have hb : T 7 0 < 1900000000 := by have := X.1.2.2.2.2; omega
  have hl := X.2.2.1
  have ho := X.2.2.2.1
  have so := X.2.2.2.2.1
  have hK8 := X.k8
  have hrl : rw.length ≤ 16 := by obtain ⟨F, r0, r1, q1, q2⟩ := K.ro; omega
  have rv1 := sv_R g ((i : Int) + 1)
  have rv2 := sv_R g ((i : Int) + 2)
  have rv3 := sv_R g ((i : Int) + 3)
  have rv4 := sv_R g ((i : Int) + 4)
  refine wp_aload_n (pc := 1365) dL_law_1365 rfl ?_
  refine wd_Vs (pc := 1366) dL_law_1366 cl_L_192 (sp_D_law K (by first | assumption | omega) (by first | assumption | omega) (by first | assumption | omega) (by first | assumption | omega)) rfl rfl K.o (by rfl) ⟨by decide, by decide, rfl, rfl, by show _ ≤ 601024; omega, by show _ ≤ 7293034; omega⟩ (Nat.le_of_ble_eq_true rfl) (fun hp1 e1 => ?_)
  obtain ⟨K1, O1⟩ := e1
  have M1 := M.mv (fun x a b => O1.2 x (by omega))
  have hf1 := (O1.2 ot (by omega)).trans hf
  refine wp_aload_n (pc := 1369) dL_law_1369 rfl ?_
  refine wd_Vs (pc := 1370) dL_law_1370 cl_L_195 (sp_Ref_law M1 (by first | assumption | omega) (by first | assumption | omega) (by first | assumption | omega)) rfl rfl M1.o (by rfl) ⟨by decide, by decide, rfl, rfl, by show _ ≤ 601024; omega, by show _ ≤ 7293034; omega⟩ (Nat.le_of_ble_eq_true rfl) (fun hp2 e2 => ?_)
  obtain ⟨M2, O2⟩ := e2
  have K2 := K1.mv (fun x a b => O2.2 x (by omega))
  have hf2 := (O2.2 ot (by omega)).trans hf1
  refine wp_icmpx_eq (pc := 1373) 1545 dL_law_1373 (by decide) (fun _ => ?_) (fun c => absurd rfl c)
  exact Kn _ _ _ ⟨_, _, _, _, _, _, _, _, _, _, K2, M2, ⟨f, hf2⟩, X.t0.mo (by omega)⟩ (by omega) (by omega)
theorem lc_40 (hd : D + 171 ≤ q ∧ q + 25 ≤ ot) (hi : i + 5 ≤ scL g) (hL : scL g ≤ 2560) (hB : 0 ≤ B ∧ B ≤ 1000000) (hk : k + 1 ≤ 601024) (hn : n + 6 ≤ 7293034) (L : LSt hp D q ot B) (Kn : ∀ hp2 k2 n2, LSt hp2 D q ot (B + 1000) → k2 ≤ k + 1 → n2 ≤ n + 6 → wp g ML_law room_1 Q k2 n2 1545 (lls D q ot i) [] hp2) : wp g ML_law room_1 Q k n 1378 (lls D q ot i) [] hp := by
  obtain ⟨N, T, U, tx, rw, rt, hs, ss, KT, th, ⟨r, s, Tr, z, Z, K⟩, M, ⟨f, hf⟩, X⟩ := L
  have hI := X.1.1
  have hH := X.1.2.1
  have hZ := X.1.2.2.1
  have hZD := X.1.2.2.2.1
  have hb : T 7 0 < 1900000000 := by have := X.1.2.2.2.2; omega
  have hl := X.2.2.1
  have ho := X.2.2.2.1
  have so := X.2.2.2.2.1
  have hK8 := X.k8
  have hrl : rw.length ≤ 16 := by obtain ⟨F, r0, r1, q1, q2⟩ := K.ro; omega
  have rv1 := sv_R g ((i : Int) + 1)
  have rv2 := sv_R g ((i : Int) + 2)
  have rv3 := sv_R g ((i : Int) + 3)
  have rv4 := sv_R g ((i : Int) + 4)
  refine wp_aload_n (pc := 1378) dL_law_1378 rfl ?_
  refine wp_aload_n (pc := 1379) dL_law_1379 rfl ?_
  refine wp_iload (pc := 1380) dL_law_1380 rfl ?_
  refine wp_iconst (pc := 1382) dL_law_1382 ?_
  refine wp_iadd (pc := 1383) dL_law_1383 ?_
  refine wp_sld (pc := 1384) dL_law_1384 (by omega) (by omega) hL ?_
  refine wp_aload_n (pc := 1385) dL_law_1385 rfl ?_
  refine wp_iload (pc := 1386) dL_law_1386 rfl ?_
  refine wp_iconst (pc := 1388) dL_law_1388 ?_
  refine wp_iadd (pc := 1389) dL_law_1389 ?_
  refine wp_sld (pc := 1390) dL_law_1390 (by omega) (by omega) hL ?_
  refine wd_Vs (pc := 1391) dL_law_1391 cl_L_196 (sp_D_years K (by first | assumption | omega) (by first | assumption | omega) (by first | assumption | omega) (by first | assumption | omega)) rfl rfl K.o (by rfl) ⟨by decide, by decide, rfl, rfl, by show _ ≤ 601024; omega, by show _ ≤ 7293034; omega⟩ (Nat.le_of_ble_eq_true rfl) (fun hp1 e1 => ?_)
  obtain ⟨K1, O1⟩ := e1
  have M1 := M.mv (fun x a b => O1.2 x (by omega))
  have hf1 := (O1.2 ot (by omega)).trans hf
  refine wp_aload_n (pc := 1394) dL_law_1394 rfl ?_
  refine wp_aload_n (pc := 1395) dL_law_1395 rfl ?_
  refine wp_iload (pc := 1396) dL_law_1396 rfl ?_
  refine wp_iconst (pc := 1398) dL_law_1398 ?_
  refine wp_iadd (pc := 1399) dL_law_1399 ?_
  refine wp_sld (pc := 1400) dL_law_1400 (by omega) (by omega) hL ?_
  refine wp_aload_n (pc := 1401) dL_law_1401 rfl ?_
  refine wp_iload (pc := 1402) dL_law_1402 rfl ?_
  refine wp_iconst (pc := 1404) dL_law_1404 ?_
  refine wp_iadd (pc := 1405) dL_law_1405 ?_
  refine wp_sld (pc := 1406) dL_law_1406 (by omega) (by omega) hL ?_
  refine wd_Vs (pc := 1407) dL_law_1407 cl_L_199 (sp_Ref_years M1 (by first | assumption | omega) (by first | assumption | omega) (by first | assumption | omega) (by first | assumption | omega)) rfl rfl M1.o (by rfl) ⟨by decide, by decide, rfl, rfl, by show _ ≤ 601024; omega, by show _ ≤ 7293034; omega⟩ (Nat.le_of_ble_eq_true rfl) (fun hp2 e2 => ?_)
  obtain ⟨M2, O2⟩ := e2
  have K2 := K1.mv (fun x a b => O2.2 x (by omega))
  have hf2 := (O2.2 ot (by omega)).trans hf1
  refine wp_icmpx_eq (pc := 1410) 1545 dL_law_1410 (by decide) (fun _ => ?_) (fun c => absurd rfl c)
  exact Kn _ _ _ ⟨_, _, _, _, _, _, _, _, _, _, K2, M2, ⟨f, hf2⟩, X.mo (by omega)⟩ (by omega) (by omega)
theorem lc_41 (hd : D + 171 ≤ q ∧ q + 25 ≤ ot) (hi : i + 5 ≤ scL g) (hL : scL g ≤ 2560) (hB : 0 ≤ B ∧ B ≤ 1000000) (hk : k + 1 ≤ 601024) (hn : n + 6 ≤ 7293034) (L : LSt hp D q ot B) (Kn : ∀ hp2 k2 n2, LSt hp2 D q ot (B + 1000) → k2 ≤ k + 1 → n2 ≤ n + 6 → wp g ML_law room_1 Q k2 n2 1545 (lls D q ot i) [] hp2) : wp g ML_law room_1 Q k n 1415 (lls D q ot i) [] hp := by
  obtain ⟨N, T, U, tx, rw, rt, hs, ss, KT, th, ⟨r, s, Tr, z, Z, K⟩, M, ⟨f, hf⟩, X⟩ := L
  have hI := X.1.1
  have hH := X.1.2.1
  have hZ := X.1.2.2.1
  have hZD := X.1.2.2.2.1
  have hb : T 7 0 < 1900000000 := by have := X.1.2.2.2.2; omega
  have hl := X.2.2.1
  have ho := X.2.2.2.1
  have so := X.2.2.2.2.1
  have hK8 := X.k8
  have hrl : rw.length ≤ 16 := by obtain ⟨F, r0, r1, q1, q2⟩ := K.ro; omega
  have rv1 := sv_R g ((i : Int) + 1)
  have rv2 := sv_R g ((i : Int) + 2)
  have rv3 := sv_R g ((i : Int) + 3)
  have rv4 := sv_R g ((i : Int) + 4)
  refine wp_aload_n (pc := 1415) dL_law_1415 rfl ?_
  refine wp_aload_n (pc := 1416) dL_law_1416 rfl ?_
  refine wp_iload (pc := 1417) dL_law_1417 rfl ?_
  refine wp_iconst (pc := 1419) dL_law_1419 ?_
  refine wp_iadd (pc := 1420) dL_law_1420 ?_
  refine wp_sld (pc := 1421) dL_law_1421 (by omega) (by omega) hL ?_
  refine wd_Vs (pc := 1422) dL_law_1422 cl_L_200 (sp_D_keep K (by first | assumption | omega)) rfl rfl K.o (by rfl) ⟨by decide, by decide, rfl, rfl, by show _ ≤ 601024; omega, by show _ ≤ 7293034; omega⟩ (Nat.le_of_ble_eq_true rfl) (fun hp1 e1 => ?_)
  obtain ⟨K1, O1⟩ := e1
  have M1 := M.mv (fun x a b => O1.2 x (by omega))
  have hf1 := (O1.2 ot (by omega)).trans hf
  refine wp_aload_n (pc := 1425) dL_law_1425 rfl ?_
  refine wp_aload_n (pc := 1426) dL_law_1426 rfl ?_
  refine wp_iload (pc := 1427) dL_law_1427 rfl ?_
  refine wp_iconst (pc := 1429) dL_law_1429 ?_
  refine wp_iadd (pc := 1430) dL_law_1430 ?_
  refine wp_sld (pc := 1431) dL_law_1431 (by omega) (by omega) hL ?_
  refine wd_Vs (pc := 1432) dL_law_1432 cl_L_203 (sp_Ref_keep M1 (by first | assumption | omega) (by first | assumption | omega)) rfl rfl M1.o (by rfl) ⟨by decide, by decide, rfl, rfl, by show _ ≤ 601024; omega, by show _ ≤ 7293034; omega⟩ (Nat.le_of_ble_eq_true rfl) (fun hp2 e2 => ?_)
  obtain ⟨M2, O2⟩ := e2
  have K2 := K1.mv (fun x a b => O2.2 x (by omega))
  have hf2 := (O2.2 ot (by omega)).trans hf1
  refine wp_icmpx_eq (pc := 1435) 1545 dL_law_1435 (by decide) (fun _ => ?_) (fun c => absurd rfl c)
  exact Kn _ _ _ ⟨_, _, _, _, _, _, _, _, _, _, K2, M2, ⟨f, hf2⟩, X.keep.mo (by omega)⟩ (by omega) (by omega)
theorem lc_42 (hd : D + 171 ≤ q ∧ q + 25 ≤ ot) (hi : i + 5 ≤ scL g) (hL : scL g ≤ 2560) (hB : 0 ≤ B ∧ B ≤ 1000000) (hk : k + 1 ≤ 601024) (hn : n + 6 ≤ 7293034) (L : LSt hp D q ot B) (Kn : ∀ hp2 k2 n2, LSt hp2 D q ot (B + 1000) → k2 ≤ k + 1 → n2 ≤ n + 6 → wp g ML_law room_1 Q k2 n2 1545 (lls D q ot i) [] hp2) : wp g ML_law room_1 Q k n 1440 (lls D q ot i) [] hp := by
  obtain ⟨N, T, U, tx, rw, rt, hs, ss, KT, th, ⟨r, s, Tr, z, Z, K⟩, M, ⟨f, hf⟩, X⟩ := L
  have hI := X.1.1
  have hH := X.1.2.1
  have hZ := X.1.2.2.1
  have hZD := X.1.2.2.2.1
  have hb : T 7 0 < 1900000000 := by have := X.1.2.2.2.2; omega
  have hl := X.2.2.1
  have ho := X.2.2.2.1
  have so := X.2.2.2.2.1
  have hK8 := X.k8
  have hrl : rw.length ≤ 16 := by obtain ⟨F, r0, r1, q1, q2⟩ := K.ro; omega
  have rv1 := sv_R g ((i : Int) + 1)
  have rv2 := sv_R g ((i : Int) + 2)
  have rv3 := sv_R g ((i : Int) + 3)
  have rv4 := sv_R g ((i : Int) + 4)
  refine wp_aload_n (pc := 1440) dL_law_1440 rfl ?_
  refine wp_aload_n (pc := 1441) dL_law_1441 rfl ?_
  refine wp_iload (pc := 1442) dL_law_1442 rfl ?_
  refine wp_iconst (pc := 1444) dL_law_1444 ?_
  refine wp_iadd (pc := 1445) dL_law_1445 ?_
  refine wp_sld (pc := 1446) dL_law_1446 (by omega) (by omega) hL ?_
  refine wd_Vs (pc := 1447) dL_law_1447 cl_L_204 (sp_D_again K (by first | assumption | omega) (by first | assumption | omega) (by first | assumption | omega)) rfl rfl K.o (by rfl) ⟨by decide, by decide, rfl, rfl, by show _ ≤ 601024; omega, by show _ ≤ 7293034; omega⟩ (Nat.le_of_ble_eq_true rfl) (fun hp1 e1 => ?_)
  obtain ⟨K1, O1⟩ := e1
  have M1 := M.mv (fun x a b => O1.2 x (by omega))
  have hf1 := (O1.2 ot (by omega)).trans hf
  refine wp_aload_n (pc := 1450) dL_law_1450 rfl ?_
  refine wp_aload_n (pc := 1451) dL_law_1451 rfl ?_
  refine wp_iload (pc := 1452) dL_law_1452 rfl ?_
  refine wp_iconst (pc := 1454) dL_law_1454 ?_
  refine wp_iadd (pc := 1455) dL_law_1455 ?_
  refine wp_sld (pc := 1456) dL_law_1456 (by omega) (by omega) hL ?_
  refine wd_Vs (pc := 1457) dL_law_1457 cl_L_207 (sp_again M1 (by first | assumption | omega) (by first | assumption | omega)) rfl rfl M1.o (by rfl) ⟨by decide, by decide, rfl, rfl, by show _ ≤ 601024; omega, by show _ ≤ 7293034; omega⟩ (Nat.le_of_ble_eq_true rfl) (fun hp2 e2 => ?_)
  obtain ⟨M2, O2⟩ := e2
  have K2 := K1.mv (fun x a b => O2.2 x (by omega))
  have hf2 := (O2.2 ot (by omega)).trans hf1
  refine wp_icmpx_eq (pc := 1460) 1545 dL_law_1460 (by decide) (fun _ => ?_) (fun c => absurd rfl c)
  exact Kn _ _ _ ⟨_, _, _, _, _, _, _, _, _, _, K2, M2, ⟨f, hf2⟩, X.again.mo (by omega)⟩ (by omega) (by omega)
theorem lc_43 (hd : D + 171 ≤ q ∧ q + 25 ≤ ot) (hi : i + 5 ≤ scL g) (hL : scL g ≤ 2560) (hB : 0 ≤ B ∧ B ≤ 1000000) (hk : k + 1 ≤ 601024) (hn : n + 6 ≤ 7293034) (L : LSt hp D q ot B) (Kn : ∀ hp2 k2 n2, LSt hp2 D q ot (B + 1000) → k2 ≤ k + 1 → n2 ≤ n + 6 → wp g ML_law room_1 Q k2 n2 1545 (lls D q ot i) [] hp2) : wp g ML_law room_1 Q k n 1465 (lls D q ot i) [] hp := by
  obtain ⟨N, T, U, tx, rw, rt, hs, ss, KT, th, ⟨r, s, Tr, z, Z, K⟩, M, ⟨f, hf⟩, X⟩ := L
  have hI := X.1.1
  have hH := X.1.2.1
  have hZ := X.1.2.2.1
  have hZD := X.1.2.2.2.1
  have hb : T 7 0 < 1900000000 := by have := X.1.2.2.2.2; omega
  have hl := X.2.2.1
  have ho := X.2.2.2.1
  have so := X.2.2.2.2.1
  have hK8 := X.k8
  have hrl : rw.length ≤ 16 := by obtain ⟨F, r0, r1, q1, q2⟩ := K.ro; omega
  have rv1 := sv_R g ((i : Int) + 1)
  have rv2 := sv_R g ((i : Int) + 2)
  have rv3 := sv_R g ((i : Int) + 3)
  have rv4 := sv_R g ((i : Int) + 4)
  refine wp_aload_n (pc := 1465) dL_law_1465 rfl ?_
  refine wp_aload_n (pc := 1466) dL_law_1466 rfl ?_
  refine wp_iload (pc := 1467) dL_law_1467 rfl ?_
  refine wp_iconst (pc := 1469) dL_law_1469 ?_
  refine wp_iadd (pc := 1470) dL_law_1470 ?_
  refine wp_sld (pc := 1471) dL_law_1471 (by omega) (by omega) hL ?_
  refine wd_Vs (pc := 1472) dL_law_1472 cl_L_208 (sp_D_count K (by first | assumption | omega) (by first | assumption | omega) (by first | assumption | omega)) rfl rfl K.o (by rfl) ⟨by decide, by decide, rfl, rfl, by show _ ≤ 601024; omega, by show _ ≤ 7293034; omega⟩ (Nat.le_of_ble_eq_true rfl) (fun hp1 e1 => ?_)
  obtain ⟨K1, O1⟩ := e1
  have M1 := M.mv (fun x a b => O1.2 x (by omega))
  have hf1 := (O1.2 ot (by omega)).trans hf
  refine wp_aload_n (pc := 1475) dL_law_1475 rfl ?_
  refine wp_aload_n (pc := 1476) dL_law_1476 rfl ?_
  refine wp_iload (pc := 1477) dL_law_1477 rfl ?_
  refine wp_iconst (pc := 1479) dL_law_1479 ?_
  refine wp_iadd (pc := 1480) dL_law_1480 ?_
  refine wp_sld (pc := 1481) dL_law_1481 (by omega) (by omega) hL ?_
  refine wd_Vs (pc := 1482) dL_law_1482 cl_L_211 (sp_Ref_count M1 (by first | assumption | omega) (by first | assumption | omega)) rfl rfl M1.o (by rfl) ⟨by decide, by decide, rfl, rfl, by show _ ≤ 601024; omega, by show _ ≤ 7293034; omega⟩ (Nat.le_of_ble_eq_true rfl) (fun hp2 e2 => ?_)
  obtain ⟨M2, O2⟩ := e2
  have K2 := K1.mv (fun x a b => O2.2 x (by omega))
  have hf2 := (O2.2 ot (by omega)).trans hf1
  refine wp_icmpx_eq (pc := 1485) 1545 dL_law_1485 (by decide) (fun _ => ?_) (fun c => absurd rfl c)
  exact Kn _ _ _ ⟨_, _, _, _, _, _, _, _, _, _, K2, M2, ⟨f, hf2⟩, X.mo (by omega)⟩ (by omega) (by omega)
end LC

