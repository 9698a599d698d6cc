/-! the reference: people come, the town then -/
section MPb
variable {g : GT} {hp hp0 : Hp} {q N n a b s k p F m r : Nat} {V V2 V3 : Nat → Int} {A A2 A3 : Nat → Int → Int} {rd rl : Value} {i j x v c y z w th o d u : Int} {T T2 X : Nat → Int → Int} {l t cs tx rw rw2 rt : List Int} {G f D Y C : Int → Int} {U U2 : List (Nat → Int → Int)} {hs : List (Int × Int)} {ss : List (Int × Int × Int)} {KT : Nat → Option (Nat → Int → Int)}
/-- nothing beyond the people -/
def ZT (T : Nat → Int → Int) (N : Nat) : Prop := (∀ a b : Int, 0 ≤ a ∧ a < 6 → 0 ≤ b ∧ b < 6 → ((N : Int) ≤ a ∨ (N : Int) ≤ b) → T 1 (a * 6 + b) = 0) ∧ ∀ a : Int, (N : Int) ≤ a → a < 6 → T 3 a = 0 ∧ T 4 a = 0 ∧ T 5 a = 0 ∧ T 6 a = 0
theorem up_id {k : Nat} {j v : Int} (h : T k j = v) : up T k j v = T := by
  funext y x
  unfold up
  by_cases z : y = k
  · subst z
    rw [if_pos rfl]
    unfold updI
    by_cases y2 : x = j
    · rw [if_pos y2, y2, h]
    · rw [if_neg y2]
  · rw [if_neg z]
def plP (T : Nat → Int → Int) (a : Nat) (l : List Int) (b i : Nat) : Nat → Int → Int := one T 0 (fun x => if (a : Int) * 6 ≤ x ∧ x < (a : Int) * 6 + (i : Int) then l.getD (b + (x - (a : Int) * 6).toNat) 0 - 48 else T 0 x)
theorem plP_0 : plP T a l b 0 = T := by
  unfold plP
  rw [show (fun x => if (a : Int) * 6 ≤ x ∧ x < (a : Int) * 6 + ((0 : Nat) : Int) then l.getD (b + (x - (a : Int) * 6).toNat) 0 - 48 else T 0 x) = T 0 from funext fun x => if_neg (by omega), one_id]
theorem plP_s {i : Nat} : up (plP T a l b i) 0 ((a : Int) * 6 + (i : Int)) (l.getD (b + i) 0 - 48) = plP T a l b (i + 1) := by
  unfold plP
  rw [one_up]
  congr 1
  funext x
  unfold updI
  by_cases z : x = (a : Int) * 6 + (i : Int)
  · rw [if_pos z, if_pos (by omega), show (x - (a : Int) * 6).toNat = i by omega]
  · rw [if_neg z]
    show (if (a : Int) * 6 ≤ x ∧ x < (a : Int) * 6 + (i : Int) then l.getD (b + (x - (a : Int) * 6).toNat) 0 - 48 else T 0 x) = _
    by_cases y : (a : Int) * 6 ≤ x ∧ x < (a : Int) * 6 + (i : Int)
    · rw [if_pos y, if_pos (by omega)]
    · rw [if_neg y, if_neg (by omega)]
def ppT (l : List Int) (T : Nat → Int → Int) (N : Nat) : Nat → Nat → Int → Int
  | 0 => T
  | m + 1 => up (plP (ppT l T N m) (N + m) l (8 * m) 6) 2 ((N + m : Nat) : Int) (l.getD (8 * m + 6) 0 - 48)
theorem ppT_k {k : Nat} (h0 : k ≠ 0) (h2 : k ≠ 2) : ∀ m : Nat, ppT l T N m k = T k
  | 0 => rfl
  | m + 1 => by
    unfold ppT
    rw [up_ne h2]
    unfold plP one
    rw [if_neg h0, ppT_k h0 h2 m]
theorem lp_Ref_pp3 (e1 : V 1 = (a : Int)) (ha : a < 6) (hm : r < 6) (hz : ∀ x y : Int, 0 ≤ x ∧ x < 6 → 0 ≤ y ∧ y < 6 → ((a : Int) ≤ x ∨ (a : Int) ≤ y) → X 1 (x * 6 + y) = 0) (hC : ∀ j : Nat, j ≤ 6 → A 4 (7 * (r : Int) + (j : Int)) = l.getD (8 * r + j) 0 - 48) {Q : Option Value → Hp → Prop} (Kn : ∀ hp3, ModAt hp3 q V (upA A 1 (flat (plP X a l (8 * r) 6))) rd rl → SO hp hp3 q (q + 25) → wp g MX12_people (rm 3 0 0) Q 0 0 202 [some (.ref q), some (.int (I (n : Int))), none, some (.int (I (r : Int))), none] [] hp3) : ∀ (m i : Nat), 6 < i + m → i ≤ 6 → ∀ (hp2 : Hp) (K : ModAt hp2 q V (upA A 1 (flat (plP X a l (8 * r) i))) rd rl) (O : SO hp hp2 q (q + 25)), wp g MX12_people (rm 3 0 0) Q 0 0 127 [some (.ref q), some (.int (I (n : Int))), none, some (.int (I (r : Int))), some (.int (I (i : Int)))] [] hp2 := by
  intro m
  induction m with
  | zero => intro i h1 h2; exact absurd h1 (by omega)
  | succ m ih =>
    intro i h1 h2 hp2 K O
    refine wp_iload (pc := 127) dX12_people_127 rfl ?_
    refine wp_bipush (pc := 129) (y := 6) dX12_people_129 (by decide) ?_
    refine wp_icmp_ge (pc := 131) 202 dX12_people_131 (by decide) (by first | omega | exact TI.i5 (by assumption) | exact TI.i3 (by assumption) | exact TI.i2 (by assumption) | exact TI.i1 (by assumption) | exact TI.i0 (by assumption) | exact TI.i4 (by assumption) | exact TI.i6 (by assumption) | exact TI.i7 (by assumption)) (by first | omega | exact TI.i5 (by assumption) | exact TI.i3 (by assumption) | exact TI.i2 (by assumption) | exact TI.i1 (by assumption) | exact TI.i0 (by assumption) | exact TI.i4 (by assumption) | exact TI.i6 (by assumption) | exact TI.i7 (by assumption)) (fun c131 => ?_) (fun c131 => ?_)
    ·
      have e : i = 6 := by omega
      subst e
      refine wp_ls ?_ (Kn hp2 K O)
      repeat' (first | exact LE_0 | refine LE_s rfl ?_ | refine LE_s (I_c (by first | omega | (simp only [sm]; omega))) ?_ | refine LE_s (J_c (by first | omega | exact Int.pow_succ _ _ | exact (Int.pow_succ _ _).symm | exact (Int.pow_zero _).symm | (simp only [sm]; omega))) ?_ | refine LE_n ?_)
    ·
      refine wp_aload_n (pc := 134) dX12_people_134 rfl ?_
      refine wm_get dX12_people_135 gf_X12_9 K (by rfl) ?_
      refine wp_aload_n (pc := 138) dX12_people_138 rfl ?_
      refine wm_gets dX12_people_139 gf_X12_92 K (by rfl) (by repeat (first | assumption | exact pv10 | exact pv11 | (apply pv_o; decide; decide) | exact upN_eq | (apply upN_ne; decide) | (apply SV_at; assumption; decide) | exact rfl)) ?_
      refine wp_iload (pc := 142) dX12_people_142 rfl ?_
      refine wp_Sp (pc := 144) dX12_people_144 cl_X12_151 sp_Ref_pair rfl rfl (by decide) (Nat.le_of_ble_eq_true rfl) ?_
      refine wp_aload_n (pc := 147) dX12_people_147 rfl ?_
      refine wm_get dX12_people_148 gf_X12_21 K (by rfl) ?_
      refine wp_bipush (pc := 151) (y := 7) dX12_people_151 (by decide) ?_
      refine wp_iload_n (pc := 153) dX12_people_153 rfl ?_
      refine wp_imul (pc := 154) dX12_people_154 ?_
      refine wp_iload (pc := 155) dX12_people_155 rfl ?_
      refine wp_iadd (pc := 157) dX12_people_157 ?_
      refine wm_iald dX12_people_158 K (by rfl) (by decide) (by decide) (by decide) (by omega) (by omega) (upA_ne (by decide) rfl) (hC i (by omega)) ?_
      refine wm_iast dX12_people_159 K O (by rfl) (by decide) (by decide) (by decide) (by omega) (by omega) upA_eq (flatw0 (by omega) (by omega)) (fun hp K O => ?_)
      rw [upA_upA, plP_s] at K
      refine wp_aload_n (pc := 160) dX12_people_160 rfl ?_
      refine wm_get dX12_people_161 gf_X12_9 K (by rfl) ?_
      refine wp_bipush (pc := 164) (y := 66) dX12_people_164 (by decide) ?_
      refine wp_aload_n (pc := 166) dX12_people_166 rfl ?_
      refine wm_gets dX12_people_167 gf_X12_92 K (by rfl) (by repeat (first | assumption | exact pv10 | exact pv11 | (apply pv_o; decide; decide) | exact upN_eq | (apply upN_ne; decide) | (apply SV_at; assumption; decide) | exact rfl)) ?_
      refine wp_iload (pc := 170) dX12_people_170 rfl ?_
      refine wp_Sp (pc := 172) dX12_people_172 cl_X12_151 sp_Ref_pair rfl rfl (by decide) (Nat.le_of_ble_eq_true rfl) ?_
      refine wp_iadd (pc := 175) dX12_people_175 ?_
      refine wp_iconst (pc := 176) dX12_people_176 ?_
      refine wm_iast dX12_people_177 K O (by rfl) (by decide) (by decide) (by decide) (by omega) (by omega) upA_eq (flatw1 (by omega) (by omega)) (fun hp K O => ?_)
      rw [upA_upA, up_id (show plP X a l (8 * r) (i + 1) 1 ((a : Int) * 6 + (i : Int)) = 0 from hz _ _ (by omega) (by omega) (by omega))] at K
      refine wp_aload_n (pc := 178) dX12_people_178 rfl ?_
      refine wm_get dX12_people_179 gf_X12_9 K (by rfl) ?_
      refine wp_bipush (pc := 182) (y := 66) dX12_people_182 (by decide) ?_
      refine wp_iload (pc := 184) dX12_people_184 rfl ?_
      refine wp_aload_n (pc := 186) dX12_people_186 rfl ?_
      refine wm_gets dX12_people_187 gf_X12_92 K (by rfl) (by repeat (first | assumption | exact pv10 | exact pv11 | (apply pv_o; decide; decide) | exact upN_eq | (apply upN_ne; decide) | (apply SV_at; assumption; decide) | exact rfl)) ?_
      refine wp_Sp (pc := 190) dX12_people_190 cl_X12_151 sp_Ref_pair rfl rfl (by decide) (Nat.le_of_ble_eq_true rfl) ?_
      refine wp_iadd (pc := 193) dX12_people_193 ?_
      refine wp_iconst (pc := 194) dX12_people_194 ?_
      refine wm_iast dX12_people_195 K O (by rfl) (by decide) (by decide) (by decide) (by omega) (by omega) upA_eq (flatw1 (by omega) (by omega)) (fun hp K O => ?_)
      rw [upA_upA, up_id (show plP X a l (8 * r) (i + 1) 1 ((i : Int) * 6 + (a : Int)) = 0 from hz _ _ (by omega) (by omega) (by omega))] at K
      refine wp_iinc (pc := 196) dX12_people_196 rfl (by decide) ?_
      refine wp_goto (pc := 199) 127 dX12_people_199 (by decide) ?_
      refine wp_ls ?_ (ih (i + 1) (by omega) (by omega) _ K O)
      repeat' (first | exact LE_0 | refine LE_s rfl ?_ | refine LE_s (I_c (by first | omega | (simp only [sm]; omega))) ?_ | refine LE_s (J_c (by first | omega | exact Int.pow_succ _ _ | exact (Int.pow_succ _ _).symm | exact (Int.pow_zero _).symm | (simp only [sm]; omega))) ?_ | refine LE_n ?_)
theorem lp_Ref_pp4 (hZ : ZT T N) (hn : N + n ≤ 6) (hC : ∀ m j : Nat, m < n → j ≤ 6 → A 4 (7 * (m : Int) + (j : Int)) = l.getD (8 * m + j) 0 - 48) {Q : Option Value → Hp → Prop} (Kn : ∀ hp3, ModAt hp3 q (upN V 1 ((N + n : Nat) : Int)) (upA A 1 (flat (ppT l T N n))) rd rl → SO hp hp3 q (q + 25) → wp g MX12_people (rm 3 0 0) Q 0 0 294 [some (.ref q), some (.int (I (n : Int))), none, none, none] [] hp3) : ∀ (m i : Nat), n < i + m → i ≤ n → ∀ (hp2 : Hp) (K : ModAt hp2 q (upN V 1 ((N + i : Nat) : Int)) (upA A 1 (flat (ppT l T N i))) rd rl) (O : SO hp hp2 q (q + 25)), wp g MX12_people (rm 3 0 0) Q 0 0 119 [some (.ref q), some (.int (I (n : Int))), none, some (.int (I (i : Int))), none] [] hp2 := by
  intro m
  induction m with
  | zero => intro i h1 h2; exact absurd h1 (by omega)
  | succ m ih =>
    intro i h1 h2 hp2 K O
    refine wp_iload_n (pc := 119) dX12_people_119 rfl ?_
    refine wp_iload_n (pc := 120) dX12_people_120 rfl ?_
    refine wp_icmp_ge (pc := 121) 294 dX12_people_121 (by decide) (by first | omega | exact TI.i5 (by assumption) | exact TI.i3 (by assumption) | exact TI.i2 (by assumption) | exact TI.i1 (by assumption) | exact TI.i0 (by assumption) | exact TI.i4 (by assumption) | exact TI.i6 (by assumption) | exact TI.i7 (by assumption)) (by first | omega | exact TI.i5 (by assumption) | exact TI.i3 (by assumption) | exact TI.i2 (by assumption) | exact TI.i1 (by assumption) | exact TI.i0 (by assumption) | exact TI.i4 (by assumption) | exact TI.i6 (by assumption) | exact TI.i7 (by assumption)) (fun c121 => ?_) (fun c121 => ?_)
    ·
      have e : i = n := by omega
      subst e
      refine wp_ls ?_ (Kn hp2 K O)
      repeat' (first | exact LE_0 | refine LE_s rfl ?_ | refine LE_s (I_c (by first | omega | (simp only [sm]; omega))) ?_ | refine LE_s (J_c (by first | omega | exact Int.pow_succ _ _ | exact (Int.pow_succ _ _).symm | exact (Int.pow_zero _).symm | (simp only [sm]; omega))) ?_ | refine LE_n ?_)
    ·
      refine wp_iconst (pc := 124) dX12_people_124 ?_
      refine wp_istore (pc := 125) dX12_people_125 (by decide) ?_
      refine wp_ls ?_ (lp_Ref_pp3 (a := N + i) (r := i) (n := n) (l := l) (X := ppT l T N i) (A := A) (V := upN V 1 ((N + i : Nat) : Int)) upN_eq (by omega) (by omega) (fun x y z1 z2 z3 => by rw [ppT_k (by decide) (by decide)]; exact hZ.1 x y z1 z2 (by omega)) (fun j hj => hC i j (by omega) hj) (fun hp3 K O => ?_) 7 0 (by omega) (by omega) _ (by rw [plP_0]; exact K) O)
      · repeat' (first | exact LE_0 | refine LE_s rfl ?_ | refine LE_s (I_c (by first | omega | (simp only [sm]; omega))) ?_ | refine LE_s (J_c (by first | omega | exact Int.pow_succ _ _ | exact (Int.pow_succ _ _).symm | exact (Int.pow_zero _).symm | (simp only [sm]; omega))) ?_ | refine LE_n ?_)
      ·
        have hz := hZ.2 ((N + i : Nat) : Int) (by omega) (by omega)
        refine wp_aload_n (pc := 202) dX12_people_202 rfl ?_
        refine wm_get dX12_people_203 gf_X12_9 K (by rfl) ?_
        refine wp_bipush (pc := 206) (y := 36) dX12_people_206 (by decide) ?_
        refine wp_aload_n (pc := 208) dX12_people_208 rfl ?_
        refine wm_gets dX12_people_209 gf_X12_92 K (by rfl) (by repeat (first | assumption | exact pv10 | exact pv11 | (apply pv_o; decide; decide) | exact upN_eq | (apply upN_ne; decide) | (apply SV_at; assumption; decide) | exact rfl)) ?_
        refine wp_iadd (pc := 212) dX12_people_212 ?_
        refine wp_aload_n (pc := 213) dX12_people_213 rfl ?_
        refine wm_get dX12_people_214 gf_X12_21 K (by rfl) ?_
        refine wp_bipush (pc := 217) (y := 7) dX12_people_217 (by decide) ?_
        refine wp_iload_n (pc := 219) dX12_people_219 rfl ?_
        refine wp_imul (pc := 220) dX12_people_220 ?_
        refine wp_bipush (pc := 221) (y := 6) dX12_people_221 (by decide) ?_
        refine wp_iadd (pc := 223) dX12_people_223 ?_
        refine wm_iald dX12_people_224 K (by rfl) (by decide) (by decide) (by decide) (by omega) (by omega) (upA_ne (by decide) rfl) (show A 4 (7 * (i : Int) + 6) = _ from hC i 6 (by omega) (by omega)) ?_
        refine wm_iast dX12_people_225 K O (by rfl) (by decide) (by decide) (by decide) (by omega) (by omega) upA_eq (flatv2 (by omega) (by omega)) (fun hp K O => ?_)
        rw [upA_upA, show up (plP (ppT l T N i) (N + i) l (8 * i) 6) 2 ((N + i : Nat) : Int) (l.getD (8 * i + 6) 0 - 48) = ppT l T N (i + 1) from rfl] at K
        refine wp_aload_n (pc := 226) dX12_people_226 rfl ?_
        refine wm_get dX12_people_227 gf_X12_9 K (by rfl) ?_
        refine wp_bipush (pc := 230) (y := 42) dX12_people_230 (by decide) ?_
        refine wp_aload_n (pc := 232) dX12_people_232 rfl ?_
        refine wm_gets dX12_people_233 gf_X12_92 K (by rfl) (by repeat (first | assumption | exact pv10 | exact pv11 | (apply pv_o; decide; decide) | exact upN_eq | (apply upN_ne; decide) | (apply SV_at; assumption; decide) | exact rfl)) ?_
        refine wp_iadd (pc := 236) dX12_people_236 ?_
        refine wp_iconst (pc := 237) dX12_people_237 ?_
        refine wm_iast dX12_people_238 K O (by rfl) (by decide) (by decide) (by decide) (by omega) (by omega) upA_eq (flatv3 (by omega) (by omega)) (fun hp K O => ?_)
        rw [upA_upA, up_id (by rw [ppT_k (by decide) (by decide)]; exact hz.1)] at K
        refine wp_aload_n (pc := 239) dX12_people_239 rfl ?_
        refine wm_get dX12_people_240 gf_X12_9 K (by rfl) ?_
        refine wp_bipush (pc := 243) (y := 48) dX12_people_243 (by decide) ?_
        refine wp_aload_n (pc := 245) dX12_people_245 rfl ?_
        refine wm_gets dX12_people_246 gf_X12_92 K (by rfl) (by repeat (first | assumption | exact pv10 | exact pv11 | (apply pv_o; decide; decide) | exact upN_eq | (apply upN_ne; decide) | (apply SV_at; assumption; decide) | exact rfl)) ?_
        refine wp_iadd (pc := 249) dX12_people_249 ?_
        refine wp_iconst (pc := 250) dX12_people_250 ?_
        refine wm_iast dX12_people_251 K O (by rfl) (by decide) (by decide) (by decide) (by omega) (by omega) upA_eq (flatv4 (by omega) (by omega)) (fun hp K O => ?_)
        rw [upA_upA, up_id (by rw [ppT_k (by decide) (by decide)]; exact hz.2.1)] at K
        refine wp_aload_n (pc := 252) dX12_people_252 rfl ?_
        refine wm_get dX12_people_253 gf_X12_9 K (by rfl) ?_
        refine wp_bipush (pc := 256) (y := 54) dX12_people_256 (by decide) ?_
        refine wp_aload_n (pc := 258) dX12_people_258 rfl ?_
        refine wm_gets dX12_people_259 gf_X12_92 K (by rfl) (by repeat (first | assumption | exact pv10 | exact pv11 | (apply pv_o; decide; decide) | exact upN_eq | (apply upN_ne; decide) | (apply SV_at; assumption; decide) | exact rfl)) ?_
        refine wp_iadd (pc := 262) dX12_people_262 ?_
        refine wp_iconst (pc := 263) dX12_people_263 ?_
        refine wm_iast dX12_people_264 K O (by rfl) (by decide) (by decide) (by decide) (by omega) (by omega) upA_eq (flatv5 (by omega) (by omega)) (fun hp K O => ?_)
        rw [upA_upA, up_id (by rw [ppT_k (by decide) (by decide)]; exact hz.2.2.1)] at K
        refine wp_aload_n (pc := 265) dX12_people_265 rfl ?_
        refine wm_get dX12_people_266 gf_X12_9 K (by rfl) ?_
        refine wp_bipush (pc := 269) (y := 60) dX12_people_269 (by decide) ?_
        refine wp_aload_n (pc := 271) dX12_people_271 rfl ?_
        refine wm_gets dX12_people_272 gf_X12_92 K (by rfl) (by repeat (first | assumption | exact pv10 | exact pv11 | (apply pv_o; decide; decide) | exact upN_eq | (apply upN_ne; decide) | (apply SV_at; assumption; decide) | exact rfl)) ?_
        refine wp_iadd (pc := 275) dX12_people_275 ?_
        refine wp_iconst (pc := 276) dX12_people_276 ?_
        refine wm_iast dX12_people_277 K O (by rfl) (by decide) (by decide) (by decide) (by omega) (by omega) upA_eq (flatv6 (by omega) (by omega)) (fun hp K O => ?_)
        rw [upA_upA, up_id (by rw [ppT_k (by decide) (by decide)]; exact hz.2.2.2)] at K
        refine wp_aload_n (pc := 278) dX12_people_278 rfl ?_
        refine wp_dup (pc := 279) dX12_people_279 rfl ?_
        refine wm_gets dX12_people_280 gf_X12_92 K (by rfl) (by repeat (first | assumption | exact pv10 | exact pv11 | (apply pv_o; decide; decide) | exact upN_eq | (apply upN_ne; decide) | (apply SV_at; assumption; decide) | exact rfl)) ?_
        refine wp_iconst (pc := 283) dX12_people_283 ?_
        refine wp_iadd (pc := 284) dX12_people_284 ?_
        refine wm_put dX12_people_285 pf_X12_92 K O (by decide) mset_1 rfl rfl (fun hp K O => ?_)
        rw [upN_upN] at K
        refine wp_iinc (pc := 288) dX12_people_288 rfl (by decide) ?_
        refine wp_goto (pc := 291) 119 dX12_people_291 (by decide) ?_
        refine wp_ls ?_ (ih (i + 1) (by omega) (by omega) _ (by rw [show ((N + (i + 1) : Nat) : Int) = ((N + i : Nat) : Int) + 1 from rfl]; exact K) O)
        repeat' (first | exact LE_0 | refine LE_s rfl ?_ | refine LE_s (I_c (by first | omega | (simp only [sm]; omega))) ?_ | refine LE_s (J_c (by first | omega | exact Int.pow_succ _ _ | exact (Int.pow_succ _ _).symm | exact (Int.pow_zero _).symm | (simp only [sm]; omega))) ?_ | refine LE_n ?_)
end MPb

