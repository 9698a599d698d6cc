/-! the law: the cases of its switch -/
section LC
variable {g : GT} {Q : Option Value → Hp → Prop} {k n D q ot i : Nat} {hp : Hp} {B : Int}
theorem lc_16 (hd : D + 171 ≤ q ∧ q + 25 ≤ ot) (hi : i + 5 ≤ scL g) (hL : scL g ≤ 2560) (hB : 0 ≤ B ∧ B ≤ 1000000) (hk : k + 1 ≤ 601024) (hn : n + 6 ≤ 7293034) (L : LSt hp D q ot B) (Kn : ∀ hp2 k2 n2, LSt hp2 D q ot (B + 1000) → k2 ≤ k + 1 → n2 ≤ n + 6 → wp g ML_law room_1 Q k2 n2 1545 (lls D q ot i) [] hp2) : wp g ML_law room_1 Q k n 790 (lls D q ot i) [] hp := by
  obtain ⟨N, T, U, tx, rw, rt, hs, ss, KT, th, ⟨r, s, Tr, z, Z, K⟩, M, ⟨f, hf⟩, X⟩ := L
  have hI := X.1.1
  have hH := X.1.2.1
  have hZ := X.1.2.2.1
  have hZD := X.1.2.2.2.1
  have hb : T 7 0 < 1900000000 := by have := X.1.2.2.2.2; omega
  have hl := X.2.2.1
  have ho := X.2.2.2.1
  have so := X.2.2.2.2.1
  have hK8 := X.k8
  have hrl : rw.length ≤ 16 := by obtain ⟨F, r0, r1, q1, q2⟩ := K.ro; omega
  have rv1 := sv_R g ((i : Int) + 1)
  have rv2 := sv_R g ((i : Int) + 2)
  have rv3 := sv_R g ((i : Int) + 3)
  have rv4 := sv_R g ((i : Int) + 4)
  refine wp_aload_n (pc := 790) dL_law_790 rfl ?_
  refine wp_aload_n (pc := 791) dL_law_791 rfl ?_
  refine wp_iload (pc := 792) dL_law_792 rfl ?_
  refine wp_iconst (pc := 794) dL_law_794 ?_
  refine wp_iadd (pc := 795) dL_law_795 ?_
  refine wp_sld (pc := 796) dL_law_796 (by omega) (by omega) hL ?_
  refine wd_Vs (pc := 797) dL_law_797 cl_L_100 (sp_D_most K (by first | assumption | omega) (by first | assumption | omega) (by first | assumption | omega) (by first | assumption | omega)) rfl rfl K.o (by rfl) ⟨by decide, by decide, rfl, rfl, by show _ ≤ 601024; omega, by show _ ≤ 7293034; omega⟩ (Nat.le_of_ble_eq_true rfl) (fun hp1 e1 => ?_)
  obtain ⟨K1, O1⟩ := e1
  have M1 := M.mv (fun x a b => O1.2 x (by omega))
  have hf1 := (O1.2 ot (by omega)).trans hf
  refine wp_aload_n (pc := 800) dL_law_800 rfl ?_
  refine wp_aload_n (pc := 801) dL_law_801 rfl ?_
  refine wp_iload (pc := 802) dL_law_802 rfl ?_
  refine wp_iconst (pc := 804) dL_law_804 ?_
  refine wp_iadd (pc := 805) dL_law_805 ?_
  refine wp_sld (pc := 806) dL_law_806 (by omega) (by omega) hL ?_
  refine wd_Vs (pc := 807) dL_law_807 cl_L_103 (sp_Ref_most M1 (by first | assumption | omega) (by first | assumption | omega) (by first | assumption | omega) (by first | assumption | omega)) rfl rfl M1.o (by rfl) ⟨by decide, by decide, rfl, rfl, by show _ ≤ 601024; omega, by show _ ≤ 7293034; omega⟩ (Nat.le_of_ble_eq_true rfl) (fun hp2 e2 => ?_)
  obtain ⟨M2, O2⟩ := e2
  have K2 := K1.mv (fun x a b => O2.2 x (by omega))
  have hf2 := (O2.2 ot (by omega)).trans hf1
  refine wp_icmpx_eq (pc := 810) 1545 dL_law_810 (by decide) (fun _ => ?_) (fun c => absurd rfl c)
  exact Kn _ _ _ ⟨_, _, _, _, _, _, _, _, _, _, K2, M2, ⟨f, hf2⟩, X.mo (by omega)⟩ (by omega) (by omega)
theorem lc_17 (hd : D + 171 ≤ q ∧ q + 25 ≤ ot) (hi : i + 5 ≤ scL g) (hL : scL g ≤ 2560) (hB : 0 ≤ B ∧ B ≤ 1000000) (hk : k + 1 ≤ 601024) (hn : n + 6 ≤ 7293034) (L : LSt hp D q ot B) (Kn : ∀ hp2 k2 n2, LSt hp2 D q ot (B + 1000) → k2 ≤ k + 1 → n2 ≤ n + 6 → wp g ML_law room_1 Q k2 n2 1545 (lls D q ot i) [] hp2) : wp g ML_law room_1 Q k n 815 (lls D q ot i) [] hp := by
  obtain ⟨N, T, U, tx, rw, rt, hs, ss, KT, th, ⟨r, s, Tr, z, Z, K⟩, M, ⟨f, hf⟩, X⟩ := L
  have hI := X.1.1
  have hH := X.1.2.1
  have hZ := X.1.2.2.1
  have hZD := X.1.2.2.2.1
  have hb : T 7 0 < 1900000000 := by have := X.1.2.2.2.2; omega
  have hl := X.2.2.1
  have ho := X.2.2.2.1
  have so := X.2.2.2.2.1
  have hK8 := X.k8
  have hrl : rw.length ≤ 16 := by obtain ⟨F, r0, r1, q1, q2⟩ := K.ro; omega
  have rv1 := sv_R g ((i : Int) + 1)
  have rv2 := sv_R g ((i : Int) + 2)
  have rv3 := sv_R g ((i : Int) + 3)
  have rv4 := sv_R g ((i : Int) + 4)
  refine wp_aload_n (pc := 815) dL_law_815 rfl ?_
  refine wp_aload_n (pc := 816) dL_law_816 rfl ?_
  refine wp_iload (pc := 817) dL_law_817 rfl ?_
  refine wp_iconst (pc := 819) dL_law_819 ?_
  refine wp_iadd (pc := 820) dL_law_820 ?_
  refine wp_sld (pc := 821) dL_law_821 (by omega) (by omega) hL ?_
  refine wd_Vs (pc := 822) dL_law_822 cl_L_104 (sp_D_longest K (by first | assumption | omega) (by first | assumption | omega) (by first | assumption | omega) (by first | assumption | omega)) rfl rfl K.o (by rfl) ⟨by decide, by decide, rfl, rfl, by show _ ≤ 601024; omega, by show _ ≤ 7293034; omega⟩ (Nat.le_of_ble_eq_true rfl) (fun hp1 e1 => ?_)
  obtain ⟨K1, O1⟩ := e1
  have M1 := M.mv (fun x a b => O1.2 x (by omega))
  have hf1 := (O1.2 ot (by omega)).trans hf
  refine wp_aload_n (pc := 825) dL_law_825 rfl ?_
  refine wp_aload_n (pc := 826) dL_law_826 rfl ?_
  refine wp_iload (pc := 827) dL_law_827 rfl ?_
  refine wp_iconst (pc := 829) dL_law_829 ?_
  refine wp_iadd (pc := 830) dL_law_830 ?_
  refine wp_sld (pc := 831) dL_law_831 (by omega) (by omega) hL ?_
  refine wd_Vs (pc := 832) dL_law_832 cl_L_107 (sp_Ref_longest M1 (by first | assumption | omega) (by first | assumption | omega) (by first | assumption | omega) (by first | assumption | omega)) rfl rfl M1.o (by rfl) ⟨by decide, by decide, rfl, rfl, by show _ ≤ 601024; omega, by show _ ≤ 7293034; omega⟩ (Nat.le_of_ble_eq_true rfl) (fun hp2 e2 => ?_)
  obtain ⟨M2, O2⟩ := e2
  have K2 := K1.mv (fun x a b => O2.2 x (by omega))
  have hf2 := (O2.2 ot (by omega)).trans hf1
  refine wp_icmpx_eq (pc := 835) 1545 dL_law_835 (by decide) (fun _ => ?_) (fun c => absurd rfl c)
  exact Kn _ _ _ ⟨_, _, _, _, _, _, _, _, _, _, K2, M2, ⟨f, hf2⟩, X.mo (by omega)⟩ (by omega) (by omega)
theorem lc_18 (hd : D + 171 ≤ q ∧ q + 25 ≤ ot) (hi : i + 5 ≤ scL g) (hL : scL g ≤ 2560) (hB : 0 ≤ B ∧ B ≤ 1000000) (hk : k + 1 ≤ 601024) (hn : n + 6 ≤ 7293034) (L : LSt hp D q ot B) (Kn : ∀ hp2 k2 n2, LSt hp2 D q ot (B + 1000) → k2 ≤ k + 1 → n2 ≤ n + 6 → wp g ML_law room_1 Q k2 n2 1545 (lls D q ot i) [] hp2) : wp g ML_law room_1 Q k n 840 (lls D q ot i) [] hp := by
  obtain ⟨N, T, U, tx, rw, rt, hs, ss, KT, th, ⟨r, s, Tr, z, Z, K⟩, M, ⟨f, hf⟩, X⟩ := L
  have hI := X.1.1
  have hH := X.1.2.1
  have hZ := X.1.2.2.1
  have hZD := X.1.2.2.2.1
  have hb : T 7 0 < 1900000000 := by have := X.1.2.2.2.2; omega
  have hl := X.2.2.1
  have ho := X.2.2.2.1
  have so := X.2.2.2.2.1
  have hK8 := X.k8
  have hrl : rw.length ≤ 16 := by obtain ⟨F, r0, r1, q1, q2⟩ := K.ro; omega
  have rv1 := sv_R g ((i : Int) + 1)
  have rv2 := sv_R g ((i : Int) + 2)
  have rv3 := sv_R g ((i : Int) + 3)
  have rv4 := sv_R g ((i : Int) + 4)
  refine wp_aload_n (pc := 840) dL_law_840 rfl ?_
  refine wp_aload_n (pc := 841) dL_law_841 rfl ?_
  refine wp_iload (pc := 842) dL_law_842 rfl ?_
  refine wp_iconst (pc := 844) dL_law_844 ?_
  refine wp_iadd (pc := 845) dL_law_845 ?_
  refine wp_sld (pc := 846) dL_law_846 (by omega) (by omega) hL ?_
  refine wd_Vs (pc := 847) dL_law_847 cl_L_108 (sp_D_together K (by first | assumption | omega) (by first | assumption | omega) (by first | assumption | omega) (by first | assumption | omega)) rfl rfl K.o (by rfl) ⟨by decide, by decide, rfl, rfl, by show _ ≤ 601024; omega, by show _ ≤ 7293034; omega⟩ (Nat.le_of_ble_eq_true rfl) (fun hp1 e1 => ?_)
  obtain ⟨K1, O1⟩ := e1
  have M1 := M.mv (fun x a b => O1.2 x (by omega))
  have hf1 := (O1.2 ot (by omega)).trans hf
  refine wp_aload_n (pc := 850) dL_law_850 rfl ?_
  refine wp_aload_n (pc := 851) dL_law_851 rfl ?_
  refine wp_iload (pc := 852) dL_law_852 rfl ?_
  refine wp_iconst (pc := 854) dL_law_854 ?_
  refine wp_iadd (pc := 855) dL_law_855 ?_
  refine wp_sld (pc := 856) dL_law_856 (by omega) (by omega) hL ?_
  refine wd_Vs (pc := 857) dL_law_857 cl_L_111 (sp_Ref_together M1 (by first | assumption | omega) (by first | assumption | omega) (by first | assumption | omega) (by first | assumption | omega)) rfl rfl M1.o (by rfl) ⟨by decide, by decide, rfl, rfl, by show _ ≤ 601024; omega, by show _ ≤ 7293034; omega⟩ (Nat.le_of_ble_eq_true rfl) (fun hp2 e2 => ?_)
  obtain ⟨M2, O2⟩ := e2
  have K2 := K1.mv (fun x a b => O2.2 x (by omega))
  have hf2 := (O2.2 ot (by omega)).trans hf1
  refine wp_icmpx_eq (pc := 860) 1545 dL_law_860 (by decide) (fun _ => ?_) (fun c => absurd rfl c)
  exact Kn _ _ _ ⟨_, _, _, _, _, _, _, _, _, _, K2, M2, ⟨f, hf2⟩, X.mo (by omega)⟩ (by omega) (by omega)
theorem lc_19 (hd : D + 171 ≤ q ∧ q + 25 ≤ ot) (hi : i + 5 ≤ scL g) (hL : scL g ≤ 2560) (hB : 0 ≤ B ∧ B ≤ 1000000) (hk : k + 1 ≤ 601024) (hn : n + 6 ≤ 7293034) (L : LSt hp D q ot B) (Kn : ∀ hp2 k2 n2, LSt hp2 D q ot (B + 1000) → k2 ≤ k + 1 → n2 ≤ n + 6 → wp g ML_law room_1 Q k2 n2 1545 (lls D q ot i) [] hp2) : wp g ML_law room_1 Q k n 865 (lls D q ot i) [] hp := by
  obtain ⟨N, T, U, tx, rw, rt, hs, ss, KT, th, ⟨r, s, Tr, z, Z, K⟩, M, ⟨f, hf⟩, X⟩ := L
  have hI := X.1.1
  have hH := X.1.2.1
  have hZ := X.1.2.2.1
  have hZD := X.1.2.2.2.1
  have hb : T 7 0 < 1900000000 := by have := X.1.2.2.2.2; omega
  have hl := X.2.2.1
  have ho := X.2.2.2.1
  have so := X.2.2.2.2.1
  have hK8 := X.k8
  have hrl : rw.length ≤ 16 := by obtain ⟨F, r0, r1, q1, q2⟩ := K.ro; omega
  have rv1 := sv_R g ((i : Int) + 1)
  have rv2 := sv_R g ((i : Int) + 2)
  have rv3 := sv_R g ((i : Int) + 3)
  have rv4 := sv_R g ((i : Int) + 4)
  refine wp_aload_n (pc := 865) dL_law_865 rfl ?_
  refine wp_aload_n (pc := 866) dL_law_866 rfl ?_
  refine wp_iload (pc := 867) dL_law_867 rfl ?_
  refine wp_iconst (pc := 869) dL_law_869 ?_
  refine wp_iadd (pc := 870) dL_law_870 ?_
  refine wp_sld (pc := 871) dL_law_871 (by omega) (by omega) hL ?_
  refine wp_aload_n (pc := 872) dL_law_872 rfl ?_
  refine wp_iload (pc := 873) dL_law_873 rfl ?_
  refine wp_iconst (pc := 875) dL_law_875 ?_
  refine wp_iadd (pc := 876) dL_law_876 ?_
  refine wp_sld (pc := 877) dL_law_877 (by omega) (by omega) hL ?_
  refine wd_Vs (pc := 878) dL_law_878 cl_L_112 (sp_D_heir K (by first | assumption | omega) (by first | assumption | omega) (by first | assumption | omega) (by first | assumption | omega) (by first | assumption | omega)) rfl rfl K.o (by rfl) ⟨by decide, by decide, rfl, rfl, by show _ ≤ 601024; omega, by show _ ≤ 7293034; omega⟩ (Nat.le_of_ble_eq_true rfl) (fun hp1 e1 => ?_)
  obtain ⟨K1, O1⟩ := e1
  have M1 := M.mv (fun x a b => O1.2 x (by omega))
  have hf1 := (O1.2 ot (by omega)).trans hf
  refine wp_aload_n (pc := 881) dL_law_881 rfl ?_
  refine wp_aload_n (pc := 882) dL_law_882 rfl ?_
  refine wp_iload (pc := 883) dL_law_883 rfl ?_
  refine wp_iconst (pc := 885) dL_law_885 ?_
  refine wp_iadd (pc := 886) dL_law_886 ?_
  refine wp_sld (pc := 887) dL_law_887 (by omega) (by omega) hL ?_
  refine wp_aload_n (pc := 888) dL_law_888 rfl ?_
  refine wp_iload (pc := 889) dL_law_889 rfl ?_
  refine wp_iconst (pc := 891) dL_law_891 ?_
  refine wp_iadd (pc := 892) dL_law_892 ?_
  refine wp_sld (pc := 893) dL_law_893 (by omega) (by omega) hL ?_
  refine wd_Vs (pc := 894) dL_law_894 cl_L_115 (sp_Ref_heir M1 (by first | assumption | omega) (by first | assumption | omega) (by first | assumption | omega) (by first | assumption | omega) (by first | assumption | omega)) rfl rfl M1.o (by rfl) ⟨by decide, by decide, rfl, rfl, by show _ ≤ 601024; omega, by show _ ≤ 7293034; omega⟩ (Nat.le_of_ble_eq_true rfl) (fun hp2 e2 => ?_)
  obtain ⟨M2, O2⟩ := e2
  have K2 := K1.mv (fun x a b => O2.2 x (by omega))
  have hf2 := (O2.2 ot (by omega)).trans hf1
  refine wp_icmpx_eq (pc := 897) 1545 dL_law_897 (by decide) (fun _ => ?_) (fun c => absurd rfl c)
  exact Kn _ _ _ ⟨_, _, _, _, _, _, _, _, _, _, K2, M2, ⟨f, hf2⟩, X.mo (by omega)⟩ (by omega) (by omega)
theorem lc_20 (hd : D + 171 ≤ q ∧ q + 25 ≤ ot) (hi : i + 5 ≤ scL g) (hL : scL g ≤ 2560) (hB : 0 ≤ B ∧ B ≤ 1000000) (hk : k + 1 ≤ 601024) (hn : n + 6 ≤ 7293034) (L : LSt hp D q ot B) (Kn : ∀ hp2 k2 n2, LSt hp2 D q ot (B + 1000) → k2 ≤ k + 1 → n2 ≤ n + 6 → wp g ML_law room_1 Q k2 n2 1545 (lls D q ot i) [] hp2) : wp g ML_law room_1 Q k n 902 (lls D q ot i) [] hp := by
  obtain ⟨N, T, U, tx, rw, rt, hs, ss, KT, th, ⟨r, s, Tr, z, Z, K⟩, M, ⟨f, hf⟩, X⟩ := L
  have hI := X.1.1
  have hH := X.1.2.1
  have hZ := X.1.2.2.1
  have hZD := X.1.2.2.2.1
  have hb : T 7 0 < 1900000000 := by have := X.1.2.2.2.2; omega
  have hl := X.2.2.1
  have ho := X.2.2.2.1
  have so := X.2.2.2.2.1
  have hK8 := X.k8
  have hrl : rw.length ≤ 16 := by obtain ⟨F, r0, r1, q1, q2⟩ := K.ro; omega
  have rv1 := sv_R g ((i : Int) + 1)
  have rv2 := sv_R g ((i : Int) + 2)
  have rv3 := sv_R g ((i : Int) + 3)
  have rv4 := sv_R g ((i : Int) + 4)
  refine wp_aload_n (pc := 902) dL_law_902 rfl ?_
  refine wp_aload_n (pc := 903) dL_law_903 rfl ?_
  refine wp_iload (pc := 904) dL_law_904 rfl ?_
  refine wp_iconst (pc := 906) dL_law_906 ?_
  refine wp_iadd (pc := 907) dL_law_907 ?_
  refine wp_sld (pc := 908) dL_law_908 (by omega) (by omega) hL ?_
  refine wp_aload_n (pc := 909) dL_law_909 rfl ?_
  refine wp_iload (pc := 910) dL_law_910 rfl ?_
  refine wp_iconst (pc := 912) dL_law_912 ?_
  refine wp_iadd (pc := 913) dL_law_913 ?_
  refine wp_sld (pc := 914) dL_law_914 (by omega) (by omega) hL ?_
  refine wp_aload_n (pc := 915) dL_law_915 rfl ?_
  refine wp_iload (pc := 916) dL_law_916 rfl ?_
  refine wp_iconst (pc := 918) dL_law_918 ?_
  refine wp_iadd (pc := 919) dL_law_919 ?_
  refine wp_sld (pc := 920) dL_law_920 (by omega) (by omega) hL ?_
  refine wd_Vs (pc := 921) dL_law_921 cl_L_116 (sp_D_thinks K (by first | assumption | omega) (by first | assumption | omega) (by first | assumption | omega) (by first | assumption | omega) (by first | assumption | omega) (by first | assumption | omega)) rfl rfl K.o (by rfl) ⟨by decide, by decide, rfl, rfl, by show _ ≤ 601024; omega, by show _ ≤ 7293034; omega⟩ (Nat.le_of_ble_eq_true rfl) (fun hp1 e1 => ?_)
  obtain ⟨K1, O1⟩ := e1
  have M1 := M.mv (fun x a b => O1.2 x (by omega))
  have hf1 := (O1.2 ot (by omega)).trans hf
  refine wp_aload_n (pc := 924) dL_law_924 rfl ?_
  refine wp_aload_n (pc := 925) dL_law_925 rfl ?_
  refine wp_iload (pc := 926) dL_law_926 rfl ?_
  refine wp_iconst (pc := 928) dL_law_928 ?_
  refine wp_iadd (pc := 929) dL_law_929 ?_
  refine wp_sld (pc := 930) dL_law_930 (by omega) (by omega) hL ?_
  refine wp_aload_n (pc := 931) dL_law_931 rfl ?_
  refine wp_iload (pc := 932) dL_law_932 rfl ?_
  refine wp_iconst (pc := 934) dL_law_934 ?_
  refine wp_iadd (pc := 935) dL_law_935 ?_
  refine wp_sld (pc := 936) dL_law_936 (by omega) (by omega) hL ?_
  refine wp_aload_n (pc := 937) dL_law_937 rfl ?_
  refine wp_iload (pc := 938) dL_law_938 rfl ?_
  refine wp_iconst (pc := 940) dL_law_940 ?_
  refine wp_iadd (pc := 941) dL_law_941 ?_
  refine wp_sld (pc := 942) dL_law_942 (by omega) (by omega) hL ?_
  refine wd_Vs (pc := 943) dL_law_943 cl_L_119 (sp_Ref_thinks M1 (by first | assumption | omega) (by first | assumption | omega) (by first | assumption | omega) (by first | assumption | omega) (by first | assumption | omega) (by first | assumption | omega)) rfl rfl M1.o (by rfl) ⟨by decide, by decide, rfl, rfl, by show _ ≤ 601024; omega, by show _ ≤ 7293034; omega⟩ (Nat.le_of_ble_eq_true rfl) (fun hp2 e2 => ?_)
  obtain ⟨M2, O2⟩ := e2
  have K2 := K1.mv (fun x a b => O2.2 x (by omega))
  have hf2 := (O2.2 ot (by omega)).trans hf1
  refine wp_icmpx_eq (pc := 946) 1545 dL_law_946 (by decide) (fun _ => ?_) (fun c => absurd rfl c)
  exact Kn _ _ _ ⟨_, _, _, _, _, _, _, _, _, _, K2, M2, ⟨f, hf2⟩, X.mo (by omega)⟩ (by omega) (by omega)
theorem lc_21 (hd : D + 171 ≤ q ∧ q + 25 ≤ ot) (hi : i + 5 ≤ scL g) (hL : scL g ≤ 2560) (hB : 0 ≤ B ∧ B ≤ 1000000) (hk : k + 1 ≤ 601024) (hn : n + 6 ≤ 7293034) (L : LSt hp D q ot B) (Kn : ∀ hp2 k2 n2, LSt hp2 D q ot (B + 1000) → k2 ≤ k + 1 → n2 ≤ n + 6 → wp g ML_law room_1 Q k2 n2 1545 (lls D q ot i) [] hp2) : wp g ML_law room_1 Q k n 951 (lls D q ot i) [] hp := by
  obtain ⟨N, T, U, tx, rw, rt, hs, ss, KT, th, ⟨r, s, Tr, z, Z, K⟩, M, ⟨f, hf⟩, X⟩ := L
  have hI := X.1.1
  have hH := X.1.2.1
  have hZ := X.1.2.2.1
  have hZD := X.1.2.2.2.1
  have hb : T 7 0 < 1900000000 := by have := X.1.2.2.2.2; omega
  have hl := X.2.2.1
  have ho := X.2.2.2.1
  have so := X.2.2.2.2.1
  have hK8 := X.k8
  have hrl : rw.length ≤ 16 := by obtain ⟨F, r0, r1, q1, q2⟩ := K.ro; omega
  have rv1 := sv_R g ((i : Int) + 1)
  have rv2 := sv_R g ((i : Int) + 2)
  have rv3 := sv_R g ((i : Int) + 3)
  have rv4 := sv_R g ((i : Int) + 4)
  refine wp_aload_n (pc := 951) dL_law_951 rfl ?_
  refine wd_Vs (pc := 952) dL_law_952 cl_L_120 (sp_D_flattery K (by first | assumption | omega)) rfl rfl K.o (by rfl) ⟨by decide, by decide, rfl, rfl, by show _ ≤ 601024; omega, by show _ ≤ 7293034; omega⟩ (Nat.le_of_ble_eq_true rfl) (fun hp1 e1 => ?_)
  obtain ⟨K1, O1⟩ := e1
  have M1 := M.mv (fun x a b => O1.2 x (by omega))
  have hf1 := (O1.2 ot (by omega)).trans hf
  refine wp_aload_n (pc := 955) dL_law_955 rfl ?_
  refine wd_Vs (pc := 956) dL_law_956 cl_L_123 (sp_Ref_flattery M1 (by first | assumption | omega)) rfl rfl M1.o (by rfl) ⟨by decide, by decide, rfl, rfl, by show _ ≤ 601024; omega, by show _ ≤ 7293034; omega⟩ (Nat.le_of_ble_eq_true rfl) (fun hp2 e2 => ?_)
  obtain ⟨M2, O2⟩ := e2
  have K2 := K1.mv (fun x a b => O2.2 x (by omega))
  have hf2 := (O2.2 ot (by omega)).trans hf1
  refine wp_icmpx_eq (pc := 959) 1545 dL_law_959 (by decide) (fun _ => ?_) (fun c => absurd rfl c)
  exact Kn _ _ _ ⟨_, _, _, _, _, _, _, _, _, _, K2, M2, ⟨f, hf2⟩, X.mo (by omega)⟩ (by omega) (by omega)
theorem lc_22 (hd : D + 171 ≤ q ∧ q + 25 ≤ ot) (hi : i + 5 ≤ scL g) (hL : scL g ≤ 2560) (hB : 0 ≤ B ∧ B ≤ 1000000) (hk : k + 1 ≤ 601024) (hn : n + 6 ≤ 7293034) (L : LSt hp D q ot B) (Kn : ∀ hp2 k2 n2, LSt hp2 D q ot (B + 1000) → k2 ≤ k + 1 → n2 ≤ n + 6 → wp g ML_law room_1 Q k2 n2 1545 (lls D q ot i) [] hp2) : wp g ML_law room_1 Q k n 964 (lls D q ot i) [] hp := by
  obtain ⟨N, T, U, tx, rw, rt, hs, ss, KT, th, ⟨r, s, Tr, z, Z, K⟩, M, ⟨f, hf⟩, X⟩ := L
  have hI := X.1.1
  have hH := X.1.2.1
  have hZ := X.1.2.2.1
  have hZD := X.1.2.2.2.1
  have hb : T 7 0 < 1900000000 := by have := X.1.2.2.2.2; omega
  have hl := X.2.2.1
  have ho := X.2.2.2.1
  have so := X.2.2.2.2.1
  have hK8 := X.k8
  have hrl : rw.length ≤ 16 := by obtain ⟨F, r0, r1, q1, q2⟩ := K.ro; omega
  have rv1 := sv_R g ((i : Int) + 1)
  have rv2 := sv_R g ((i : Int) + 2)
  have rv3 := sv_R g ((i : Int) + 3)
  have rv4 := sv_R g ((i : Int) + 4)
  refine wp_aload_n (pc := 964) dL_law_964 rfl ?_
  refine wd_Vs (pc := 965) dL_law_965 cl_L_124 (sp_D_wakes K (by first | assumption | omega) (by first | assumption | omega) (by first | assumption | omega)) rfl rfl K.o (by rfl) ⟨by decide, by decide, rfl, rfl, by show _ ≤ 601024; omega, by show _ ≤ 7293034; omega⟩ (Nat.le_of_ble_eq_true rfl) (fun hp1 e1 => ?_)
  obtain ⟨K1, O1⟩ := e1
  have M1 := M.mv (fun x a b => O1.2 x (by omega))
  have hf1 := (O1.2 ot (by omega)).trans hf
  refine wp_aload_n (pc := 968) dL_law_968 rfl ?_
  refine wd_Vs (pc := 969) dL_law_969 cl_L_127 (sp_Ref_wakes M1 (by first | assumption | omega) (by first | assumption | omega) (by first | assumption | omega)) rfl rfl M1.o (by rfl) ⟨by decide, by decide, rfl, rfl, by show _ ≤ 601024; omega, by show _ ≤ 7293034; omega⟩ (Nat.le_of_ble_eq_true rfl) (fun hp2 e2 => ?_)
  obtain ⟨M2, O2⟩ := e2
  have K2 := K1.mv (fun x a b => O2.2 x (by omega))
  have hf2 := (O2.2 ot (by omega)).trans hf1
  refine wp_icmpx_eq (pc := 972) 1545 dL_law_972 (by decide) (fun _ => ?_) (fun c => absurd rfl c)
  exact Kn _ _ _ ⟨_, _, _, _, _, _, _, _, _, _, K2, M2, ⟨f, hf2⟩, X.mo (by omega)⟩ (by omega) (by omega)
theorem lc_23 (hd : D + 171 ≤ q ∧ q + 25 ≤ ot) (hi : i + 5 ≤ scL g) (hL : scL g ≤ 2560) (hB : 0 ≤ B ∧ B ≤ 1000000) (hk : k + 1 ≤ 601024) (hn : n + 6 ≤ 7293034) (L : LSt hp D q ot B) (Kn : ∀ hp2 k2 n2, LSt hp2 D q ot (B + 1000) → k2 ≤ k + 1 → n2 ≤ n + 6 → wp g ML_law room_1 Q k2 n2 1545 (lls D q ot i) [] hp2) : wp g ML_law room_1 Q k n 977 (lls D q ot i) [] hp := by
  obtain ⟨N, T, U, tx, rw, rt, hs, ss, KT, th, ⟨r, s, Tr, z, Z, K⟩, M, ⟨f, hf⟩, X⟩ := L
  have hI := X.1.1
  have hH := X.1.2.1
  have hZ := X.1.2.2.1
  have hZD := X.1.2.2.2.1
  have hb : T 7 0 < 1900000000 := by have := X.1.2.2.2.2; omega
  have hl := X.2.2.1
  have ho := X.2.2.2.1
  have so := X.2.2.2.2.1
  have hK8 := X.k8
  have hrl : rw.length ≤ 16 := by obtain ⟨F, r0, r1, q1, q2⟩ := K.ro; omega
  have rv1 := sv_R g ((i : Int) + 1)
  have rv2 := sv_R g ((i : Int) + 2)
  have rv3 := sv_R g ((i : Int) + 3)
  have rv4 := sv_R g ((i : Int) + 4)
  refine wp_aload_n (pc := 977) dL_law_977 rfl ?_
  refine wp_aload_n (pc := 978) dL_law_978 rfl ?_
  refine wp_iload (pc := 979) dL_law_979 rfl ?_
  refine wp_iconst (pc := 981) dL_law_981 ?_
  refine wp_iadd (pc := 982) dL_law_982 ?_
  refine wp_sld (pc := 983) dL_law_983 (by omega) (by omega) hL ?_
  refine wd_Vs (pc := 984) dL_law_984 cl_L_128 (sp_D_echo K (by first | assumption | omega) (by first | assumption | omega)) rfl rfl K.o (by rfl) ⟨by decide, by decide, rfl, rfl, by show _ ≤ 601024; omega, by show _ ≤ 7293034; omega⟩ (Nat.le_of_ble_eq_true rfl) (fun hp1 e1 => ?_)
  obtain ⟨K1, O1⟩ := e1
  have M1 := M.mv (fun x a b => O1.2 x (by omega))
  have hf1 := (O1.2 ot (by omega)).trans hf
  refine wp_aload_n (pc := 987) dL_law_987 rfl ?_
  refine wp_aload_n (pc := 988) dL_law_988 rfl ?_
  refine wp_iload (pc := 989) dL_law_989 rfl ?_
  refine wp_iconst (pc := 991) dL_law_991 ?_
  refine wp_iadd (pc := 992) dL_law_992 ?_
  refine wp_sld (pc := 993) dL_law_993 (by omega) (by omega) hL ?_
  refine wd_Vs (pc := 994) dL_law_994 cl_L_131 (sp_Ref_echo M1 (by first | assumption | omega) (by first | assumption | omega)) rfl rfl M1.o (by rfl) ⟨by decide, by decide, rfl, rfl, by show _ ≤ 601024; omega, by show _ ≤ 7293034; omega⟩ (Nat.le_of_ble_eq_true rfl) (fun hp2 e2 => ?_)
  obtain ⟨M2, O2⟩ := e2
  have K2 := K1.mv (fun x a b => O2.2 x (by omega))
  have hf2 := (O2.2 ot (by omega)).trans hf1
  refine wp_icmpx_eq (pc := 997) 1545 dL_law_997 (by decide) (fun _ => ?_) (fun c => absurd rfl c)
  exact Kn _ _ _ ⟨_, _, _, _, _, _, _, _, _, _, K2, M2, ⟨f, hf2⟩, X.mo (by omega)⟩ (by omega) (by omega)
theorem lc_24 (hd : D + 171 ≤ q ∧ q + 25 ≤ ot) (hi : i + 5 ≤ scL g) (hL : scL g ≤ 2560) (hB : 0 ≤ B ∧ B ≤ 1000000) (hk : k + 1 ≤ 601024) (hn : n + 6 ≤ 7293034) (L : LSt hp D q ot B) (Kn : ∀ hp2 k2 n2, LSt hp2 D q ot (B + 1000) → k2 ≤ k + 1 → n2 ≤ n + 6 → wp g ML_law room_1 Q k2 n2 1545 (lls D q ot i) [] hp2) : wp g ML_law room_1 Q k n 1002 (lls D q ot i) [] hp := by
  obtain ⟨N, T, U, tx, rw, rt, hs, ss, KT, th, ⟨r, s, Tr, z, Z, K⟩, M, ⟨f, hf⟩, X⟩ := L
  have hI := X.1.1
  have hH := X.1.2.1
  have hZ := X.1.2.2.1
  have hZD := X.1.2.2.2.1
  have hb : T 7 0 < 1900000000 := by have := X.1.2.2.2.2; omega
  have hl := X.2.2.1
  have ho := X.2.2.2.1
  have so := X.2.2.2.2.1
  have hK8 := X.k8
  have hrl : rw.length ≤ 16 := by obtain ⟨F, r0, r1, q1, q2⟩ := K.ro; omega
  have rv1 := sv_R g ((i : Int) + 1)
  have rv2 := sv_R g ((i : Int) + 2)
  have rv3 := sv_R g ((i : Int) + 3)
  have rv4 := sv_R g ((i : Int) + 4)
  refine wp_aload_n (pc := 1002) dL_law_1002 rfl ?_
  refine wp_aload_n (pc := 1003) dL_law_1003 rfl ?_
  refine wp_iload (pc := 1004) dL_law_1004 rfl ?_
  refine wp_iconst (pc := 1006) dL_law_1006 ?_
  refine wp_iadd (pc := 1007) dL_law_1007 ?_
  refine wp_sld (pc := 1008) dL_law_1008 (by omega) (by omega) hL ?_
  refine wp_aload_n (pc := 1009) dL_law_1009 rfl ?_
  refine wp_iload (pc := 1010) dL_law_1010 rfl ?_
  refine wp_iconst (pc := 1012) dL_law_1012 ?_
  refine wp_iadd (pc := 1013) dL_law_1013 ?_
  refine wp_sld (pc := 1014) dL_law_1014 (by omega) (by omega) hL ?_
  refine wp_aload_n (pc := 1015) dL_law_1015 rfl ?_
  refine wp_iload (pc := 1016) dL_law_1016 rfl ?_
  refine wp_iconst (pc := 1018) dL_law_1018 ?_
  refine wp_iadd (pc := 1019) dL_law_1019 ?_
  refine wp_sld (pc := 1020) dL_law_1020 (by omega) (by omega) hL ?_
  refine wd_Vs (pc := 1021) dL_law_1021 cl_L_132 (sp_D_owes K (by first | assumption | omega) (by first | assumption | omega) (by first | assumption | omega) (by first | assumption | omega) (by first | assumption | omega) (by first | assumption | omega)) rfl rfl K.o (by rfl) ⟨by decide, by decide, rfl, rfl, by show _ ≤ 601024; omega, by show _ ≤ 7293034; omega⟩ (Nat.le_of_ble_eq_true rfl) (fun hp1 e1 => ?_)
  obtain ⟨K1, O1⟩ := e1
  have M1 := M.mv (fun x a b => O1.2 x (by omega))
  have hf1 := (O1.2 ot (by omega)).trans hf
  refine wp_aload_n (pc := 1024) dL_law_1024 rfl ?_
  refine wp_aload_n (pc := 1025) dL_law_1025 rfl ?_
  refine wp_iload (pc := 1026) dL_law_1026 rfl ?_
  refine wp_iconst (pc := 1028) dL_law_1028 ?_
  refine wp_iadd (pc := 1029) dL_law_1029 ?_
  refine wp_sld (pc := 1030) dL_law_1030 (by omega) (by omega) hL ?_
  refine wp_aload_n (pc := 1031) dL_law_1031 rfl ?_
  refine wp_iload (pc := 1032) dL_law_1032 rfl ?_
  refine wp_iconst (pc := 1034) dL_law_1034 ?_
  refine wp_iadd (pc := 1035) dL_law_1035 ?_
  refine wp_sld (pc := 1036) dL_law_1036 (by omega) (by omega) hL ?_
  refine wp_aload_n (pc := 1037) dL_law_1037 rfl ?_
  refine wp_iload (pc := 1038) dL_law_1038 rfl ?_
  refine wp_iconst (pc := 1040) dL_law_1040 ?_
  refine wp_iadd (pc := 1041) dL_law_1041 ?_
  refine wp_sld (pc := 1042) dL_law_1042 (by omega) (by omega) hL ?_
  refine wd_Vs (pc := 1043) dL_law_1043 cl_L_135 (sp_Ref_owes M1 (by first | assumption | omega) (by first | assumption | omega) (by first | assumption | omega) (by first | assumption | omega) (by first | assumption | omega) (by first | assumption | omega)) rfl rfl M1.o (by rfl) ⟨by decide, by decide, rfl, rfl, by show _ ≤ 601024; omega, by show _ ≤ 7293034; omega⟩ (Nat.le_of_ble_eq_true rfl) (fun hp2 e2 => ?_)
  obtain ⟨M2, O2⟩ := e2
  have K2 := K1.mv (fun x a b => O2.2 x (by omega))
  have hf2 := (O2.2 ot (by omega)).trans hf1
  refine wp_icmpx_eq (pc := 1046) 1545 dL_law_1046 (by decide) (fun _ => ?_) (fun c => absurd rfl c)
  exact Kn _ _ _ ⟨_, _, _, _, _, _, _, _, _, _, K2, M2, ⟨f, hf2⟩, X.mo (by omega)⟩ (by omega) (by omega)
theorem lc_25 (hd : D + 171 ≤ q ∧ q + 25 ≤ ot) (hi : i + 5 ≤ scL g) (hL : scL g ≤ 2560) (hB : 0 ≤ B ∧ B ≤ 1000000) (hk : k + 1 ≤ 601024) (hn : n + 6 ≤ 7293034) (L : LSt hp D q ot B) (Kn : ∀ hp2 k2 n2, LSt hp2 D q ot (B + 1000) → k2 ≤ k + 1 → n2 ≤ n + 6 → wp g ML_law room_1 Q k2 n2 1545 (lls D q ot i) [] hp2) : wp g ML_law room_1 Q k n 1051 (lls D q ot i) [] hp := by
  obtain ⟨N, T, U, tx, rw, rt, hs, ss, KT, th, ⟨r, s, Tr, z, Z, K⟩, M, ⟨f, hf⟩, X⟩ := L
  have hI := X.1.1
  have hH := X.1.2.1
  have hZ := X.1.2.2.1
  have hZD := X.1.2.2.2.1
  have hb : T 7 0 < 1900000000 := by have := X.1.2.2.2.2; omega
  have hl := X.2.2.1
  have ho := X.2.2.2.1
  have so := X.2.2.2.2.1
  have hK8 := X.k8
  have hrl : rw.length ≤ 16 := by obtain ⟨F, r0, r1, q1, q2⟩ := K.ro; omega
  have rv1 := sv_R g ((i : Int) + 1)
  have rv2 := sv_R g ((i : Int) + 2)
  have rv3 := sv_R g ((i : Int) + 3)
  have rv4 := sv_R g ((i : Int) + 4)
  refine wp_aload_n (pc := 1051) dL_law_1051 rfl ?_
  refine wd_Vs (pc := 1052) dL_law_1052 cl_L_136 (sp_D_settles K (by first | assumption | omega)) rfl rfl K.o (by rfl) ⟨by decide, by decide, rfl, rfl, by show _ ≤ 601024; omega, by show _ ≤ 7293034; omega⟩ (Nat.le_of_ble_eq_true rfl) (fun hp1 e1 => ?_)
  obtain ⟨K1, O1⟩ := e1
  have M1 := M.mv (fun x a b => O1.2 x (by omega))
  have hf1 := (O1.2 ot (by omega)).trans hf
  refine wp_aload_n (pc := 1055) dL_law_1055 rfl ?_
  refine wd_Vs (pc := 1056) dL_law_1056 cl_L_139 (sp_Ref_settles M1 (by first | assumption | omega)) rfl rfl M1.o (by rfl) ⟨by decide, by decide, rfl, rfl, by show _ ≤ 601024; omega, by show _ ≤ 7293034; omega⟩ (Nat.le_of_ble_eq_true rfl) (fun hp2 e2 => ?_)
  obtain ⟨M2, O2⟩ := e2
  have K2 := K1.mv (fun x a b => O2.2 x (by omega))
  have hf2 := (O2.2 ot (by omega)).trans hf1
  refine wp_icmpx_eq (pc := 1059) 1545 dL_law_1059 (by decide) (fun _ => ?_) (fun c => absurd rfl c)
  exact Kn _ _ _ ⟨_, _, _, _, _, _, _, _, _, _, K2, M2, ⟨f, hf2⟩, X.mo (by omega)⟩ (by omega) (by omega)
theorem lc_26 (hd : D + 171 ≤ q ∧ q + 25 ≤ ot) (hi : i + 5 ≤ scL g) (hL : scL g ≤ 2560) (hB : 0 ≤ B ∧ B ≤ 1000000) (hk : k + 1 ≤ 601024) (hn : n + 6 ≤ 7293034) (L : LSt hp D q ot B) (Kn : ∀ hp2 k2 n2, LSt hp2 D q ot (B + 1000) → k2 ≤ k + 1 → n2 ≤ n + 6 → wp g ML_law room_1 Q k2 n2 1545 (lls D q ot i) [] hp2) : wp g ML_law room_1 Q k n 1064 (lls D q ot i) [] hp := by
  obtain ⟨N, T, U, tx, rw, rt, hs, ss, KT, th, ⟨r, s, Tr, z, Z, K⟩, M, ⟨f, hf⟩, X⟩ := L
  have hI := X.1.1
  have hH := X.1.2.1
  have hZ := X.1.2.2.1
  have hZD := X.1.2.2.2.1
  have hb : T 7 0 < 1900000000 := by have := X.1.2.2.2.2; omega
  have hl := X.2.2.1
  have ho := X.2.2.2.1
  have so := X.2.2.2.2.1
  have hK8 := X.k8
  have hrl : rw.length ≤ 16 := by obtain ⟨F, r0, r1, q1, q2⟩ := K.ro; omega
  have rv1 := sv_R g ((i : Int) + 1)
  have rv2 := sv_R g ((i : Int) + 2)
  have rv3 := sv_R g ((i : Int) + 3)
  have rv4 := sv_R g ((i : Int) + 4)
  refine wp_aload_n (pc := 1064) dL_law_1064 rfl ?_
  refine wd_Vs (pc := 1065) dL_law_1065 cl_L_140 (sp_D_groups K (by first | assumption | omega)) rfl rfl K.o (by rfl) ⟨by decide, by decide, rfl, rfl, by show _ ≤ 601024; omega, by show _ ≤ 7293034; omega⟩ (Nat.le_of_ble_eq_true rfl) (fun hp1 e1 => ?_)
  obtain ⟨K1, O1⟩ := e1
  have M1 := M.mv (fun x a b => O1.2 x (by omega))
  have hf1 := (O1.2 ot (by omega)).trans hf
  refine wp_aload_n (pc := 1068) dL_law_1068 rfl ?_
  refine wd_Vs (pc := 1069) dL_law_1069 cl_L_143 (sp_Ref_groups M1 (by first | assumption | omega)) rfl rfl M1.o (by rfl) ⟨by decide, by decide, rfl, rfl, by show _ ≤ 601024; omega, by show _ ≤ 7293034; omega⟩ (Nat.le_of_ble_eq_true rfl) (fun hp2 e2 => ?_)
  obtain ⟨M2, O2⟩ := e2
  have K2 := K1.mv (fun x a b => O2.2 x (by omega))
  have hf2 := (O2.2 ot (by omega)).trans hf1
  refine wp_icmpx_eq (pc := 1072) 1545 dL_law_1072 (by decide) (fun _ => ?_) (fun c => absurd rfl c)
  exact Kn _ _ _ ⟨_, _, _, _, _, _, _, _, _, _, K2, M2, ⟨f, hf2⟩, X.mo (by omega)⟩ (by omega) (by omega)
theorem lc_27 (hd : D + 171 ≤ q ∧ q + 25 ≤ ot) (hi : i + 5 ≤ scL g) (hL : scL g ≤ 2560) (hB : 0 ≤ B ∧ B ≤ 1000000) (hk : k + 1 ≤ 601024) (hn : n + 6 ≤ 7293034) (L : LSt hp D q ot B) (Kn : ∀ hp2 k2 n2, LSt hp2 D q ot (B + 1000) → k2 ≤ k + 1 → n2 ≤ n + 6 → wp g ML_law room_1 Q k2 n2 1545 (lls D q ot i) [] hp2) : wp g ML_law room_1 Q k n 1077 (lls D q ot i) [] hp := by
  obtain ⟨N, T, U, tx, rw, rt, hs, ss, KT, th, ⟨r, s, Tr, z, Z, K⟩, M, ⟨f, hf⟩, X⟩ := L
  have hI := X.1.1
  have hH := X.1.2.1
  have hZ := X.1.2.2.1
  have hZD := X.1.2.2.2.1
  have hb : T 7 0 < 1900000000 := by have := X.1.2.2.2.2; omega
  have hl := X.2.2.1
  have ho := X.2.2.2.1
  have so := X.2.2.2.2.1
  have hK8 := X.k8
  have hrl : rw.length ≤ 16 := by obtain ⟨F, r0, r1, q1, q2⟩ := K.ro; omega
  have rv1 := sv_R g ((i : Int) + 1)
  have rv2 := sv_R g ((i : Int) + 2)
  have rv3 := sv_R g ((i : Int) + 3)
  have rv4 := sv_R g ((i : Int) + 4)
  refine wp_aload_n (pc := 1077) dL_law_1077 rfl ?_
  refine wd_Vs (pc := 1078) dL_law_1078 cl_L_144 (sp_D_streets K (by first | assumption | omega) (by first | assumption | omega)) rfl rfl K.o (by rfl) ⟨by decide, by decide, rfl, rfl, by show _ ≤ 601024; omega, by show _ ≤ 7293034; omega⟩ (Nat.le_of_ble_eq_true rfl) (fun hp1 e1 => ?_)
  obtain ⟨K1, O1⟩ := e1
  have M1 := M.mv (fun x a b => O1.2 x (by omega))
  have hf1 := (O1.2 ot (by omega)).trans hf
  refine wp_aload_n (pc := 1081) dL_law_1081 rfl ?_
  refine wd_Vs (pc := 1082) dL_law_1082 cl_L_147 (sp_Ref_streets M1 (by first | assumption | omega)) rfl rfl M1.o (by rfl) ⟨by decide, by decide, rfl, rfl, by show _ ≤ 601024; omega, by show _ ≤ 7293034; omega⟩ (Nat.le_of_ble_eq_true rfl) (fun hp2 e2 => ?_)
  obtain ⟨M2, O2⟩ := e2
  have K2 := K1.mv (fun x a b => O2.2 x (by omega))
  have hf2 := (O2.2 ot (by omega)).trans hf1
  refine wp_icmpx_eq (pc := 1085) 1545 dL_law_1085 (by decide) (fun _ => ?_) (fun c => absurd rfl c)
  exact Kn _ _ _ ⟨_, _, _, _, _, _, _, _, _, _, K2, M2, ⟨f, hf2⟩, X.t0.mo (by omega)⟩ (by omega) (by omega)
theorem lc_28 (hd : D + 171 ≤ q ∧ q + 25 ≤ ot) (hi : i + 5 ≤ scL g) (hL : scL g ≤ 2560) (hB : 0 ≤ B ∧ B ≤ 1000000) (hk : k + 1 ≤ 601024) (hn : n + 6 ≤ 7293034) (L : LSt hp D q ot B) (Kn : ∀ hp2 k2 n2, LSt hp2 D q ot (B + 1000) → k2 ≤ k + 1 → n2 ≤ n + 6 → wp g ML_law room_1 Q k2 n2 1545 (lls D q ot i) [] hp2) : wp g ML_law room_1 Q k n 1090 (lls D q ot i) [] hp := by
  obtain ⟨N, T, U, tx, rw, rt, hs, ss, KT, th, ⟨r, s, Tr, z, Z, K⟩, M, ⟨f, hf⟩, X⟩ := L
  have hI := X.1.1
  have hH := X.1.2.1
  have hZ := X.1.2.2.1
  have hZD := X.1.2.2.2.1
  have hb : T 7 0 < 1900000000 := by have := X.1.2.2.2.2; omega
  have hl := X.2.2.1
  have ho := X.2.2.2.1
  have so := X.2.2.2.2.1
  have hK8 := X.k8
  have hrl : rw.length ≤ 16 := by obtain ⟨F, r0, r1, q1, q2⟩ := K.ro; omega
  have rv1 := sv_R g ((i : Int) + 1)
  have rv2 := sv_R g ((i : Int) + 2)
  have rv3 := sv_R g ((i : Int) + 3)
  have rv4 := sv_R g ((i : Int) + 4)
  refine wp_aload_n (pc := 1090) dL_law_1090 rfl ?_
  refine wp_aload_n (pc := 1091) dL_law_1091 rfl ?_
  refine wp_iload (pc := 1092) dL_law_1092 rfl ?_
  refine wp_iconst (pc := 1094) dL_law_1094 ?_
  refine wp_iadd (pc := 1095) dL_law_1095 ?_
  refine wp_sld (pc := 1096) dL_law_1096 (by omega) (by omega) hL ?_
  refine wp_aload_n (pc := 1097) dL_law_1097 rfl ?_
  refine wp_iload (pc := 1098) dL_law_1098 rfl ?_
  refine wp_iconst (pc := 1100) dL_law_1100 ?_
  refine wp_iadd (pc := 1101) dL_law_1101 ?_
  refine wp_sld (pc := 1102) dL_law_1102 (by omega) (by omega) hL ?_
  refine wd_Vs (pc := 1103) dL_law_1103 cl_L_148 (sp_D_heard K (by first | assumption | omega) (by first | assumption | omega)) rfl rfl K.o (by rfl) ⟨by decide, by decide, rfl, rfl, by show _ ≤ 601024; omega, by show _ ≤ 7293034; omega⟩ (Nat.le_of_ble_eq_true rfl) (fun hp1 e1 => ?_)
  obtain ⟨K1, O1⟩ := e1
  have M1 := M.mv (fun x a b => O1.2 x (by omega))
  have hf1 := (O1.2 ot (by omega)).trans hf
  refine wp_aload_n (pc := 1106) dL_law_1106 rfl ?_
  refine wp_aload_n (pc := 1107) dL_law_1107 rfl ?_
  refine wp_iload (pc := 1108) dL_law_1108 rfl ?_
  refine wp_iconst (pc := 1110) dL_law_1110 ?_
  refine wp_iadd (pc := 1111) dL_law_1111 ?_
  refine wp_sld (pc := 1112) dL_law_1112 (by omega) (by omega) hL ?_
  refine wp_aload_n (pc := 1113) dL_law_1113 rfl ?_
  refine wp_iload (pc := 1114) dL_law_1114 rfl ?_
  refine wp_iconst (pc := 1116) dL_law_1116 ?_
  refine wp_iadd (pc := 1117) dL_law_1117 ?_
  refine wp_sld (pc := 1118) dL_law_1118 (by omega) (by omega) hL ?_
  refine wd_Vs (pc := 1119) dL_law_1119 cl_L_151 (sp_Ref_heard M1 (by first | assumption | omega) (by first | assumption | omega)) rfl rfl M1.o (by rfl) ⟨by decide, by decide, rfl, rfl, by show _ ≤ 601024; omega, by show _ ≤ 7293034; omega⟩ (Nat.le_of_ble_eq_true rfl) (fun hp2 e2 => ?_)
  obtain ⟨M2, O2⟩ := e2
  have K2 := K1.mv (fun x a b => O2.2 x (by omega))
  have hf2 := (O2.2 ot (by omega)).trans hf1
  refine wp_icmpx_eq (pc := 1122) 1545 dL_law_1122 (by decide) (fun _ => ?_) (fun c => absurd rfl c)
  exact Kn _ _ _ ⟨_, _, _, _, _, _, _, _, _, _, K2, M2, ⟨f, hf2⟩, X.heard.mo (by omega)⟩ (by omega) (by omega)
theorem lc_29 (hd : D + 171 ≤ q ∧ q + 25 ≤ ot) (hi : i + 5 ≤ scL g) (hL : scL g ≤ 2560) (hB : 0 ≤ B ∧ B ≤ 1000000) (hk : k + 1 ≤ 601024) (hn : n + 6 ≤ 7293034) (L : LSt hp D q ot B) (Kn : ∀ hp2 k2 n2, LSt hp2 D q ot (B + 1000) → k2 ≤ k + 1 → n2 ≤ n + 6 → wp g ML_law room_1 Q k2 n2 1545 (lls D q ot i) [] hp2) : wp g ML_law room_1 Q k n 1127 (lls D q ot i) [] hp := by
  obtain ⟨N, T, U, tx, rw, rt, hs, ss, KT, th, ⟨r, s, Tr, z, Z, K⟩, M, ⟨f, hf⟩, X⟩ := L
  have hI := X.1.1
  have hH := X.1.2.1
  have hZ := X.1.2.2.1
  have hZD := X.1.2.2.2.1
  have hb : T 7 0 < 1900000000 := by have := X.1.2.2.2.2; omega
  have hl := X.2.2.1
  have ho := X.2.2.2.1
  have so := X.2.2.2.2.1
  have hK8 := X.k8
  have hrl : rw.length ≤ 16 := by obtain ⟨F, r0, r1, q1, q2⟩ := K.ro; omega
  have rv1 := sv_R g ((i : Int) + 1)
  have rv2 := sv_R g ((i : Int) + 2)
  have rv3 := sv_R g ((i : Int) + 3)
  have rv4 := sv_R g ((i : Int) + 4)
  refine wp_aload_n (pc := 1127) dL_law_1127 rfl ?_
  refine wd_Vs (pc := 1128) dL_law_1128 cl_L_152 (sp_D_forget K ) rfl rfl K.o (by rfl) ⟨by decide, by decide, rfl, rfl, by show _ ≤ 601024; omega, by show _ ≤ 7293034; omega⟩ (Nat.le_of_ble_eq_true rfl) (fun hp1 e1 => ?_)
  obtain ⟨K1, O1⟩ := e1
  have M1 := M.mv (fun x a b => O1.2 x (by omega))
  have hf1 := (O1.2 ot (by omega)).trans hf
  refine wp_aload_n (pc := 1131) dL_law_1131 rfl ?_
  refine wd_Vs (pc := 1132) dL_law_1132 cl_L_155 (sp_Ref_forget M1 ) rfl rfl M1.o (by rfl) ⟨by decide, by decide, rfl, rfl, by show _ ≤ 601024; omega, by show _ ≤ 7293034; omega⟩ (Nat.le_of_ble_eq_true rfl) (fun hp2 e2 => ?_)
  obtain ⟨M2, O2⟩ := e2
  have K2 := K1.mv (fun x a b => O2.2 x (by omega))
  have hf2 := (O2.2 ot (by omega)).trans hf1
  refine wp_icmpx_eq (pc := 1135) 1545 dL_law_1135 (by decide) (fun _ => ?_) (fun c => absurd rfl c)
  exact Kn _ _ _ ⟨_, _, _, _, _, _, _, _, _, _, K2, M2, ⟨f, hf2⟩, X.forget.mo (by omega)⟩ (by omega) (by omega)
end LC

