/-! what stays so over all calls -/
section XJ
variable {N n k m : Nat} {T X : Nat → Int → Int} {U : List (Nat → Int → Int)} {tx rw rt l : List Int} {hs : List (Int × Int)} {ss : List (Int × Int × Int)} {KT : Nat → Option (Nat → Int → Int)} {cs : List Int} {a b c p q x y w B B2 : Int}
def TG (T : Nat → Int → Int) (N : Nat) (B : Int) : Prop := TI T N ∧ HS T ∧ ZT T N ∧ ZD T ∧ T 7 0 ≤ B
theorem TG.mo (h : TG T N B) (hb : B ≤ B2) : TG T N B2 := ⟨h.1, h.2.1, h.2.2.1, h.2.2.2.1, Int.le_trans h.2.2.2.2 hb⟩
/-- debts and the places beyond the people as they were, but for what is set among the people -/
theorem ZT.of (h : ZT T N) (h1 : ∀ a b : Int, 0 ≤ a ∧ a < 6 → 0 ≤ b ∧ b < 6 → ((N : Int) ≤ a ∨ (N : Int) ≤ b) → T 1 (a * 6 + b) = 0 → X 1 (a * 6 + b) = 0) (h3 : ∀ a : Int, (N : Int) ≤ a → a < 6 → X 3 a = T 3 a ∧ X 4 a = T 4 a ∧ X 5 a = T 5 a ∧ X 6 a = T 6 a) : ZT X N := ⟨fun a b ra rb q => h1 a b ra rb q (h.1 a b ra rb q), fun a ra rb => by
  obtain ⟨e3, e4, e5, e6⟩ := h3 a ra rb
  rw [e3, e4, e5, e6]
  exact h.2 a ra rb⟩
theorem pas_1 (h : T 1 x = 0) : pasT cs T N 1 x = 0 := by
  show upto (T 1) (gDb (heT (iw cs T) T N N) N) ((N : Int) * 6) x = 0
  unfold upto
  split
  · unfold gDb
    have e : heT (iw cs T) T N N 1 x = T 1 x := rfl
    rw [e, h]
    simp
  · exact h
theorem pas_k (h : (N : Int) ≤ a) : pasT cs T N 3 a = T 3 a ∧ pasT cs T N 4 a = T 4 a ∧ pasT cs T N 5 a = T 5 a ∧ pasT cs T N 6 a = T 6 a := by
  refine ⟨?_, rfl, ?_, ?_⟩
  · show upto (T 3) _ (N : Int) a = T 3 a
    exact if_neg (by omega)
  · show upto (T 5) _ (N : Int) a = T 5 a
    exact if_neg (by omega)
  · show upto (T 6) _ (N : Int) a = T 6 a
    exact if_neg (by omega)
theorem TG.pas (h : TG T N B) (hb : B < 1900000000) : TG (pasT cs T N) N (B + 1) := ⟨pasT_I h.1 (by have := h.2.2.2.2; omega), pasT_HS h.1 h.2.1, h.2.2.1.of (fun a b _ _ _ e => pas_1 e) (fun a ra _ => pas_k ra), fun i r1 r2 => pas_1 (h.2.2.2.1 i r1 r2), by have := h.2.2.2.2; show T 7 0 + 1 ≤ B + 1; omega⟩
theorem TG.run (h : TG T N B) (hb : B < 1800000000) : ∀ n : Nat, n < 1000 → TG (runT cs T N n) N (B + n)
  | 0, _ => by show TG T N _; exact h.mo (by omega)
  | n + 1, hn => by
    have := (TG.run h hb n (by omega)).pas (cs := cs) (by omega)
    exact this.mo (by omega)
theorem dieT_k (k : Nat) (h : k ≠ 5 ∧ k ≠ 4 ∧ k ≠ 6 ∨ ¬ a = p) : dieT T N p q k a = T k a := by
  unfold dieT
  split
  · by_cases c6 : k = 6
    · subst c6; rw [up_eq, updI_ne (by omega), up_ne (by decide), up_ne (by decide)]
    · rw [up_ne c6]
      by_cases c4 : k = 4
      · subst c4; rw [up_eq, updI_ne (by omega), up_ne (by decide)]
      · rw [up_ne c4]
        by_cases c5 : k = 5
        · subst c5; rw [up_eq, updI_ne (by omega)]
        · rw [up_ne c5]
  · rfl
theorem dieT_no (h : ¬ (0 ≤ p ∧ p < N)) : dieT T N p q = T := if_neg (fun c => h ⟨c.1, c.2.1⟩)
theorem TG.die (h : TG T N B) : TG (dieT T N p q) N B := by
  by_cases c : 0 ≤ p ∧ p < N
  · exact ⟨dieT_I h.1, dieT_HS h.2.1, h.2.2.1.of (fun a b _ _ _ e => by rw [dieT_k 1 (by omega)]; exact e) (fun a ra _ => ⟨dieT_k 3 (by omega), dieT_k 4 (by omega), dieT_k 5 (by omega), dieT_k 6 (by omega)⟩), fun i r1 r2 => by rw [dieT_k 1 (by omega)]; exact h.2.2.2.1 i r1 r2, by rw [dieT_k 7 (by omega)]; exact h.2.2.2.2⟩
  · rw [dieT_no c]; exact h
theorem couT_k (k : Nat) (h : k ≠ 5 ∧ k ≠ 3 ∨ ¬ a = p) : couT T N p k a = T k a := by
  unfold couT
  split
  · by_cases c3 : k = 3
    · subst c3; rw [up_eq, updI_ne (by omega), up_ne (by decide)]
    · rw [up_ne c3]
      by_cases c5 : k = 5
      · subst c5; rw [up_eq, updI_ne (by omega)]
      · rw [up_ne c5]
  · rfl
theorem couT_no (h : ¬ (0 ≤ p ∧ p < N)) : couT T N p = T := if_neg (fun c => h ⟨c.1, c.2.1⟩)
theorem TG.cou (h : TG T N B) : TG (couT T N p) N B := by
  by_cases c : 0 ≤ p ∧ p < N
  · exact ⟨couT_I h.1, couT_HS h.2.1, h.2.2.1.of (fun a b _ _ _ e => by rw [couT_k 1 (by omega)]; exact e) (fun a ra _ => ⟨couT_k 3 (by omega), couT_k 4 (by omega), couT_k 5 (by omega), couT_k 6 (by omega)⟩), fun i r1 r2 => by rw [couT_k 1 (by omega)]; exact h.2.2.2.1 i r1 r2, by rw [couT_k 7 (by omega)]; exact h.2.2.2.2⟩
  · rw [couT_no c]; exact h
theorem lenT_k (k : Nat) (h1 : k ≠ 1) (h2 : k ≠ 2) : lenT T N p q w k = T k := lenT_o h2 h1
theorem lenT_1 (h : ¬ a = q * 6 + p ∨ ¬ (0 ≤ p ∧ p < N ∧ 0 ≤ q ∧ q < N ∧ p ≠ q)) : lenT T N p q w 1 a = T 1 a := by
  unfold lenT
  split
  · rename_i c
    rw [up_eq]
    have : ¬ a = q * 6 + p := by omega
    rw [updI_ne this]
    rfl
  · rfl
theorem payT_1 (h : ¬ a = p * 6 + q ∨ ¬ (0 ≤ p ∧ p < N ∧ 0 ≤ q ∧ q < N ∧ p ≠ q)) : payT T N p q w 1 a = T 1 a := by
  unfold payT
  split
  · rename_i c
    rw [up_eq]
    have : ¬ a = p * 6 + q := by omega
    rw [updI_ne this]
    rfl
  · rfl
theorem TG.len (h : TG T N B) : TG (lenT T N p q w) N B := by
  have hN := h.1.men.2
  refine ⟨lenT_I h.1, h.2.1.of (lenT_o (by decide) (by decide)), h.2.2.1.of (fun a b ra rb q2 e => by rw [lenT_1 (by omega)]; exact e) (fun a ra _ => ⟨by rw [lenT_o (by decide) (by decide)], by rw [lenT_o (by decide) (by decide)], by rw [lenT_o (by decide) (by decide)], by rw [lenT_o (by decide) (by decide)]⟩), fun i r1 r2 => by rw [lenT_1 (by omega)]; exact h.2.2.2.1 i r1 r2, by rw [lenT_o (by decide) (by decide)]; exact h.2.2.2.2⟩
theorem TG.pay (h : TG T N B) : TG (payT T N p q w) N B := by
  have hN := h.1.men.2
  refine ⟨payT_I h.1, h.2.1.of (payT_o (by decide) (by decide)), h.2.2.1.of (fun a b ra rb q2 e => by rw [payT_1 (by omega)]; exact e) (fun a ra _ => ⟨by rw [payT_o (by decide) (by decide)], by rw [payT_o (by decide) (by decide)], by rw [payT_o (by decide) (by decide)], by rw [payT_o (by decide) (by decide)]⟩), fun i r1 r2 => by rw [payT_1 (by omega)]; exact h.2.2.2.1 i r1 r2, by rw [payT_o (by decide) (by decide)]; exact h.2.2.2.2⟩
theorem TG.sht {f st i : Int} (h : TG T N B) : TG (shT T x y f st i) N B := ⟨shT_I h.1, h.2.1.of rfl, h.2.2.1.of (fun a b _ _ _ e => e) (fun a _ _ => ⟨rfl, rfl, rfl, rfl⟩), h.2.2.2.1, h.2.2.2.2⟩
theorem TG.act (h : TG T N B) (hb : B < 1800000000) (rx : 0 ≤ x ∧ x ≤ 9) : TG (acT cs T N c x y w) N (B + 9) := by
  unfold acT
  split
  · exact (h.run hb x.toNat (by omega)).mo (by omega)
  · split
    · exact h.die.mo (by omega)
    · split
      · exact h.cou.mo (by omega)
      · split
        · exact h.len.mo (by omega)
        · exact h.pay.mo (by omega)
theorem TG.aft (h : TG T N B) (hb : B < 1700000000) (hR : AR l n) : ∀ i : Nat, i ≤ n → i ≤ 61 → TG (afT cs l T N i) N (B + 9 * i)
  | 0, _, _ => by show TG T N _; exact h.mo (by omega)
  | i + 1, h1, h2 => ((TG.aft h hb hR i (by omega) (by omega)).act (cs := cs) (by omega) (abd_x (hR i (by omega)).1)).mo (by omega)
theorem gd_le {f : Nat} : ∀ i : Nat, i ≤ n → gd cs l T N n f i ≤ n := by
  induction f with
  | zero => intro i h; exact h
  | succ f ih =>
    intro i h
    unfold gd
    split
    · exact ih (i + 1) (by omega)
    · exact h
theorem TG.noon (h : TG T N B) (hb : B < 1700000000) : TG (noT cs l T N) N (B + 600) := by
  obtain ⟨hR, h30, -⟩ := af_all l
  unfold noT
  split
  · have hk : afk cs l T N ≤ afn l := gd_le 0 (by omega)
    exact (h.aft (cs := cs) hb hR (afk cs l T N) hk (by omega)).mo (by omega)
  · exact h.mo (by omega)
/-! people that come -/
theorem pp_le (hv : ppv l N = -1) (hne : l ≠ []) : (∀ q, q < l.length → okp l N q) ∧ l.length ≤ 47 ∧ l.length % 8 = 7 := by
  have hF := fbp_ok (l := l) (N := N)
  have hl := hF.le
  have h := ppv_eq hF hne
  rw [hv] at h
  by_cases c : fbp l N = l.length ∧ l.length % 8 = 7
  · exact ⟨fun q hq => hF.2 q (by omega), by omega, c.2⟩
  · rw [if_neg c] at h
    omega
theorem ppT_0 (h0 : ∀ i, 0 ≤ T 0 i ∧ T 0 i ≤ 9) (hok : ∀ q, q < l.length → okp l N q) (h47 : l.length ≤ 47) : ∀ m : Nat, 8 * m ≤ l.length + 1 → ∀ i, 0 ≤ ppT l T N m 0 i ∧ ppT l T N m 0 i ≤ 9
  | 0, _, i => h0 i
  | m + 1, hm, i => by
    show 0 ≤ (if _ then l.getD (8 * m + (i - ((N + m : Nat) : Int) * 6).toNat) 0 - 48 else ppT l T N m 0 i) ∧ (if _ then l.getD (8 * m + (i - ((N + m : Nat) : Int) * 6).toNat) 0 - 48 else ppT l T N m 0 i) ≤ 9
    split
    · rename_i c
      have c1 : ((N + m : Nat) : Int) * 6 ≤ i ∧ i < ((N + m : Nat) : Int) * 6 + 6 := c
      have hq : 8 * m + (i - ((N + m : Nat) : Int) * 6).toNat < l.length := by omega
      have ho := (hok _ hq).2.2 (by omega)
      rw [hr_at hq (by omega)] at ho
      have key : ∀ v : Int, 48 ≤ v ∧ v ≤ 57 → 0 ≤ v - 48 ∧ v - 48 ≤ 9 := fun v h => by omega
      exact key _ ho
    · exact ppT_0 h0 hok h47 m (by omega) i
theorem ppT_2 (h0 : ∀ i, 0 ≤ T 2 i ∧ T 2 i ≤ 99) (hok : ∀ q, q < l.length → okp l N q) (h47 : l.length ≤ 47) : ∀ m : Nat, 8 * m ≤ l.length + 1 → ∀ i, 0 ≤ ppT l T N m 2 i ∧ ppT l T N m 2 i ≤ 99
  | 0, _, i => h0 i
  | m + 1, hm, i => by
    show 0 ≤ updI (ppT l T N m 2) ((N + m : Nat) : Int) (l.getD (8 * m + 6) 0 - 48) i ∧ updI (ppT l T N m 2) ((N + m : Nat) : Int) (l.getD (8 * m + 6) 0 - 48) i ≤ 99
    unfold updI
    split
    · have hq : 8 * m + 6 < l.length := by omega
      have ho := (hok _ hq).2.2 (by omega)
      rw [hr_at hq (by omega)] at ho
      have key : ∀ v : Int, 48 ≤ v ∧ v ≤ 57 → 0 ≤ v - 48 ∧ v - 48 ≤ 99 := fun v h => by omega
      exact key _ ho
    · exact ppT_2 h0 hok h47 m (by omega) i
theorem ppS_k {k : Nat} (h0 : k ≠ 0) (h2 : k ≠ 2) (h8 : k ≠ 8) : ppS l T N k = T k := by
  unfold ppS
  rw [up_ne h8]
  exact ppT_k h0 h2 _
theorem TG.ppl (h : TG T N B) : TG (ppS l T N) (N + ppn l N) B := by
  by_cases c0 : ppn l N = 0
  · rw [ppn_0 h.1 c0, c0]
    exact h
  · have hv : ppv l N = -1 := by
      unfold ppn at c0
      by_cases c : ppv l N = -1
      · exact c
      · rw [if_neg c] at c0; exact absurd rfl c0
    have hm : ppn l N = (l.length + 1) / 8 := if_pos hv
    have hne : l ≠ [] := fun e => c0 (by rw [hm, e]; rfl)
    obtain ⟨hok, h47, h7⟩ := pp_le hv hne
    have hlast := (hok (8 * (ppn l N - 1)) (by omega)).1 (by omega)
    obtain ⟨i8, iN, i0, i1, i2, i3, i4, i5, i6, i7⟩ := h.1
    have e8 : ppS l T N 8 0 = ((N + ppn l N : Nat) : Int) := by unfold ppS; rw [up_eq]; exact updI_eq
    have e0 : ∀ i, ppS l T N 0 i = ppT l T N (ppn l N) 0 i := fun i => by unfold ppS; rw [up_ne (by decide)]
    have e2 : ∀ i, ppS l T N 2 i = ppT l T N (ppn l N) 2 i := fun i => by unfold ppS; rw [up_ne (by decide)]
    have k1 : ppS l T N 1 = T 1 := ppS_k (by decide) (by decide) (by decide)
    have k3 : ppS l T N 3 = T 3 := ppS_k (by decide) (by decide) (by decide)
    have k4 : ppS l T N 4 = T 4 := ppS_k (by decide) (by decide) (by decide)
    have k5 : ppS l T N 5 = T 5 := ppS_k (by decide) (by decide) (by decide)
    have k6 : ppS l T N 6 = T 6 := ppS_k (by decide) (by decide) (by decide)
    have k7 : ppS l T N 7 = T 7 := ppS_k (by decide) (by decide) (by decide)
    refine ⟨⟨e8, by omega, fun i => by rw [e0]; exact ppT_0 i0 hok h47 _ (by omega) i, by rw [k1]; exact i1, fun i => by rw [e2]; exact ppT_2 i2 hok h47 _ (by omega) i, by rw [k3]; exact i3, by rw [k4]; exact i4, by rw [k5]; exact i5, by rw [k6]; exact i6, by rw [k7]; exact i7⟩, h.2.1.of k6, ⟨fun a b ra rb q => by rw [k1]; exact h.2.2.1.1 a b ra rb (by omega), fun a ra rb => by rw [k3, k4, k5, k6]; exact h.2.2.1.2 a (by omega) rb⟩, fun i r1 r2 => by rw [k1]; exact h.2.2.2.1 i r1 r2, by rw [k7]; exact h.2.2.2.2⟩
/-! the whole invariant -/
def XI (B : Int) (N : Nat) (T : Nat → Int → Int) (U : List (Nat → Int → Int)) (tx : List Int) (hs : List (Int × Int)) (ss : List (Int × Int × Int)) (KT : Nat → Option (Nat → Int → Int)) : Prop :=
  TG T N B ∧ (∀ X ∈ U, TG X N B) ∧ byl tx ∧ hsO hs ∧ ssO ss ∧ ∀ k X, KT k = some X → ∃ n, n ≤ N ∧ TG X n B
theorem XI.mo (h : XI B N T U tx hs ss KT) (hb : B ≤ B2) : XI B2 N T U tx hs ss KT := ⟨h.1.mo hb, fun X q => (h.2.1 X q).mo hb, h.2.2.1, h.2.2.2.1, h.2.2.2.2.1, fun k X q => by
  obtain ⟨n, h1, h2⟩ := h.2.2.2.2.2 k X q
  exact ⟨n, h1, h2.mo hb⟩⟩
theorem XI.txt {tx2 : List Int} (h : XI B N T U tx hs ss KT) (ht : byl tx2) : XI B N T U tx2 hs ss KT := ⟨h.1, h.2.1, ht, h.2.2.2⟩
theorem XI.t0 (h : XI B N T U tx hs ss KT) : XI B N T U [] hs ss KT := h.txt (fun v q => by cases q)
theorem XI.sign {v : Int32} (h : XI B N T U tx hs ss KT) : XI B N T U (if tx.length + 4 ≤ 80 then tx ++ by4 v else tx) hs ss KT := h.txt (by
  split
  · intro u q
    rcases List.mem_append.mp q with q | q
    · exact h.2.2.1 u q
    · unfold by4 at q
      simp only [List.mem_cons, List.not_mem_nil, or_false] at q
      rcases q with q | q | q | q
      · rw [q]; have := byt_in v 0; omega
      · rw [q]; have := byt_in v 1; omega
      · rw [q]; have := byt_in v 2; omega
      · rw [q]; have := byt_in v 3; omega
  · exact h.2.2.1)
theorem XI.cut {i : Nat} {Q : Prop} [Decidable Q] (h : XI B N T U tx hs ss KT) : XI B N T U (if Q then tx.take i else tx) hs ss KT := h.txt (by
  split
  · exact fun u q => h.2.2.1 u (List.mem_of_mem_take q)
  · exact h.2.2.1)
/-- a deed: another town of the same people, the one before kept or not -/
theorem XI.deed {Q : Prop} [Decidable Q] (h : XI B N T U tx hs ss KT) (hb : B ≤ B2) (hT : TG X N B2) : XI B2 N X (if Q then (T :: U).take 12 else U) tx hs ss KT := ⟨hT, fun Y q => by
  split at q
  · rcases List.mem_cons.mp (List.mem_of_mem_take q) with q | q
    · rw [q]; exact h.1.mo hb
    · exact (h.2.1 Y q).mo hb
  · exact (h.2.1 Y q).mo hb, h.2.2.1, h.2.2.2.1, h.2.2.2.2.1, (h.mo hb).2.2.2.2.2⟩
theorem XI.town (h : XI B N T U tx hs ss KT) (hT : TG X N B) : XI B N X U tx hs ss KT := ⟨hT, h.2⟩
theorem XI.undo (h : XI B N T U tx hs ss KT) : XI B N (U.headD T) U.tail tx hs ss KT := ⟨by
  cases U with
  | nil => exact h.1
  | cons Y U => exact h.2.1 Y List.mem_cons_self, fun Y q => h.2.1 Y (List.mem_of_mem_tail q), h.2.2⟩
theorem XI.ppl (h : XI B N T U tx hs ss KT) : XI B (N + ppn l N) (ppS l T N) (if ppn l N = 0 then U else []) [] hs ss KT := by
  refine ⟨h.1.ppl, fun Y q => ?_, fun v q => (by cases q), h.2.2.2.1, h.2.2.2.2.1, fun k X q => ?_⟩
  · by_cases c : ppn l N = 0
    · rw [if_pos c] at q
      rw [c]
      exact h.2.1 Y q
    · rw [if_neg c] at q
      cases q
  · obtain ⟨n, h1, h2⟩ := h.2.2.2.2.2 k X q
    exact ⟨n, by omega, h2⟩
theorem XI.noon (h : XI B N T U tx hs ss KT) (hb : B < 1700000000) : XI (B + 1000) N (noT cs l T N) (noU cs l T N U) [] hs ss KT := (XI.deed h (by omega) ((h.1.noon hb).mo (by omega))).t0
theorem hsO_add (h : hsO hs) (hv : heO2 hs x y) : hsO (hs ++ [(x, y)]) := by
  intro i hi
  rw [List.length_append] at hi
  have hi' : i < hs.length + 1 := hi
  by_cases c : i < hs.length
  · have := h i c
    simp only [List.getD_eq_getElem?_getD, List.getElem?_append_left c] at this ⊢
    exact this
  · have e : i = hs.length := by omega
    subst e
    have e2 : (hs ++ [(x, y)]).getD hs.length (0, 0) = (x, y) := by simp
    rw [e2]
    have hm : 0 ≤ x ∧ x ≤ 4 := by
      have h1 := hv.2.1
      have h2 := hv.2.2
      unfold mof at h2
      revert h2
      repeat' split
      all_goals omega
    exact ⟨hm, hv.2.1, hv.2.2⟩
theorem XI.heard (h : XI B N T U tx hs ss KT) : XI B N T U tx (if heO2 hs x y then hs ++ [(x, y)] else hs) ss KT := ⟨h.1, h.2.1, h.2.2.1, by
  split
  · rename_i c
    exact hsO_add h.2.2.2.1 c
  · exact h.2.2.2.1, h.2.2.2.2⟩
theorem XI.forget (h : XI B N T U tx hs ss KT) : XI B N T U tx [] ss KT := ⟨h.1, h.2.1, h.2.2.1, fun i q => absurd q (by simp), h.2.2.2.2⟩
theorem ssO_add (h : ssO ss) (hv : liO ss x y w) : ssO (ss ++ [(x, y, w)]) := by
  intro i hi
  rw [List.length_append] at hi
  have hi' : i < ss.length + 1 := hi
  by_cases c : i < ss.length
  · have := h i c
    simp only [List.getD_eq_getElem?_getD, List.getElem?_append_left c] at this ⊢
    exact this
  · have e : i = ss.length := by omega
    subst e
    have e2 : (ss ++ [(x, y, w)]).getD ss.length (0, 0, 0) = (x, y, w) := by simp
    rw [e2]
    obtain ⟨h1, h2, h3, h4⟩ := hv
    refine ⟨h1, ?_, h3⟩
    show 0 ≤ y ∧ y ≤ 1
    omega
theorem XI.lis (h : XI B N T U tx hs ss KT) : XI B N T U tx hs (if liO ss x y w then ss ++ [(x, y, w)] else ss) KT := ⟨h.1, h.2.1, h.2.2.1, h.2.2.2.1, by
  split
  · rename_i c
    exact ssO_add h.2.2.2.2.1 c
  · exact h.2.2.2.2.1, h.2.2.2.2.2⟩
theorem XI.dbt (h : XI B N T U tx hs ss KT) : XI B N T U tx hs [] KT := ⟨h.1, h.2.1, h.2.2.1, h.2.2.2.1, fun i q => absurd q (by simp), h.2.2.2.2.2⟩
theorem XI.keep {i : Nat} {Q : Prop} [Decidable Q] (h : XI B N T U tx hs ss KT) : XI B N T U tx hs ss (if Q then upK KT i (some T) else KT) := ⟨h.1, h.2.1, h.2.2.1, h.2.2.2.1, h.2.2.2.2.1, by
  split
  · intro k X q
    unfold upK at q
    by_cases c : k = i
    · rw [if_pos c] at q
      cases q
      exact ⟨N, Nat.le_refl _, h.1⟩
    · rw [if_neg c] at q
      exact h.2.2.2.2.2 k X q
  · exact h.2.2.2.2.2⟩
theorem XI.again (h : XI B N T U tx hs ss KT) : XI B N ((agT KT N x).getD T) (if (agT KT N x).isSome = true then [] else U) tx hs ss KT := by
  cases e : agT KT N x with
  | none => exact h
  | some Y =>
    have hY : TG Y N B := by
      unfold agT at e
      split at e
      · cases e2 : KT x.toNat with
        | none => rw [e2] at e; cases e
        | some Z =>
          rw [e2] at e
          dsimp only at e
          split at e
          · rename_i c
            cases e
            obtain ⟨n, h1, h2⟩ := h.2.2.2.2.2 _ _ e2
            have : n = N := by have := h2.1.men.1; omega
            rw [← this]
            exact h2
          · cases e
      · cases e
    exact ⟨hY, fun X q => (by cases q), h.2.2⟩
theorem XI.new : XI 0 0 T0 [] [] [] [] (fun _ => none) := by
  refine ⟨⟨⟨rfl, by decide, ?_, ?_, ?_, ?_, ?_, ?_, ?_, ?_⟩, fun i _ => ?_, ⟨fun a b _ _ _ => rfl, fun a _ _ => ⟨rfl, rfl, rfl, rfl⟩⟩, fun i _ _ => rfl, by decide⟩, fun X q => (by cases q), fun v q => (by cases q), fun i q => absurd q (by simp), fun i q => absurd q (by simp), fun k X q => by cases q⟩
  all_goals first | (intro i; show 0 ≤ (0 : Int) ∧ (0 : Int) ≤ _; exact ⟨by decide, by decide⟩) | (intro i; show 0 ≤ (0 : Int) ∧ (0 : Int) < _; exact ⟨by decide, by decide⟩) | (show 0 ≤ (0 : Int) ∧ (0 : Int) < _; exact ⟨by decide, by decide⟩) | skip
  show ((0 : Int).toNat).testBit i = false
  simp
end XJ

