/-- only the row q was written -/
def WR (q : Nat) (S T : pq_S) : Prop := pL T = pL S ∧ pK T = pK S ∧ pR T = pR S ∧ pN T = pN S ∧ pQ T = pQ S ∧ pI T = pI S ∧ ∀ a i, a ≠ q → pA T a i = pA S a i
theorem WR.rf (q : Nat) (S : pq_S) : WR q S S := ⟨rfl, rfl, rfl, rfl, rfl, rfl, fun _ _ _ => rfl⟩
theorem WR.tr {q : Nat} {S T U : pq_S} (h : WR q S T) (k : WR q T U) : WR q S U := ⟨k.1.trans h.1, k.2.1.trans h.2.1, k.2.2.1.trans h.2.2.1, k.2.2.2.1.trans h.2.2.2.1, k.2.2.2.2.1.trans h.2.2.2.2.1, k.2.2.2.2.2.1.trans h.2.2.2.2.2.1, fun a i x => (k.2.2.2.2.2.2 a i x).trans (h.2.2.2.2.2.2 a i x)⟩
theorem WR.st (q : Nat) (S : pq_S) (i : Nat) (v : Int32) : WR q S (sA S q i v) := ⟨rfl, rfl, rfl, rfl, rfl, rfl, fun b j x => by rw [pA_sA, if_neg (fun z => x z.1)]⟩
theorem r_keep1 {n a c q o N : Nat} (hcq : c ≠ q) (hN : N < 2 ^ 20) (ho : o < 2 ^ 20) {L M : Nat} (hL : o + N ≤ L) (hL2 : L < 2 ^ 21) (hM : N ≤ M) (hM2 : M < 2 ^ 21) : ∀ (m k f : Nat) (S : pq_S), k + m = N → m < f → pR S 1271 a = some q → pN S q = L → pN S c = M → ∃ T, b_X12_keepsRow_3 n f a (nI o) c (nI N) 1 (nI k) S = some (nI (o + N), T) ∧ WR q S T ∧ (∀ i, ¬ (o + k ≤ i ∧ i < o + N) → pA T q i = pA S q i) ∧ ∀ i, k ≤ i → i < N → pA T q (o + i) = pA S c i := by
  intro m
  induction m with
  | zero =>
    intro k f S h1 h2 hr hq hc
    obtain ⟨f, rfl⟩ : ∃ g, f = g + 1 := ⟨f - 1, by omega⟩
    have : k = N := by omega
    subst this
    refine ⟨S, ?_, WR.rf _ _, fun _ _ => rfl, fun i h3 h4 => by omega⟩
    rw [b_X12_keepsRow_3, if_pos (Int32.le_refl _), b_X12_keepsRow_49, nI_add]
  | succ m ih =>
    intro k f S h1 h2 hr hq hc
    obtain ⟨f, rfl⟩ : ∃ g, f = g + 1 := ⟨f - 1, by omega⟩
    obtain ⟨T, t1, t2, t4, t5⟩ := ih (k + 1) f (sA S q (o + k) (pA S c k)) (by omega) (by omega) hr hq hc
    refine ⟨T, ?_, (WR.st ..).tr t2, fun i hi => ?_, fun i h3 h4 => ?_⟩
    · rw [← t1, b_X12_keepsRow_3, if_neg (by simp (disch := omega) only [LIT, ofN, nI_add, pk_mul, ixn, nI_clamp, nI_ltI, nI_leI, nI_eq, Nat.add_zero, Nat.zero_add, Nat.mul_zero, Nat.mul_one, Nat.reduceMul]; omega), if_neg (by decide)]
      simp (disch := omega) only [hr, hq, hc, b_X12_keepsRow_43, ob_mk, lt_mk, ck_if, nI_add, ixn, nI_clamp, if_true]
      rw [show nI k + 1 = nI (k + 1) from nI_add k 1]
    · rw [t4 i (by omega), pA_sA, if_neg (by omega)]
    · by_cases e : i = k
      · subst e
        rw [t4 (o + i) (by omega), pA_sA, if_pos ⟨rfl, rfl⟩]
      · rw [t5 i (by omega) h4, pA_sA, if_neg (fun z => hcq z.1)]
theorem r_keep0 {n a c q o N : Nat} (hcq : q ≠ c) (hN : N < 2 ^ 20) (ho : o < 2 ^ 20) {L M : Nat} (hL : o + N ≤ L) (hL2 : L < 2 ^ 21) (hM : N ≤ M) (hM2 : M < 2 ^ 21) : ∀ (m k f : Nat) (S : pq_S), k + m = N → m < f → pR S 1271 a = some q → pN S q = L → pN S c = M → ∃ T, b_X12_keepsRow_3 n f a (nI o) c (nI N) 0 (nI k) S = some (nI (o + N), T) ∧ WR c S T ∧ (∀ i, i < k → pA T c i = pA S c i) ∧ ∀ i, k ≤ i → i < N → pA T c i = pA S q (o + i) := by
  intro m
  induction m with
  | zero =>
    intro k f S h1 h2 hr hq hc
    obtain ⟨f, rfl⟩ : ∃ g, f = g + 1 := ⟨f - 1, by omega⟩
    have : k = N := by omega
    subst this
    refine ⟨S, ?_, WR.rf _ _, fun _ _ => rfl, fun i h3 h4 => by omega⟩
    rw [b_X12_keepsRow_3, if_pos (Int32.le_refl _), b_X12_keepsRow_49, nI_add]
  | succ m ih =>
    intro k f S h1 h2 hr hq hc
    obtain ⟨f, rfl⟩ : ∃ g, f = g + 1 := ⟨f - 1, by omega⟩
    obtain ⟨T, t1, t2, t4, t5⟩ := ih (k + 1) f (sA S c k (pA S q (o + k))) (by omega) (by omega) hr hq hc
    refine ⟨T, ?_, (WR.st ..).tr t2, fun i hi => ?_, fun i h3 h4 => ?_⟩
    · rw [← t1, b_X12_keepsRow_3, if_neg (by simp (disch := omega) only [LIT, ofN, nI_add, pk_mul, ixn, nI_clamp, nI_ltI, nI_leI, nI_eq, Nat.add_zero, Nat.zero_add, Nat.mul_zero, Nat.mul_one, Nat.reduceMul]; omega), if_pos rfl]
      simp (disch := omega) only [hr, hq, hc, b_X12_keepsRow_43, ob_mk, lt_mk, ck_if, nI_add, ixn, nI_clamp, if_true]
      rw [show nI k + 1 = nI (k + 1) from nI_add k 1]
    · rw [t4 i (by omega), pA_sA, if_neg (by omega)]
    · by_cases e : i = k
      · subst e
        rw [t4 i (by omega), pA_sA, if_pos ⟨rfl, rfl⟩]
      · rw [t5 i (by omega) h4, pA_sA, if_neg (fun z => hcq z.1)]
theorem WR.kp {F : List Nat} {P : List (Nat × Nat)} {AA : List Nat} {A : Nat → Nat} {j : Nat} {S T : pq_S} (h : WR (A j) S T) (h2 : j ∈ AA) : KPL F P AA A S T := ⟨fun a k x => ⟨by rw [h.1]; exact x.1, by rw [h.2.1]; exact x.2⟩, fun f a _ _ => by rw [h.2.2.1], fun a _ => by rw [h.2.2.2.1], fun a i _ => by rw [h.2.2.2.2.1], fun f a q _ _ => by rw [h.2.2.2.2.2.1], fun a i _ q _ => h.2.2.2.2.2.2 a i (q j h2), Or.inl (by rw [h.2.2.1])⟩
/-- an image is kept -/
theorem r_all1 {n : Nat} {A : Nat → Nat} {S : pq_S} {x wk : Nat} (hn : 20000 ≤ n) (hl : LAY A S) (hx : x < 3) (hw : pI S 1241 (A 60) = nI wk) : ∃ T, m_X12_keepsAll n (A 60) (nI x) 1 S = some T ∧ WR (A 91) S T ∧ (∀ i, ¬ (851 * x ≤ i ∧ i < 851 * x + 851) → pA T (A 91) i = pA S (A 91) i) ∧ (∀ i, i < 50 → pA T (A 91) (851 * x + i) = pA S (A 80) i) ∧ (∀ i, i < 800 → pA T (A 91) (851 * x + 50 + i) = pA S (A 82) i) ∧ pA T (A 91) (851 * x + 850) = nI wk := by
  have n1 := hl.ne (i := 80) (j := 91) (by decide) (by decide) (by decide)
  have n2 := hl.ne (i := 82) (j := 91) (by decide) (by decide) (by decide)
  obtain ⟨T1, a1, a2, a3, a4⟩ := r_keep1 (n := n) (a := A 60) (c := A 80) (q := A 91) (o := 851 * x) (N := 50) n1 (by decide) (by omega) (L := 2553) (M := 50) (by omega) (by decide) (by decide) (by decide) 50 0 n S (by decide) (by omega) hl.r60_1271 hl.n91 hl.n80
  obtain ⟨T2, b1, b2, b3, b4⟩ := r_keep1 (n := n) (a := A 60) (c := A 82) (q := A 91) (o := 851 * x + 50) (N := 800) n2 (by decide) (by omega) (L := 2553) (M := 800) (by omega) (by decide) (by decide) (by decide) 800 0 n T1 (by decide) (by omega) (by rw [a2.2.2.1]; exact hl.r60_1271) (by rw [a2.2.2.2.1]; exact hl.n91) (by rw [a2.2.2.2.1]; exact hl.n82)
  have w := a2.tr b2
  refine ⟨sA T2 (A 91) (851 * x + 850) (nI wk), ?_, w.tr (WR.st ..), fun i hi => ?_, fun i hi => ?_, fun i hi => ?_, ?_⟩
  · unfold m_X12_keepsAll m_X12_keepsRow
    rw [hl.r60_1246, ob_mk, show (851 : Int32) * nI x = nI (851 * x) from pk_mul 851 x]
    rw [show b_X12_keepsRow_3 n n (A 60) (nI (851 * x)) (A 80) 50 1 0 S = some (nI (851 * x + 50), T1) from a1, cb_mk, a2.2.2.1, hl.r60_1248, ob_mk]
    rw [show b_X12_keepsRow_3 n n (A 60) (nI (851 * x + 50)) (A 82) 800 1 0 T1 = some (nI (851 * x + 50 + 800), T2) from b1, cb_mk, if_neg (by decide), w.2.2.1, hl.r60_1271, ob_mk, w.2.2.2.1, hl.n91, ck_pos (ix_nI (by omega) (by decide)), nI_clamp (show 851 * x + 50 + 800 < 2 ^ 31 by omega), w.2.2.2.2.2.1, hw]
  · rw [pA_sA, if_neg (by omega), b3 i (by omega), a3 i (by omega)]
  · rw [pA_sA, if_neg (by omega), b3 _ (by omega), a4 i (by omega) hi]
  · rw [pA_sA, if_neg (by omega), b4 i (by omega) hi, a2.2.2.2.2.2.2 _ _ n2]
  · rw [pA_sA, if_pos ⟨rfl, rfl⟩]
theorem r_all0 {n : Nat} {A : Nat → Nat} {S : pq_S} {x : Nat} (hn : 20000 ≤ n) (hl : LAY A S) (hx : x < 3) : ∃ T1 T2, m_X12_keepsAll n (A 60) (nI x) 0 S = some (sI T2 1241 (A 60) (pA S (A 91) (851 * x + 850))) ∧ WR (A 80) S T1 ∧ WR (A 82) T1 T2 ∧ (∀ i, i < 50 → pA T2 (A 80) i = pA S (A 91) (851 * x + i)) ∧ ∀ i, i < 800 → pA T2 (A 82) i = pA S (A 91) (851 * x + 50 + i) := by
  have n1 := hl.ne (i := 91) (j := 80) (by decide) (by decide) (by decide)
  have n2 := hl.ne (i := 91) (j := 82) (by decide) (by decide) (by decide)
  have n3 := hl.ne (i := 80) (j := 82) (by decide) (by decide) (by decide)
  obtain ⟨T1, a1, a2, a3, a4⟩ := r_keep0 (n := n) (a := A 60) (c := A 80) (q := A 91) (o := 851 * x) (N := 50) n1 (by decide) (by omega) (L := 2553) (M := 50) (by omega) (by decide) (by decide) (by decide) 50 0 n S (by decide) (by omega) hl.r60_1271 hl.n91 hl.n80
  obtain ⟨T2, b1, b2, b3, b4⟩ := r_keep0 (n := n) (a := A 60) (c := A 82) (q := A 91) (o := 851 * x + 50) (N := 800) n2 (by decide) (by omega) (L := 2553) (M := 800) (by omega) (by decide) (by decide) (by decide) 800 0 n T1 (by decide) (by omega) (by rw [a2.2.2.1]; exact hl.r60_1271) (by rw [a2.2.2.2.1]; exact hl.n91) (by rw [a2.2.2.2.1]; exact hl.n82)
  refine ⟨T1, T2, ?_, a2, b2, fun i hi => ?_, fun i hi => ?_⟩
  · unfold m_X12_keepsAll m_X12_keepsRow
    rw [hl.r60_1246, ob_mk, show (851 : Int32) * nI x = nI (851 * x) from pk_mul 851 x]
    rw [show b_X12_keepsRow_3 n n (A 60) (nI (851 * x)) (A 80) 50 0 0 S = some (nI (851 * x + 50), T1) from a1, cb_mk, a2.2.2.1, hl.r60_1248, ob_mk]
    rw [show b_X12_keepsRow_3 n n (A 60) (nI (851 * x + 50)) (A 82) 800 0 0 T1 = some (nI (851 * x + 50 + 800), T2) from b1, cb_mk, if_pos rfl, b2.2.2.1, a2.2.2.1, hl.r60_1271, ob_mk, b2.2.2.2.1, a2.2.2.2.1, hl.n91, ck_pos (ix_nI (by omega) (by decide)), nI_clamp (show 851 * x + 50 + 800 < 2 ^ 31 by omega), b2.2.2.2.2.2.2 _ _ n2, a2.2.2.2.2.2.2 _ _ n1]
  · rw [b2.2.2.2.2.2.2 _ _ n3, a4 i (by omega) hi]
  · rw [b4 i (by omega) hi, a2.2.2.2.2.2.2 _ _ n1]
