/-- a state's figure as a plain number -/
def nS (st : Nat → Int32) (i : Nat) : Nat := (st i).toNatClampNeg
theorem nS_of {st : Nat → Int32} {i k : Nat} (hk : k < 2 ^ 31) (e : st i = nI k) : nS st i = k := by
  unfold nS
  rw [e, nI_clamp hk]
theorem SB.h0 {g : GH} {st : Nat → Int32} (h : SB g st) {p : Nat} (hp : p < gP g) : st p = nI (nS st p) ∧ nS st p ≤ 999 := by
  obtain ⟨k, hk, e⟩ := h.1 p hp
  have := nS_of (by omega) e
  rw [this]
  exact ⟨e, hk⟩
theorem SB.h1 {g : GH} {st : Nat → Int32} (h : SB g st) {p : Nat} (hp : p < gP g) : st (6 + p) = nI (nS st (6 + p)) ∧ nS st (6 + p) ≤ 999 := by
  obtain ⟨k, hk, e⟩ := h.2.1 p hp
  have := nS_of (by omega) e
  rw [this]
  exact ⟨e, hk⟩
theorem SB.se {g : GH} {st : Nat → Int32} (h : SB g st) {p : Nat} (hp : p < gM g) : st (42 + p) = nI (nS st (42 + p)) ∧ nS st (42 + p) ≤ 400 := by
  obtain ⟨k, hk, e⟩ := h.2.2.2 p hp
  have := nS_of (by omega) e
  rw [this]
  exact ⟨e, hk⟩
theorem SB.op {g : GH} {st : Nat → Int32} (h : SB g st) {i : Nat} (hi : i < gW g) : st (18 + i) = nI 0 ∨ st (18 + i) = nI 1 := h.2.2.1 i hi
section
variable {g : GH} {A : Nat → Nat} {S : pq_S} {st : Nat → Int32} {n : Nat}
theorem xv_open (h : XV g A S st) {i p : Nat} (hi : i < gW g) (hp : p < 2 ^ 31) : m_X7_isOpenAt n (A 3) (nI i) (nI p) S = some (if st (18 + i) = nI 1 ∧ gwa g (4 * i) = p then nI 1 else nI 0, S) := by
  rw [xv_isOpenAt h hi hp]
  unfold opF
  by_cases c : st (18 + i) = nI 1 ∧ gwa g (4 * i) = p
  · rw [if_pos c]; simp only [LIT, c, if_true, and_self]
  · rw [if_neg c]; simp only [LIT, c, if_false]
/-- hours wanted at a place by k wants from the i-th on -/
def hw (g : GH) (st : Nat → Int32) (p pr : Nat) : Nat → Nat → Nat → Nat
  | 0, _, acc => acc
  | k + 1, i, acc => hw g st p pr k (i + 1) (if st (18 + i) = nI 1 ∧ gwa g (4 * i) = p ∧ pr ≤ gwa g (4 * i + 3) then acc + gwa g (4 * i + 1) else acc)
theorem xv_hw (h : XV g A S st) {p pr : Nat} (hp : p < 2 ^ 31) (hpr : pr < 2 ^ 31) : ∀ (f i acc : Nat), i ≤ gW g → gW g < i + f → b_X7_hoursWanted_5 n f (A 3) (nI p) (nI pr) (nI acc) (nI i) S = some (nI (hw g st p pr (gW g - i) i acc), S) := by
  have hb := h.2.1.b
  intro f
  induction f with
  | zero => intro i acc h1 h2; omega
  | succ f ih =>
    intro i acc h1 h2
    by_cases c : gW g ≤ i
    · simp (disch := omega) only [b_X7_hoursWanted_5, ob_mk, cb_mk, lt_mk, ck_if, pR_sI, pN_sI, pA_sI, pQ_sI, pR_sA, pN_sA, pI_sA, pQ_sA, pR_sF, pN_sF, pI_sF, pQ_sF, ite_true, ite_false, if_true, if_false, not_true_eq_false, not_false_eq_true, LIT, ofN, nI_add, pk_mul, ixn, nI_clamp, nI_ltI, nI_leI, nI_eq, Nat.add_zero, Nat.zero_add, Nat.mul_zero, Nat.mul_one, Nat.reduceMul, h.1.R, h.I, c]
      rw [show gW g - i = 0 by omega, hw]
    · have w0 := h.2.1.w0 (i := i) (by omega)
      have w3 := h.2.1.w3 (i := i) (by omega)
      rw [show gW g - i = (gW g - (i + 1)) + 1 by omega, hw]
      by_cases c1 : st (18 + i) = nI 1 ∧ gwa g (4 * i) = p
      · by_cases c2 : pr ≤ gwa g (4 * i + 3)
        · have c2' : ¬ gwa g (4 * i + 3) < pr := by omega
          rw [if_pos ⟨c1.1, c1.2, c2⟩]
          simp (disch := omega) only [b_X7_hoursWanted_5, b_X7_hoursWanted_63, ob_mk, cb_mk, lt_mk, ck_if, pR_sI, pN_sI, pA_sI, pQ_sI, pR_sA, pN_sA, pI_sA, pQ_sA, pR_sF, pN_sF, pI_sF, pQ_sF, ite_true, ite_false, if_true, if_false, not_true_eq_false, not_false_eq_true, LIT, ofN, nI_add, pk_mul, ixn, nI_clamp, nI_ltI, nI_leI, nI_eq, Nat.add_zero, Nat.zero_add, Nat.mul_zero, Nat.mul_one, Nat.reduceMul, h.1.R, h.I, c, xv_open h, c1, and_self, h.wa, c2', Nat.reduceEqDiff]
          exact ih (i + 1) _ (by omega) (by omega)
        · have c2' : gwa g (4 * i + 3) < pr := by omega
          rw [if_neg (fun q => c2 q.2.2)]
          simp (disch := omega) only [b_X7_hoursWanted_5, b_X7_hoursWanted_63, ob_mk, cb_mk, lt_mk, ck_if, pR_sI, pN_sI, pA_sI, pQ_sI, pR_sA, pN_sA, pI_sA, pQ_sA, pR_sF, pN_sF, pI_sF, pQ_sF, ite_true, ite_false, if_true, if_false, not_true_eq_false, not_false_eq_true, LIT, ofN, nI_add, pk_mul, ixn, nI_clamp, nI_ltI, nI_leI, nI_eq, Nat.add_zero, Nat.zero_add, Nat.mul_zero, Nat.mul_one, Nat.reduceMul, h.1.R, h.I, c, xv_open h, c1, and_self, h.wa, c2']
          exact ih (i + 1) _ (by omega) (by omega)
      · rw [if_neg (fun q => c1 ⟨q.1, q.2.1⟩)]
        simp (disch := omega) only [b_X7_hoursWanted_5, b_X7_hoursWanted_63, ob_mk, cb_mk, lt_mk, ck_if, pR_sI, pN_sI, pA_sI, pQ_sI, pR_sA, pN_sA, pI_sA, pQ_sA, pR_sF, pN_sF, pI_sF, pQ_sF, ite_true, ite_false, if_true, if_false, not_true_eq_false, not_false_eq_true, LIT, ofN, nI_add, pk_mul, ixn, nI_clamp, nI_ltI, nI_leI, nI_eq, Nat.add_zero, Nat.zero_add, Nat.mul_zero, Nat.mul_one, Nat.reduceMul, h.1.R, h.I, c, xv_open h, c1]
        exact ih (i + 1) _ (by omega) (by omega)
theorem rv_hw (h : RV g A S st) {p pr : Nat} (hp : p < 2 ^ 31) (hpr : pr < 2 ^ 31) : ∀ (f i acc : Nat), i ≤ gW g → gW g < i + f → b_X12_hoursOf_5 n f (A 60) (nI p) (nI pr) (nI acc) (nI i) S = some (nI (hw g st p pr (gW g - i) i acc), S) := by
  have hb := h.2.1.b
  intro f
  induction f with
  | zero => intro i acc h1 h2; omega
  | succ f ih =>
    intro i acc h1 h2
    by_cases c : gW g ≤ i
    · simp (disch := omega) only [b_X12_hoursOf_5, ob_mk, cb_mk, lt_mk, ck_if, pR_sI, pN_sI, pA_sI, pQ_sI, pR_sA, pN_sA, pI_sA, pQ_sA, pR_sF, pN_sF, pI_sF, pQ_sF, ite_true, ite_false, if_true, if_false, not_true_eq_false, not_false_eq_true, LIT, ofN, nI_add, pk_mul, ixn, nI_clamp, nI_ltI, nI_leI, nI_eq, Nat.add_zero, Nat.zero_add, Nat.mul_zero, Nat.mul_one, Nat.reduceMul, h.1.R, h.I, c]
      rw [show gW g - i = 0 by omega, hw]
    · have w0 := h.2.1.w0 (i := i) (by omega)
      have w3 := h.2.1.w3 (i := i) (by omega)
      rw [show gW g - i = (gW g - (i + 1)) + 1 by omega, hw]
      by_cases c0 : st (18 + i) = nI 1
      · by_cases c1 : gwa g (4 * i) = p
        · by_cases c2 : pr ≤ gwa g (4 * i + 3)
          · have c2' : ¬ gwa g (4 * i + 3) < pr := by omega
            rw [if_pos ⟨c0, c1, c2⟩]
            simp (disch := omega) only [b_X12_hoursOf_5, b_X12_hoursOf_72, b_X12_hoursOf_71, ob_mk, cb_mk, lt_mk, ck_if, pR_sI, pN_sI, pA_sI, pQ_sI, pR_sA, pN_sA, pI_sA, pQ_sA, pR_sF, pN_sF, pI_sF, pQ_sF, ite_true, ite_false, if_true, if_false, not_true_eq_false, not_false_eq_true, LIT, ofN, nI_add, pk_mul, ixn, nI_clamp, nI_ltI, nI_leI, nI_eq, Nat.add_zero, Nat.zero_add, Nat.mul_zero, Nat.mul_one, Nat.reduceMul, h.1.R, h.1.N, h.A, h.I, c, c0, c1, c2']
            exact ih (i + 1) _ (by omega) (by omega)
          · have c2' : gwa g (4 * i + 3) < pr := by omega
            rw [if_neg (fun q => c2 q.2.2)]
            simp (disch := omega) only [b_X12_hoursOf_5, b_X12_hoursOf_72, b_X12_hoursOf_71, ob_mk, cb_mk, lt_mk, ck_if, pR_sI, pN_sI, pA_sI, pQ_sI, pR_sA, pN_sA, pI_sA, pQ_sA, pR_sF, pN_sF, pI_sF, pQ_sF, ite_true, ite_false, if_true, if_false, not_true_eq_false, not_false_eq_true, LIT, ofN, nI_add, pk_mul, ixn, nI_clamp, nI_ltI, nI_leI, nI_eq, Nat.add_zero, Nat.zero_add, Nat.mul_zero, Nat.mul_one, Nat.reduceMul, h.1.R, h.1.N, h.A, h.I, c, c0, c1, c2']
            exact ih (i + 1) _ (by omega) (by omega)
        · rw [if_neg (fun q => c1 q.2.1)]
          simp (disch := omega) only [b_X12_hoursOf_5, b_X12_hoursOf_72, b_X12_hoursOf_71, ob_mk, cb_mk, lt_mk, ck_if, pR_sI, pN_sI, pA_sI, pQ_sI, pR_sA, pN_sA, pI_sA, pQ_sA, pR_sF, pN_sF, pI_sF, pQ_sF, ite_true, ite_false, if_true, if_false, not_true_eq_false, not_false_eq_true, LIT, ofN, nI_add, pk_mul, ixn, nI_clamp, nI_ltI, nI_leI, nI_eq, Nat.add_zero, Nat.zero_add, Nat.mul_zero, Nat.mul_one, Nat.reduceMul, h.1.R, h.1.N, h.A, h.I, c, c0, c1]
          exact ih (i + 1) _ (by omega) (by omega)
      · rw [if_neg (fun q => c0 q.1)]
        simp (disch := omega) only [b_X12_hoursOf_5, b_X12_hoursOf_72, b_X12_hoursOf_71, ob_mk, cb_mk, lt_mk, ck_if, pR_sI, pN_sI, pA_sI, pQ_sI, pR_sA, pN_sA, pI_sA, pQ_sA, pR_sF, pN_sF, pI_sF, pQ_sF, ite_true, ite_false, if_true, if_false, not_true_eq_false, not_false_eq_true, LIT, ofN, nI_add, pk_mul, ixn, nI_clamp, nI_ltI, nI_leI, nI_eq, Nat.add_zero, Nat.zero_add, Nat.mul_zero, Nat.mul_one, Nat.reduceMul, h.1.R, h.1.N, h.A, h.I, c, c0]
        exact ih (i + 1) _ (by omega) (by omega)
def HW (g : GH) (st : Nat → Int32) (p pr : Nat) : Nat := hw g st p pr (gW g) 0 0
theorem xv_HW (h : XV g A S st) {p pr : Nat} (hp : p < 2 ^ 31) (hpr : pr < 2 ^ 31) (hn : 20 ≤ n) : m_X7_hoursWanted n (A 3) (nI p) (nI pr) S = some (nI (HW g st p pr), S) := by
  have hb := h.2.1.b
  exact xv_hw h hp hpr n 0 0 (by omega) (by omega)
theorem rv_HW (h : RV g A S st) {p pr : Nat} (hp : p < 2 ^ 31) (hpr : pr < 2 ^ 31) (hn : 20 ≤ n) : m_X12_hoursOf n (A 60) (nI p) (nI pr) S = some (nI (HW g st p pr), S) := by
  have hb := h.2.1.b
  exact rv_hw h hp hpr n 0 0 (by omega) (by omega)
theorem hw_le (hg : GB g) {p pr : Nat} : ∀ (k i acc : Nat), i + k ≤ gW g → hw g st p pr k i acc ≤ acc + 12 * k := by
  intro k
  induction k with
  | zero => intro i acc _; exact Nat.le_refl _
  | succ k ih =>
    intro i acc hi
    have := hg.w1 (i := i) (by omega)
    rw [hw]
    by_cases c : st (18 + i) = nI 1 ∧ gwa g (4 * i) = p ∧ pr ≤ gwa g (4 * i + 3)
    · rw [if_pos c]
      have := ih (i + 1) (acc + gwa g (4 * i + 1)) (by omega)
      omega
    · rw [if_neg c]
      have := ih (i + 1) acc (by omega)
      omega
theorem HW_le (hg : GB g) {p pr : Nat} : HW g st p pr ≤ 144 := by
  have := hw_le (st := st) (p := p) (pr := pr) hg (gW g) 0 0 (by omega)
  have := hg.b
  unfold HW
  omega
theorem hw_mono {p a b : Nat} (hab : a ≤ b) : ∀ (k i x y : Nat), x ≤ y → hw g st p b k i x ≤ hw g st p a k i y := by
  intro k
  induction k with
  | zero => intro i x y h; exact h
  | succ k ih =>
    intro i x y h
    rw [hw, hw]
    apply ih
    by_cases c1 : st (18 + i) = nI 1 ∧ gwa g (4 * i) = p ∧ b ≤ gwa g (4 * i + 3)
    · rw [if_pos c1, if_pos ⟨c1.1, c1.2.1, by omega⟩]; omega
    · rw [if_neg c1]; split <;> omega
theorem HW_mono {p a b : Nat} (hab : a ≤ b) : HW g st p b ≤ HW g st p a := hw_mono hab _ _ _ _ (Nat.le_refl _)
theorem hw_100 (hg : GB g) {p : Nat} : ∀ (k i acc : Nat), i + k ≤ gW g → hw g st p 100 k i acc = acc := by
  intro k
  induction k with
  | zero => intro i acc _; rfl
  | succ k ih =>
    intro i acc hi
    have := hg.w3 (i := i) (by omega)
    rw [hw, if_neg (fun q => by have := q.2.2; omega)]
    exact ih (i + 1) acc (by omega)
theorem HW_100 (hg : GB g) {p : Nat} : HW g st p 100 = 0 := hw_100 hg _ _ _ (by omega)
/-- can a want be sold -/
def saF (g : GH) (st : Nat → Int32) (i : Nat) : Nat := if st (18 + i) = nI 1 ∧ gwa g (4 * i + 1) ≤ nS st (gwa g (4 * i)) + (if gwa g (4 * i + 2) = 1 then 0 else nS st (6 + gwa g (4 * i))) then 1 else 0
theorem xv_sa (h : XV g A S st) {i : Nat} (hi : i < gW g) : m_X7_isSaleable n (A 3) (nI i) S = some (nI (saF g st i), S) := by
  have hb := h.2.1.b
  have w0 := h.2.1.w0 hi
  have w1 := h.2.1.w1 hi
  have w2 := h.2.1.w2 hi
  have s0 := h.2.2.1.h0 w0
  have s1 := h.2.2.1.h1 w0
  unfold saF
  by_cases c2 : gwa g (4 * i + 2) = 1
  · by_cases c1 : st (18 + i) = nI 1
    · by_cases c3 : nS st (gwa g (4 * i)) < gwa g (4 * i + 1)
      · rw [if_neg (fun q => by have := q.2; rw [if_pos c2] at this; omega)]
        simp (disch := omega) only [m_X7_isSaleable, b_X7_isSaleable_49, ob_mk, cb_mk, lt_mk, ck_if, pR_sI, pN_sI, pA_sI, pQ_sI, pR_sA, pN_sA, pI_sA, pQ_sA, pR_sF, pN_sF, pI_sF, pQ_sF, ite_true, ite_false, if_true, if_false, not_true_eq_false, not_false_eq_true, LIT, ofN, nI_add, pk_mul, ixn, nI_clamp, nI_ltI, nI_leI, nI_eq, Nat.add_zero, Nat.zero_add, Nat.mul_zero, Nat.mul_one, Nat.reduceMul, h.1.R, h.I, h.wa, h.ho, h.wo, c1, c2, s0.1, c3]
      · rw [if_pos ⟨c1, by rw [if_pos c2]; omega⟩]
        simp (disch := omega) only [m_X7_isSaleable, b_X7_isSaleable_49, ob_mk, cb_mk, lt_mk, ck_if, pR_sI, pN_sI, pA_sI, pQ_sI, pR_sA, pN_sA, pI_sA, pQ_sA, pR_sF, pN_sF, pI_sF, pQ_sF, ite_true, ite_false, if_true, if_false, not_true_eq_false, not_false_eq_true, LIT, ofN, nI_add, pk_mul, ixn, nI_clamp, nI_ltI, nI_leI, nI_eq, Nat.add_zero, Nat.zero_add, Nat.mul_zero, Nat.mul_one, Nat.reduceMul, h.1.R, h.I, h.wa, h.ho, h.wo, c1, c2, s0.1, c3]
    · rw [if_neg (fun q => c1 q.1)]
      simp (disch := omega) only [m_X7_isSaleable, b_X7_isSaleable_49, ob_mk, cb_mk, lt_mk, ck_if, pR_sI, pN_sI, pA_sI, pQ_sI, pR_sA, pN_sA, pI_sA, pQ_sA, pR_sF, pN_sF, pI_sF, pQ_sF, ite_true, ite_false, if_true, if_false, not_true_eq_false, not_false_eq_true, LIT, ofN, nI_add, pk_mul, ixn, nI_clamp, nI_ltI, nI_leI, nI_eq, Nat.add_zero, Nat.zero_add, Nat.mul_zero, Nat.mul_one, Nat.reduceMul, h.1.R, h.I, h.wa, h.ho, h.wo, c1, c2, s0.1]
  · by_cases c1 : st (18 + i) = nI 1
    · by_cases c3 : nS st (gwa g (4 * i)) + nS st (6 + gwa g (4 * i)) < gwa g (4 * i + 1)
      · rw [if_neg (fun q => by have := q.2; rw [if_neg c2] at this; omega)]
        simp (disch := omega) only [m_X7_isSaleable, b_X7_isSaleable_49, xv_hoursAt h, ob_mk, cb_mk, lt_mk, ck_if, pR_sI, pN_sI, pA_sI, pQ_sI, pR_sA, pN_sA, pI_sA, pQ_sA, pR_sF, pN_sF, pI_sF, pQ_sF, ite_true, ite_false, if_true, if_false, not_true_eq_false, not_false_eq_true, LIT, ofN, nI_add, pk_mul, ixn, nI_clamp, nI_ltI, nI_leI, nI_eq, Nat.add_zero, Nat.zero_add, Nat.mul_zero, Nat.mul_one, Nat.reduceMul, h.1.R, h.I, h.wa, h.ho, h.wo, c1, c2, s0.1, s1.1, c3]
      · rw [if_pos ⟨c1, by rw [if_neg c2]; omega⟩]
        simp (disch := omega) only [m_X7_isSaleable, b_X7_isSaleable_49, xv_hoursAt h, ob_mk, cb_mk, lt_mk, ck_if, pR_sI, pN_sI, pA_sI, pQ_sI, pR_sA, pN_sA, pI_sA, pQ_sA, pR_sF, pN_sF, pI_sF, pQ_sF, ite_true, ite_false, if_true, if_false, not_true_eq_false, not_false_eq_true, LIT, ofN, nI_add, pk_mul, ixn, nI_clamp, nI_ltI, nI_leI, nI_eq, Nat.add_zero, Nat.zero_add, Nat.mul_zero, Nat.mul_one, Nat.reduceMul, h.1.R, h.I, h.wa, h.ho, h.wo, c1, c2, s0.1, s1.1, c3]
    · rw [if_neg (fun q => c1 q.1)]
      simp (disch := omega) only [m_X7_isSaleable, b_X7_isSaleable_49, xv_hoursAt h, ob_mk, cb_mk, lt_mk, ck_if, pR_sI, pN_sI, pA_sI, pQ_sI, pR_sA, pN_sA, pI_sA, pQ_sA, pR_sF, pN_sF, pI_sF, pQ_sF, ite_true, ite_false, if_true, if_false, not_true_eq_false, not_false_eq_true, LIT, ofN, nI_add, pk_mul, ixn, nI_clamp, nI_ltI, nI_leI, nI_eq, Nat.add_zero, Nat.zero_add, Nat.mul_zero, Nat.mul_one, Nat.reduceMul, h.1.R, h.I, h.wa, h.ho, h.wo, c1, c2, s0.1, s1.1]
theorem rv_sa (h : RV g A S st) {i : Nat} (hi : i < gW g) : m_X12_canSell n (A 60) (nI i) S = some (nI (saF g st i), S) := by
  have hb := h.2.1.b
  have w0 := h.2.1.w0 hi
  have w1 := h.2.1.w1 hi
  have w2 := h.2.1.w2 hi
  have s0 := h.2.2.1.h0 w0
  have s1 := h.2.2.1.h1 w0
  unfold saF
  rcases h.2.2.1.op hi with c1 | c1
  · rw [if_neg (fun q => by have := q.1; rw [c1, nI_eq (by omega) (by omega)] at this; omega)]
    simp (disch := omega) only [m_X12_canSell, b_X12_canSell_58, ob_mk, cb_mk, lt_mk, ck_if, pR_sI, pN_sI, pA_sI, pQ_sI, pR_sA, pN_sA, pI_sA, pQ_sA, pR_sF, pN_sF, pI_sF, pQ_sF, ite_true, ite_false, if_true, if_false, not_true_eq_false, not_false_eq_true, LIT, ofN, nI_add, pk_mul, ixn, nI_clamp, nI_ltI, nI_leI, nI_eq, Nat.add_zero, Nat.zero_add, Nat.mul_zero, Nat.mul_one, Nat.reduceMul, h.1.R, h.1.N, h.I, h.A, c1]
  · by_cases c2 : gwa g (4 * i + 2) = 1
    · by_cases c3 : nS st (gwa g (4 * i)) < gwa g (4 * i + 1)
      · rw [if_neg (fun q => by have := q.2; rw [if_pos c2] at this; omega)]
        simp (disch := omega) only [m_X12_canSell, b_X12_canSell_58, ob_mk, cb_mk, lt_mk, ck_if, pR_sI, pN_sI, pA_sI, pQ_sI, pR_sA, pN_sA, pI_sA, pQ_sA, pR_sF, pN_sF, pI_sF, pQ_sF, ite_true, ite_false, if_true, if_false, not_true_eq_false, not_false_eq_true, LIT, ofN, nI_add, pk_mul, ixn, nI_clamp, nI_ltI, nI_leI, nI_eq, Nat.add_zero, Nat.zero_add, Nat.mul_zero, Nat.mul_one, Nat.reduceMul, h.1.R, h.1.N, h.I, h.A, c1, c2, s0.1, c3]
        simp
      · rw [if_pos ⟨c1, by rw [if_pos c2]; omega⟩]
        simp (disch := omega) only [m_X12_canSell, b_X12_canSell_58, ob_mk, cb_mk, lt_mk, ck_if, pR_sI, pN_sI, pA_sI, pQ_sI, pR_sA, pN_sA, pI_sA, pQ_sA, pR_sF, pN_sF, pI_sF, pQ_sF, ite_true, ite_false, if_true, if_false, not_true_eq_false, not_false_eq_true, LIT, ofN, nI_add, pk_mul, ixn, nI_clamp, nI_ltI, nI_leI, nI_eq, Nat.add_zero, Nat.zero_add, Nat.mul_zero, Nat.mul_one, Nat.reduceMul, h.1.R, h.1.N, h.I, h.A, c1, c2, s0.1, c3]
        simp
    · by_cases c3 : nS st (gwa g (4 * i)) + nS st (6 + gwa g (4 * i)) < gwa g (4 * i + 1)
      · rw [if_neg (fun q => by have := q.2; rw [if_neg c2] at this; omega)]
        simp (disch := omega) only [m_X12_canSell, b_X12_canSell_58, ob_mk, cb_mk, lt_mk, ck_if, pR_sI, pN_sI, pA_sI, pQ_sI, pR_sA, pN_sA, pI_sA, pQ_sA, pR_sF, pN_sF, pI_sF, pQ_sF, ite_true, ite_false, if_true, if_false, not_true_eq_false, not_false_eq_true, LIT, ofN, nI_add, pk_mul, ixn, nI_clamp, nI_ltI, nI_leI, nI_eq, Nat.add_zero, Nat.zero_add, Nat.mul_zero, Nat.mul_one, Nat.reduceMul, h.1.R, h.1.N, h.I, h.A, c1, c2, s0.1, s1.1, c3]
        simp
      · rw [if_pos ⟨c1, by rw [if_neg c2]; omega⟩]
        simp (disch := omega) only [m_X12_canSell, b_X12_canSell_58, ob_mk, cb_mk, lt_mk, ck_if, pR_sI, pN_sI, pA_sI, pQ_sI, pR_sA, pN_sA, pI_sA, pQ_sA, pR_sF, pN_sF, pI_sF, pQ_sF, ite_true, ite_false, if_true, if_false, not_true_eq_false, not_false_eq_true, LIT, ofN, nI_add, pk_mul, ixn, nI_clamp, nI_ltI, nI_leI, nI_eq, Nat.add_zero, Nat.zero_add, Nat.mul_zero, Nat.mul_one, Nat.reduceMul, h.1.R, h.1.N, h.I, h.A, c1, c2, s0.1, s1.1, c3]
        simp
end
