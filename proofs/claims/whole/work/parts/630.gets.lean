section
variable {g : GH} {A : Nat → Nat} {S : pq_S} {st : Nat → Int32} {n : Nat}
/-- hours that are had at a price, alike: by both -/
def gt (g : GH) (st : Nat → Int32) (p own : Nat) (al : Prop) [Decidable al] : Nat → Nat → Nat → Nat
  | 0, _, acc => acc
  | k + 1, i, acc => gt g st p own al k (i + 1) (if st (18 + i) = nI 1 ∧ gwa g (4 * i) = p ∧ own ≤ gwa g (4 * i + 3) then acc + (if al then gwa g (4 * i + 1) / 2 else gwa g (4 * i + 1)) else acc)
theorem xv_gt (h : XV g A S st) {p own other : Nat} (hp : p < 2 ^ 31) (h1o : own < 2 ^ 31) (h2o : other < 2 ^ 31) (hle : own ≤ other) : ∀ (f i acc : Nat), i ≤ gW g → gW g < i + f → b_X3_gained_13 n f (A 28) (nI p) (nI own) (nI other) (nI acc) (nI i) S = some (nI (gt g st p own (own = other) (gW g - i) i acc * own), S) := by
  have hb := h.2.1.b
  intro f
  induction f with
  | zero => intro i acc h1 h2; omega
  | succ f ih =>
    intro i acc h1 h2
    by_cases c : gW g ≤ i
    · simp (disch := omega) only [b_X3_gained_13, b_X3_gained_107, ob_mk, h.1.r28_300, h.1.r3_700, h.1.r4_101, h.I, nI_leI, c, if_true, pk_mul]
      rw [show gW g - i = 0 by omega, gt]
    · have w0 := h.2.1.w0 (i := i) (by omega)
      have w1 := h.2.1.w1 (i := i) (by omega)
      have w3 := h.2.1.w3 (i := i) (by omega)
      rw [show gW g - i = (gW g - (i + 1)) + 1 by omega, gt]
      by_cases c1 : st (18 + i) = nI 1 ∧ gwa g (4 * i) = p
      · by_cases c2 : own ≤ gwa g (4 * i + 3)
        · have c2' : ¬ gwa g (4 * i + 3) < own := by omega
          rw [if_pos ⟨c1.1, c1.2, c2⟩]
          by_cases c3 : own = other
          · have c3' : other ≤ own := by omega
            rw [if_pos c3]
            simp (disch := omega) only [b_X3_gained_13, b_X3_gained_98, b_X3_gained_101, ob_mk, cb_mk, lt_mk, ck_if, pR_sI, pN_sI, pA_sI, pQ_sI, pR_sA, pN_sA, pI_sA, pQ_sA, pR_sF, pN_sF, pI_sF, pQ_sF, ite_true, ite_false, if_true, if_false, not_true_eq_false, not_false_eq_true, LIT, ofN, nI_add, pk_mul, ixn, nI_clamp, nI_ltI, nI_leI, nI_eq, Nat.add_zero, Nat.zero_add, Nat.mul_zero, Nat.mul_one, Nat.reduceMul, h.1.r28_300, h.1.r3_700, h.1.r4_101, h.I, c, xv_open h, c1, and_self, h.wa, c2', c3', Nat.reduceEqDiff, pk_div]
            exact ih (i + 1) _ (by omega) (by omega)
          · have c3' : ¬ other ≤ own := by omega
            rw [if_neg c3]
            simp (disch := omega) only [b_X3_gained_13, b_X3_gained_98, b_X3_gained_101, ob_mk, cb_mk, lt_mk, ck_if, pR_sI, pN_sI, pA_sI, pQ_sI, pR_sA, pN_sA, pI_sA, pQ_sA, pR_sF, pN_sF, pI_sF, pQ_sF, ite_true, ite_false, if_true, if_false, not_true_eq_false, not_false_eq_true, LIT, ofN, nI_add, pk_mul, ixn, nI_clamp, nI_ltI, nI_leI, nI_eq, Nat.add_zero, Nat.zero_add, Nat.mul_zero, Nat.mul_one, Nat.reduceMul, h.1.r28_300, h.1.r3_700, h.1.r4_101, h.I, c, xv_open h, c1, and_self, h.wa, c2', c3', Nat.reduceEqDiff]
            exact ih (i + 1) _ (by omega) (by omega)
        · have c2' : gwa g (4 * i + 3) < own := by omega
          rw [if_neg (fun q => c2 q.2.2)]
          simp (disch := omega) only [b_X3_gained_13, b_X3_gained_98, b_X3_gained_101, ob_mk, cb_mk, lt_mk, ck_if, pR_sI, pN_sI, pA_sI, pQ_sI, pR_sA, pN_sA, pI_sA, pQ_sA, pR_sF, pN_sF, pI_sF, pQ_sF, ite_true, ite_false, if_true, if_false, not_true_eq_false, not_false_eq_true, LIT, ofN, nI_add, pk_mul, ixn, nI_clamp, nI_ltI, nI_leI, nI_eq, Nat.add_zero, Nat.zero_add, Nat.mul_zero, Nat.mul_one, Nat.reduceMul, h.1.r28_300, h.1.r3_700, h.1.r4_101, h.I, c, xv_open h, c1, and_self, h.wa, c2', Nat.reduceEqDiff]
          exact ih (i + 1) _ (by omega) (by omega)
      · rw [if_neg (fun q => c1 ⟨q.1, q.2.1⟩)]
        simp (disch := omega) only [b_X3_gained_13, b_X3_gained_98, b_X3_gained_101, ob_mk, cb_mk, lt_mk, ck_if, pR_sI, pN_sI, pA_sI, pQ_sI, pR_sA, pN_sA, pI_sA, pQ_sA, pR_sF, pN_sF, pI_sF, pQ_sF, ite_true, ite_false, if_true, if_false, not_true_eq_false, not_false_eq_true, LIT, ofN, nI_add, pk_mul, ixn, nI_clamp, nI_ltI, nI_leI, nI_eq, Nat.add_zero, Nat.zero_add, Nat.mul_zero, Nat.mul_one, Nat.reduceMul, h.1.r28_300, h.1.r3_700, h.1.r4_101, h.I, c, xv_open h, c1]
        exact ih (i + 1) _ (by omega) (by omega)
theorem rv_gt (h : RV g A S st) {p own other : Nat} (hp : p < 2 ^ 31) (h1o : own < 2 ^ 31) (h2o : other < 2 ^ 31) : ∀ (f i acc : Nat), i ≤ gW g → gW g < i + f → b_X12_getsOf_13 n f (A 60) (nI p) (nI own) (nI other) (nI (acc * own)) (nI i) S = some (nI (gt g st p own (own = other) (gW g - i) i acc * own), S) := by
  have hb := h.2.1.b
  intro f
  induction f with
  | zero => intro i acc h1 h2; omega
  | succ f ih =>
    intro i acc h1 h2
    by_cases c : gW g ≤ i
    · simp (disch := omega) only [b_X12_getsOf_13, h.I, nI_leI, c, if_true]
      rw [show gW g - i = 0 by omega, gt]
    · have w0 := h.2.1.w0 (i := i) (by omega)
      have w1 := h.2.1.w1 (i := i) (by omega)
      have w3 := h.2.1.w3 (i := i) (by omega)
      have m1 : ∀ x, acc * own + own * x = (acc + x) * own := fun x => by rw [Nat.add_mul, Nat.mul_comm own x]
      rw [show gW g - i = (gW g - (i + 1)) + 1 by omega, gt]
      rcases h.2.2.1.op (i := i) (by omega) with c0 | c0
      · rw [if_neg (fun q => by have := c0.symm.trans q.1; rw [nI_eq (by omega) (by omega)] at this; omega)]
        simp (disch := omega) only [b_X12_getsOf_13, b_X12_getsOf_105, b_X12_getsOf_101, ob_mk, cb_mk, lt_mk, ck_if, pR_sI, pN_sI, pA_sI, pQ_sI, pR_sA, pN_sA, pI_sA, pQ_sA, pR_sF, pN_sF, pI_sF, pQ_sF, ite_true, ite_false, if_true, if_false, not_true_eq_false, not_false_eq_true, LIT, ofN, nI_add, pk_mul, ixn, nI_clamp, nI_ltI, nI_leI, nI_eq, Nat.add_zero, Nat.zero_add, Nat.mul_zero, Nat.mul_one, Nat.reduceMul, h.1.R, h.1.N, h.A, h.I, c, c0]
        exact ih (i + 1) _ (by omega) (by omega)
      · by_cases c1 : gwa g (4 * i) = p
        · by_cases c2 : own ≤ gwa g (4 * i + 3)
          · rw [if_pos ⟨c0, c1, c2⟩]
            by_cases c3 : own = other
            · rw [if_pos c3, ← ih (i + 1) _ (by omega) (by omega), ← m1]
              simp (disch := omega) only [b_X12_getsOf_13, b_X12_getsOf_105, b_X12_getsOf_101, ob_mk, cb_mk, lt_mk, ck_if, pR_sI, pN_sI, pA_sI, pQ_sI, pR_sA, pN_sA, pI_sA, pQ_sA, pR_sF, pN_sF, pI_sF, pQ_sF, ite_true, ite_false, if_true, if_false, not_true_eq_false, not_false_eq_true, LIT, ofN, nI_add, pk_mul, ixn, nI_clamp, nI_ltI, nI_leI, nI_eq, Nat.add_zero, Nat.zero_add, Nat.mul_zero, Nat.mul_one, Nat.reduceMul, h.1.R, h.1.N, h.A, h.I, c, c0, c1, c2, c3, Nat.reduceEqDiff, pk_div]
              rw [if_pos (by omega)]
            · rw [if_neg c3, ← ih (i + 1) _ (by omega) (by omega), ← m1]
              simp (disch := omega) only [b_X12_getsOf_13, b_X12_getsOf_105, b_X12_getsOf_101, ob_mk, cb_mk, lt_mk, ck_if, pR_sI, pN_sI, pA_sI, pQ_sI, pR_sA, pN_sA, pI_sA, pQ_sA, pR_sF, pN_sF, pI_sF, pQ_sF, ite_true, ite_false, if_true, if_false, not_true_eq_false, not_false_eq_true, LIT, ofN, nI_add, pk_mul, ixn, nI_clamp, nI_ltI, nI_leI, nI_eq, Nat.add_zero, Nat.zero_add, Nat.mul_zero, Nat.mul_one, Nat.reduceMul, h.1.R, h.1.N, h.A, h.I, c, c0, c1, c2, c3, Nat.reduceEqDiff, pk_div]
          · rw [if_neg (fun q => c2 q.2.2)]
            simp (disch := omega) only [b_X12_getsOf_13, b_X12_getsOf_105, b_X12_getsOf_101, ob_mk, cb_mk, lt_mk, ck_if, pR_sI, pN_sI, pA_sI, pQ_sI, pR_sA, pN_sA, pI_sA, pQ_sA, pR_sF, pN_sF, pI_sF, pQ_sF, ite_true, ite_false, if_true, if_false, not_true_eq_false, not_false_eq_true, LIT, ofN, nI_add, pk_mul, ixn, nI_clamp, nI_ltI, nI_leI, nI_eq, Nat.add_zero, Nat.zero_add, Nat.mul_zero, Nat.mul_one, Nat.reduceMul, h.1.R, h.1.N, h.A, h.I, c, c0, c1, c2, Nat.reduceEqDiff]
            exact ih (i + 1) _ (by omega) (by omega)
        · rw [if_neg (fun q => c1 q.2.1)]
          simp (disch := omega) only [b_X12_getsOf_13, b_X12_getsOf_105, b_X12_getsOf_101, ob_mk, cb_mk, lt_mk, ck_if, pR_sI, pN_sI, pA_sI, pQ_sI, pR_sA, pN_sA, pI_sA, pQ_sA, pR_sF, pN_sF, pI_sF, pQ_sF, ite_true, ite_false, if_true, if_false, not_true_eq_false, not_false_eq_true, LIT, ofN, nI_add, pk_mul, ixn, nI_clamp, nI_ltI, nI_leI, nI_eq, Nat.add_zero, Nat.zero_add, Nat.mul_zero, Nat.mul_one, Nat.reduceMul, h.1.R, h.1.N, h.A, h.I, c, c0, c1, Nat.reduceEqDiff]
          exact ih (i + 1) _ (by omega) (by omega)
/-- what one gets -/
def GT (g : GH) (st : Nat → Int32) (p own other : Nat) : Nat := if own ≤ other then gt g st p own (own = other) (gW g) 0 0 * own else 0
theorem xv_GT (h : XV g A S st) (hn : 20 ≤ n) {p own other : Nat} (hp : p < 2 ^ 31) (h1o : own < 2 ^ 31) (h2o : other < 2 ^ 31) : m_X3_gained n (A 28) (nI p) (nI own) (nI other) S = some (nI (GT g st p own other), S) := by
  have hb := h.2.1.b
  unfold m_X3_gained GT
  by_cases c : own ≤ other
  · rw [if_pos ((nI_leI h1o h2o).mpr c), if_pos c]
    exact xv_gt h hp h1o h2o c n 0 0 (by omega) (by omega)
  · rw [if_neg (fun q => c ((nI_leI h1o h2o).mp q)), if_neg c]
    rfl
theorem rv_GT (h : RV g A S st) (hn : 20 ≤ n) {p own other : Nat} (hp : p < 2 ^ 31) (h1o : own < 2 ^ 31) (h2o : other < 2 ^ 31) : m_X12_getsOf n (A 60) (nI p) (nI own) (nI other) S = some (nI (GT g st p own other), S) := by
  have hb := h.2.1.b
  unfold m_X12_getsOf GT
  by_cases c : own ≤ other
  · rw [if_pos ((nI_leI h1o h2o).mpr c), if_pos c]
    have := rv_gt (n := n) h hp h1o h2o n 0 0 (by omega) (by omega)
    rw [Nat.zero_mul] at this
    exact this
  · rw [if_neg (fun q => c ((nI_leI h1o h2o).mp q)), if_neg c]
    rfl
theorem gt_le (hg : GB g) {p own : Nat} {al : Prop} [Decidable al] : ∀ (k i acc : Nat), i + k ≤ gW g → gt g st p own al k i acc ≤ acc + 12 * k := by
  intro k
  induction k with
  | zero => intro i acc _; exact Nat.le_refl _
  | succ k ih =>
    intro i acc hi
    have := hg.w1 (i := i) (by omega)
    have hd : (if al then gwa g (4 * i + 1) / 2 else gwa g (4 * i + 1)) ≤ 12 := by split <;> omega
    rw [gt]
    by_cases c : st (18 + i) = nI 1 ∧ gwa g (4 * i) = p ∧ own ≤ gwa g (4 * i + 3)
    · rw [if_pos c]
      have := ih (i + 1) (acc + (if al then gwa g (4 * i + 1) / 2 else gwa g (4 * i + 1))) (by omega)
      omega
    · rw [if_neg c]
      have := ih (i + 1) acc (by omega)
      omega
theorem GT_le (hg : GB g) {p own other : Nat} (ho : own ≤ 99) : GT g st p own other ≤ 14256 := by
  unfold GT
  split
  · have h1 := gt_le (st := st) (p := p) (own := own) (al := own = other) hg (gW g) 0 0 (by omega)
    have := hg.b
    have h2 := mul_lt (show gt g st p own (own = other) (gW g) 0 0 ≤ 144 by omega) ho
    omega
  · omega
end
theorem ob_29 (n xa ma : Nat) (hn : 20000 ≤ n) : OB_29 n xa ma (JJ xa ma) := by
  rintro S f ⟨A, V, g, rfl, rfl, h⟩ y z w
  have h : JG A V g S := h
  have hb := h.gb.b
  refine ⟨200, 8000, by decide, by decide, 1, 6, by decide, by decide, wrP h (fun i hi e => ⟨_, _, sp_isWithin _ _ _ _ _, ?_⟩) (fun q => Or.inl ⟨rfl, ki_miss h (b := 0) (by decide) ?_⟩)⟩
  · subst e
    by_cases c1 : 0 ≤ z ∧ z ≤ 99
    · rw [if_pos c1, if_neg (by decide)]
      refine ⟨_, _, sp_isWithin _ _ _ _ _, ?_⟩
      by_cases c2 : 0 ≤ w ∧ w ≤ 99
      · rw [if_pos c2, if_neg (by decide)]
        refine ⟨1, 6, by decide, by decide, wr_need1 ?_⟩
        rcases i32_wi z 0 99 (by decide) (by decide) with ⟨a, _, ha, rfl⟩ | q
        · rcases i32_wi w 0 99 (by decide) (by decide) with ⟨b, _, hb2, rfl⟩ | q
          · refine ⟨_, h.lay.r0_1102, _, _, xv_GT h.xv (by omega) (by omega) (by omega) (by omega), ki_ok h ?_ h.tkk (tk_th A S)⟩
            unfold m_X12_gets b_X12_gets_40
            rw [jg_P1 h hi, cb_mk, if_neg (by decide), sp_within, if_pos c1, cb_mk, if_neg (by decide), sp_within, if_pos c2, cb_mk, if_neg (by decide), sp_mayS1, cb_mk, if_neg (by decide), jg_take h (by omega), ob_mk, rv_GT h.rv (by omega) (by omega) (by omega) (by omega), cb_mk]
          · exact absurd c2 q
        · exact absurd c1 q
      · rw [if_neg c2, if_pos rfl]
        refine ⟨1, 6, by decide, by decide, wr_need0 (by decide) (by decide) (Or.inr ⟨rfl, ki_bad h (b := 0) (by decide) ?_⟩)⟩
        unfold m_X12_gets b_X12_gets_39 b_X12_gets_40
        rw [jg_P1b h hi, cb_mk, if_neg (by decide), sp_within, if_pos c1, cb_mk, if_neg (by decide), sp_within, if_neg c2, cb_mk, if_pos rfl, jg_bad h (by decide), cb_mk, if_pos rfl]
    · rw [if_neg c1, if_pos rfl]
      refine ⟨1, 6, by decide, by decide, wr_need0 (by decide) (by decide) (Or.inr ⟨rfl, ki_bad h (b := 0) (by decide) ?_⟩)⟩
      unfold m_X12_gets b_X12_gets_39 b_X12_gets_40
      rw [jg_P1b h hi, cb_mk, if_neg (by decide), sp_within, if_neg c1, cb_mk, if_pos rfl, jg_bad h (by decide), cb_mk, if_pos rfl]
  · unfold m_X12_gets
    rw [jg_P0 h q, cb_mk, if_pos rfl]
