section
variable {g : GH} {A : Nat → Nat} {S : pq_S} {st : Nat → Int32} {n : Nat}
/-- a place or want that was found -/
def eO : Option Nat → Int32
  | none => -1
  | some j => nI j
theorem eO_m1 {o : Option Nat} (h : ∀ j, o = some j → j < 2 ^ 31) : eO o = -1 ↔ o = none := by
  cases o with
  | none => exact ⟨fun _ => rfl, fun _ => rfl⟩
  | some j =>
    refine ⟨fun e => ?_, fun e => by cases e⟩
    have h1 : (nI j).toInt = (-1 : Int32).toInt := congrArg Int32.toInt e
    rw [nI_toInt (h j rfl)] at h1
    have : (-1 : Int32).toInt = -1 := by decide
    omega
/-- the first that is above all: of k from the i-th on, o so far -/
def bstF (cmp : Nat → Nat → Bool) (ok : Nat → Bool) : Nat → Nat → Option Nat → Option Nat
  | 0, _, o => o
  | k + 1, i, none => bstF cmp ok k (i + 1) (if ok i then some i else none)
  | k + 1, i, some j => bstF cmp ok k (i + 1) (if ok i && cmp i j then some i else some j)
def fulC (st : Nat → Int32) (i j : Nat) : Bool := decide (st j + st (6 + j) < st i + st (6 + i))
def deaC (g : GH) (i j : Nat) : Bool := decide (gwa g (4 * j + 3) * gwa g (4 * i + 1) < gwa g (4 * i + 3) * gwa g (4 * j + 1))
theorem xv_ful (h : XV g A S st) : ∀ (f i : Nat) (o : Option Nat), (∀ j, o = some j → j < gP g) → i ≤ gP g → gP g < i + f → b_X7_fullestPlace_4 n f (A 3) (eO o) (nI i) S = some (eO (bstF (fulC st) (fun _ => true) (gP g - i) i o), S) := by
  have hb := h.2.1.b
  intro f
  induction f with
  | zero => intro i o h0 h1 h2; omega
  | succ f ih =>
    intro i o h0 h1 h2
    have hm := eO_m1 (o := o) (fun j e => by have := h0 j e; omega)
    by_cases c : gP g ≤ i
    · simp (disch := omega) only [b_X7_fullestPlace_4, ob_mk, h.1.R, h.I, nI_leI, c, if_true]
      rw [show gP g - i = 0 by omega, bstF]
    · rw [b_X7_fullestPlace_4, h.1.r3_701, ob_mk, h.1.r13_800, ob_mk, h.I.2.2.2.2.2.2.1, if_neg (fun q => c ((nI_leI (by omega) (by omega)).mp q)), show gP g - i = (gP g - (i + 1)) + 1 by omega]
      cases o with
      | none =>
        rw [if_pos (show eO none = -1 from rfl), b_X7_fullestPlace_36, b_X7_fullestPlace_38, nI_1, bstF, if_pos rfl]
        exact ih (i + 1) (some i) (fun j e => by cases e; omega) (by omega) (by omega)
      | some j =>
        have hj := h0 j rfl
        rw [if_neg (fun e => by have := hm.mp e; cases this), xv_hoursAt h (by omega), cb_mk, eO, xv_hoursAt h hj, cb_mk, bstF]
        by_cases c2 : st j + st (6 + j) < st i + st (6 + i)
        · rw [if_neg (Int32.not_le.mpr c2), b_X7_fullestPlace_36, b_X7_fullestPlace_38, nI_1, if_pos (by simp [fulC, c2])]
          exact ih (i + 1) (some i) (fun j e => by cases e; omega) (by omega) (by omega)
        · rw [if_pos (Int32.not_lt.mp c2), b_X7_fullestPlace_38, nI_1, if_neg (by simp [fulC, c2])]
          exact ih (i + 1) (some j) (fun j e => by cases e; exact hj) (by omega) (by omega)
theorem m_ful (hL : LAY A S) (hg : GB g) (hc : CM g S A) (hs : ∀ i, i < 50 → pA S (A 80) i = st i) : ∀ (f i : Nat) (o : Option Nat), (∀ j, o = some j → j < gP g) → i ≤ gP g → gP g < i + f → b_X12_chosen_26 n f (A 60) 0 (eO o) (nI i) S = some (eO (bstF (fulC st) (fun _ => true) (gP g - i) i o), S) := by
  have hb := hg.b
  intro f
  induction f with
  | zero => intro i o h0 h1 h2; omega
  | succ f ih =>
    intro i o h0 h1 h2
    have hm := eO_m1 (o := o) (fun j e => by have := h0 j e; omega)
    rw [b_X12_chosen_26, if_pos rfl, b_X12_chosen_42, hc.1.1]
    by_cases c : gP g ≤ i
    · rw [if_pos ((nI_leI (by omega) (by omega)).mpr c), show gP g - i = 0 by omega, bstF]
    · rw [if_neg (fun q => c ((nI_leI (by omega) (by omega)).mp q)), if_neg (by decide), b_X12_chosen_65, show gP g - i = (gP g - (i + 1)) + 1 by omega]
      cases o with
      | none =>
        rw [if_pos (show eO none = -1 from rfl), b_X12_chosen_80, b_X12_chosen_82, nI_1, bstF, if_pos rfl]
        exact ih (i + 1) (some i) (fun j e => by cases e; omega) (by omega) (by omega)
      | some j =>
        have hj := h0 j rfl
        have hA : m_X12_isAbove n (A 60) 0 (nI i) (nI j) S = some (if st i + st (6 + i) ≤ st j + st (6 + j) then 0 else 1, S) := by
          unfold m_X12_isAbove
          simp (disch := omega) only [ob_mk, cb_mk, lt_mk, ck_if, pR_sI, pN_sI, pA_sI, pQ_sI, pR_sA, pN_sA, pI_sA, pQ_sA, pR_sF, pN_sF, pI_sF, pQ_sF, ite_true, ite_false, if_true, if_false, not_true_eq_false, not_false_eq_true, LIT, ofN, nI_add, pk_mul, ixn, nI_clamp, nI_ltI, nI_leI, nI_eq, Nat.add_zero, Nat.zero_add, Nat.mul_zero, Nat.mul_one, Nat.reduceMul, hL.R, hL.N, hs]
          split <;> rfl
        rw [if_neg (fun e => by have := hm.mp e; cases this), eO, hA, cb_mk, bstF]
        by_cases c2 : st j + st (6 + j) < st i + st (6 + i)
        · rw [if_neg (Int32.not_le.mpr c2), if_neg (by decide), b_X12_chosen_80, b_X12_chosen_82, nI_1, if_pos (by simp [fulC, c2])]
          exact ih (i + 1) (some i) (fun j e => by cases e; omega) (by omega) (by omega)
        · rw [if_pos (Int32.not_lt.mp c2), if_pos rfl, b_X12_chosen_82, nI_1, if_neg (by simp [fulC, c2])]
          exact ih (i + 1) (some j) (fun j e => by cases e; exact hj) (by omega) (by omega)
theorem mul_lt {a b x y : Nat} (h1 : a ≤ x) (h2 : b ≤ y) : a * b ≤ x * y := Nat.mul_le_mul h1 h2
theorem xv_dear (h : XV g A S st) {i j : Nat} (hi : i < gW g) (hj : j < gW g) : m_X7_isDearer n (A 3) (nI i) (nI j) S = some (if deaC g i j then 1 else 0, S) := by
  have hb := h.2.1.b
  have a1 := mul_lt (h.2.1.w3 hi) (h.2.1.w1 hj)
  have a2 := mul_lt (h.2.1.w3 hj) (h.2.1.w1 hi)
  unfold deaC
  by_cases c : gwa g (4 * i + 3) * gwa g (4 * j + 1) ≤ gwa g (4 * j + 3) * gwa g (4 * i + 1)
  · rw [if_neg (by simp; omega)]
    simp (disch := omega) only [m_X7_isDearer, ob_mk, cb_mk, lt_mk, ck_if, pR_sI, pN_sI, pA_sI, pQ_sI, pR_sA, pN_sA, pI_sA, pQ_sA, pR_sF, pN_sF, pI_sF, pQ_sF, ite_true, ite_false, if_true, if_false, not_true_eq_false, not_false_eq_true, LIT, ofN, nI_add, pk_mul, ixn, nI_clamp, nI_ltI, nI_leI, nI_eq, Nat.add_zero, Nat.zero_add, Nat.mul_zero, Nat.mul_one, Nat.reduceMul, h.1.R, h.wa, c]
  · rw [if_pos (by simp; omega)]
    simp (disch := omega) only [m_X7_isDearer, ob_mk, cb_mk, lt_mk, ck_if, pR_sI, pN_sI, pA_sI, pQ_sI, pR_sA, pN_sA, pI_sA, pQ_sA, pR_sF, pN_sF, pI_sF, pQ_sF, ite_true, ite_false, if_true, if_false, not_true_eq_false, not_false_eq_true, LIT, ofN, nI_add, pk_mul, ixn, nI_clamp, nI_ltI, nI_leI, nI_eq, Nat.add_zero, Nat.zero_add, Nat.mul_zero, Nat.mul_one, Nat.reduceMul, h.1.R, h.wa, c]
theorem m_dear (hL : LAY A S) (hg : GB g) (hc : CM g S A) {i j : Nat} (hi : i < gW g) (hj : j < gW g) : m_X12_isAbove n (A 60) 1 (nI i) (nI j) S = some (if deaC g i j then 1 else 0, S) := by
  have hb := hg.b
  have a1 := mul_lt (hg.w3 hi) (hg.w1 hj)
  have a2 := mul_lt (hg.w3 hj) (hg.w1 hi)
  have h68 := hc.2.2.1
  unfold deaC
  by_cases c : gwa g (4 * i + 3) * gwa g (4 * j + 1) ≤ gwa g (4 * j + 3) * gwa g (4 * i + 1)
  · rw [if_neg (by simp; omega)]
    simp (disch := omega) only [m_X12_isAbove, ob_mk, cb_mk, lt_mk, ck_if, pR_sI, pN_sI, pA_sI, pQ_sI, pR_sA, pN_sA, pI_sA, pQ_sA, pR_sF, pN_sF, pI_sF, pQ_sF, ite_true, ite_false, if_true, if_false, not_true_eq_false, not_false_eq_true, LIT, ofN, nI_add, pk_mul, ixn, nI_clamp, nI_ltI, nI_leI, nI_eq, Nat.add_zero, Nat.zero_add, Nat.mul_zero, Nat.mul_one, Nat.reduceMul, hL.R, hL.N, h68, c, Nat.reduceEqDiff]
  · rw [if_pos (by simp; omega)]
    simp (disch := omega) only [m_X12_isAbove, ob_mk, cb_mk, lt_mk, ck_if, pR_sI, pN_sI, pA_sI, pQ_sI, pR_sA, pN_sA, pI_sA, pQ_sA, pR_sF, pN_sF, pI_sF, pQ_sF, ite_true, ite_false, if_true, if_false, not_true_eq_false, not_false_eq_true, LIT, ofN, nI_add, pk_mul, ixn, nI_clamp, nI_ltI, nI_leI, nI_eq, Nat.add_zero, Nat.zero_add, Nat.mul_zero, Nat.mul_one, Nat.reduceMul, hL.R, hL.N, h68, c, Nat.reduceEqDiff]
def opB (st : Nat → Int32) (i : Nat) : Bool := decide (st (18 + i) = nI 1)
theorem xv_dea (h : XV g A S st) : ∀ (f i : Nat) (o : Option Nat), (∀ j, o = some j → j < gW g) → i ≤ gW g → gW g < i + f → b_X7_dearestWant_4 n f (A 3) (eO o) (nI i) S = some (eO (bstF (deaC g) (opB st) (gW g - i) i o), S) := by
  have hb := h.2.1.b
  intro f
  induction f with
  | zero => intro i o h0 h1 h2; omega
  | succ f ih =>
    intro i o h0 h1 h2
    have hm := eO_m1 (o := o) (fun j e => by have := h0 j e; omega)
    rw [b_X7_dearestWant_4, h.1.r3_700, ob_mk, h.1.r4_101, ob_mk, h.I.2.1]
    by_cases c : gW g ≤ i
    · rw [if_pos ((nI_leI (by omega) (by omega)).mpr c), show gW g - i = 0 by omega, bstF]
    · have hat : m_X9_at n (A 16) (nI i) 0 S = some (st (18 + i), S) := h.wo (n := n) (p := i) (c := 0) (by omega) (by decide)
      rw [if_neg (fun q => c ((nI_leI (by omega) (by omega)).mp q)), h.1.r3_701, ob_mk, h.1.r13_801, ob_mk, hat, cb_mk, show gW g - i = (gW g - (i + 1)) + 1 by omega]
      by_cases c1 : st (18 + i) = nI 1
      · rw [if_pos (show st (18 + i) = 1 from c1)]
        cases o with
        | none =>
          rw [if_pos (show eO none = -1 from rfl), b_X7_dearestWant_48, b_X7_dearestWant_50, nI_1, bstF, if_pos (by simp [opB, c1])]
          exact ih (i + 1) (some i) (fun j e => by cases e; omega) (by omega) (by omega)
        | some j =>
          have hj := h0 j rfl
          rw [if_neg (fun e => by have := hm.mp e; cases this), eO, xv_dear h (by omega) hj, cb_mk, bstF]
          by_cases c2 : deaC g i j = true
          · rw [if_pos c2, if_neg (by decide), b_X7_dearestWant_48, b_X7_dearestWant_50, nI_1, if_pos (by simp [opB, c1, c2])]
            exact ih (i + 1) (some i) (fun j e => by cases e; omega) (by omega) (by omega)
          · rw [if_neg c2, if_pos rfl, b_X7_dearestWant_50, nI_1, if_neg (by simp [c2])]
            exact ih (i + 1) (some j) (fun j e => by cases e; exact hj) (by omega) (by omega)
      · rw [if_neg (show ¬ st (18 + i) = 1 from c1), b_X7_dearestWant_50, nI_1]
        cases o with
        | none =>
          rw [bstF, if_neg (by simp [opB, c1])]
          exact ih (i + 1) none (fun j e => by cases e) (by omega) (by omega)
        | some j =>
          rw [bstF, if_neg (by simp [opB, c1])]
          exact ih (i + 1) (some j) h0 (by omega) (by omega)
theorem m_dea (hL : LAY A S) (hg : GB g) (hb2 : SB g st) (hc : CM g S A) (hs : ∀ i, i < 50 → pA S (A 80) i = st i) : ∀ (f i : Nat) (o : Option Nat), (∀ j, o = some j → j < gW g) → i ≤ gW g → gW g < i + f → b_X12_chosen_26 n f (A 60) 1 (eO o) (nI i) S = some (eO (bstF (deaC g) (opB st) (gW g - i) i o), S) := by
  have hb := hg.b
  intro f
  induction f with
  | zero => intro i o h0 h1 h2; omega
  | succ f ih =>
    intro i o h0 h1 h2
    have hm := eO_m1 (o := o) (fun j e => by have := h0 j e; omega)
    rw [b_X12_chosen_26, if_neg (by decide), b_X12_chosen_42, hc.1.2.1]
    by_cases c : gW g ≤ i
    · rw [if_pos ((nI_leI (by omega) (by omega)).mpr c), show gW g - i = 0 by omega, bstF]
    · rw [if_neg (fun q => c ((nI_leI (by omega) (by omega)).mp q)), if_pos rfl, hL.r60_1246, ob_mk, hL.n80, show (18 : Int32) + nI i = nI (18 + i) from nI_add 18 i, ck_pos (ixn (by omega) (by omega)), nI_clamp (by omega), hs _ (by omega), show gW g - i = (gW g - (i + 1)) + 1 by omega]
      rcases hb2.op (i := i) (by omega) with c1 | c1
      · have c1' : ¬ st (18 + i) = nI 1 := by rw [c1]; decide
        rw [if_pos (show st (18 + i) = 0 from c1), b_X12_chosen_82, nI_1]
        cases o with
        | none =>
          rw [bstF, if_neg (by simp [opB, c1'])]
          exact ih (i + 1) none (fun j e => by cases e) (by omega) (by omega)
        | some j =>
          rw [bstF, if_neg (by simp [opB, c1'])]
          exact ih (i + 1) (some j) h0 (by omega) (by omega)
      · rw [if_neg (show ¬ st (18 + i) = 0 by rw [c1]; decide), b_X12_chosen_65]
        cases o with
        | none =>
          rw [if_pos (show eO none = -1 from rfl), b_X12_chosen_80, b_X12_chosen_82, nI_1, bstF, if_pos (by simp [opB, c1])]
          exact ih (i + 1) (some i) (fun j e => by cases e; omega) (by omega) (by omega)
        | some j =>
          have hj := h0 j rfl
          rw [if_neg (fun e => by have := hm.mp e; cases this), eO, m_dear hL hg hc (by omega) hj, cb_mk, bstF]
          by_cases c2 : deaC g i j = true
          · rw [if_pos c2, if_neg (by decide), b_X12_chosen_80, b_X12_chosen_82, nI_1, if_pos (by simp [opB, c1, c2])]
            exact ih (i + 1) (some i) (fun j e => by cases e; omega) (by omega) (by omega)
          · rw [if_neg c2, if_pos rfl, b_X12_chosen_82, nI_1, if_neg (by simp [c2])]
            exact ih (i + 1) (some j) (fun j e => by cases e; exact hj) (by omega) (by omega)
end
theorem w2 (y : Int32) : y = 0 ∨ y = 1 ∨ ¬ (0 ≤ y ∧ y ≤ 1) := by
  rcases i32_wi y 0 1 (by decide) (by decide) with ⟨k, _, k2, e⟩ | q
  · have : k = 0 ∨ k = 1 := by omega
    rcases this with rfl | rfl
    · exact Or.inl e
    · exact Or.inr (Or.inl e)
  · exact Or.inr (Or.inr q)
theorem ob_37 (n xa ma : Nat) (hn : 20000 ≤ n) : OB_37 n xa ma (JJ xa ma) := by
  rintro S f ⟨A, V, g, rfl, rfl, h⟩ y
  have h : JG A V g S := h
  have hb := h.gb.b
  refine ⟨200, 8000, by decide, by decide, _, _, sp_isWithin _ _ _ _ _, 1, 6, by decide, by decide, wr_need _ (fun c => ?_) (fun c => ⟨rfl, ki_bad h (b := 0) (by decide) ?_⟩)⟩
  · rcases w2 y with rfl | rfl | q
    · refine (if_pos rfl).mpr ⟨_, h.lay.r0_1101, _, _, xv_ful h.xv n 0 none (fun j e => by cases e) (by omega) (by omega), ki_ok h ?_ (KPL.st0 (KPL.rf _ _ _ _ _)) (st0_th _ _)⟩
      unfold m_X12_chosen
      rw [sp_within, if_pos c, cb_mk, sp_mayS1, cb_mk, if_neg (by decide)]
      exact m_ful (S := st0 S (A 60)) h.st0.lay h.gb h.st0.cm h.st0.nw n 0 none (fun j e => by cases e) (by omega) (by omega)
    · refine (if_neg (by decide)).mpr ⟨_, h.lay.r0_1101, _, _, xv_dea h.xv n 0 none (fun j e => by cases e) (by omega) (by omega), ki_ok h ?_ (KPL.st0 (KPL.rf _ _ _ _ _)) (st0_th _ _)⟩
      unfold m_X12_chosen
      rw [sp_within, if_pos c, cb_mk, sp_mayS1, cb_mk, if_neg (by decide)]
      exact m_dea (S := st0 S (A 60)) h.st0.lay h.gb h.sb h.st0.cm h.st0.nw n 0 none (fun j e => by cases e) (by omega) (by omega)
    · exact absurd c q
  · unfold m_X12_chosen
    rw [sp_within, if_neg c, cb_mk, jg_bad h (by decide), cb_mk, if_pos rfl]
