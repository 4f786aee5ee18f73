theorem ob_9 (n xa ma : Nat) (hn : 20000 ≤ n) : OB_9 n xa ma (JJ xa ma) := by
  rintro S f ⟨A, V, g, rfl, rfl, h⟩ y z
  have h : JG A V g S := h
  have hb := h.gb.b
  refine ⟨200, 8000, by decide, by decide, 1, 6, by decide, by decide, wrW h (fun i hi e => ?_) (fun q => Or.inl ⟨rfl, ki_miss h (b := 0) (by decide) ?_⟩)⟩
  · subst e
    rcases w6 z with ⟨k, hk, rfl⟩ | ⟨z0, z1, z2, z3, z4, z5, zz⟩
    · have hk6 : k = 0 ∨ k = 1 ∨ k = 2 ∨ k = 3 ∨ k = 4 ∨ k = 5 := by omega
      have M : ∀ r, (do_ : m_X12_want n (A 60) (nI i) (nI k) S = some (r, st0 S (A 60))) → KI (JJ (A 0) (A 60)) (A 60) (m_X12_want n (A 60) (nI i) (nI k)) 0 (vp_updL f 0 (Int32.toInt64 r)) S := fun r e => ki_ok h e (KPL.st0 (KPL.rf _ _ _ _ _)) (st0_th _ _)
      have h1 := h.cm.2.2.1
      rcases hk6 with rfl | rfl | rfl | rfl | rfl | rfl
      · refine (if_pos rfl).mpr ⟨_, h.lay.r0_1101, _, h.lay.r3_700, _, h.lay.r4_101, _, _, h.xv.wa (c := 0) hi (by decide), M _ ?_⟩
        unfold m_X12_want
        rw [jg_W1 h hi, cb_mk, if_neg (by decide), sp_within, if_pos (by decide), cb_mk, sp_mayS1, cb_mk, if_neg (by decide)]
        simp (disch := omega) only [ob_mk, cb_mk, lt_mk, ck_if, pR_sI, pN_sI, pA_sI, pQ_sI, pR_sA, pN_sA, pI_sA, pQ_sA, pR_sF, pN_sF, pI_sF, pQ_sF, ite_true, ite_false, if_true, if_false, not_true_eq_false, not_false_eq_true, LIT, ofN, nI_add, pk_mul, ixn, nI_clamp, nI_ltI, nI_leI, nI_eq, Nat.add_zero, Nat.zero_add, Nat.mul_zero, Nat.mul_one, Nat.reduceMul, h.lay.R, h.lay.N, h.nw, h1, Nat.reduceLeDiff, Nat.reduceEqDiff]
        try rfl
      · refine (if_neg (by decide)).mpr ((if_pos rfl).mpr ⟨_, h.lay.r0_1101, _, h.lay.r3_700, _, h.lay.r4_101, _, _, h.xv.wa (c := 1) hi (by decide), M _ ?_⟩)
        unfold m_X12_want
        rw [jg_W1 h hi, cb_mk, if_neg (by decide), sp_within, if_pos (by decide), cb_mk, sp_mayS1, cb_mk, if_neg (by decide)]
        simp (disch := omega) only [ob_mk, cb_mk, lt_mk, ck_if, pR_sI, pN_sI, pA_sI, pQ_sI, pR_sA, pN_sA, pI_sA, pQ_sA, pR_sF, pN_sF, pI_sF, pQ_sF, ite_true, ite_false, if_true, if_false, not_true_eq_false, not_false_eq_true, LIT, ofN, nI_add, pk_mul, ixn, nI_clamp, nI_ltI, nI_leI, nI_eq, Nat.add_zero, Nat.zero_add, Nat.mul_zero, Nat.mul_one, Nat.reduceMul, h.lay.R, h.lay.N, h.nw, h1, Nat.reduceLeDiff, Nat.reduceEqDiff]
        try rfl
      · refine (if_neg (by decide)).mpr ((if_neg (by decide)).mpr ((if_pos rfl).mpr ⟨_, h.lay.r0_1101, _, h.lay.r3_700, _, h.lay.r4_101, _, _, h.xv.wa (c := 2) hi (by decide), M _ ?_⟩))
        unfold m_X12_want
        rw [jg_W1 h hi, cb_mk, if_neg (by decide), sp_within, if_pos (by decide), cb_mk, sp_mayS1, cb_mk, if_neg (by decide)]
        simp (disch := omega) only [ob_mk, cb_mk, lt_mk, ck_if, pR_sI, pN_sI, pA_sI, pQ_sI, pR_sA, pN_sA, pI_sA, pQ_sA, pR_sF, pN_sF, pI_sF, pQ_sF, ite_true, ite_false, if_true, if_false, not_true_eq_false, not_false_eq_true, LIT, ofN, nI_add, pk_mul, ixn, nI_clamp, nI_ltI, nI_leI, nI_eq, Nat.add_zero, Nat.zero_add, Nat.mul_zero, Nat.mul_one, Nat.reduceMul, h.lay.R, h.lay.N, h.nw, h1, Nat.reduceLeDiff, Nat.reduceEqDiff]
        try rfl
      · refine (if_neg (by decide)).mpr ((if_neg (by decide)).mpr ((if_neg (by decide)).mpr ((if_pos rfl).mpr ⟨_, h.lay.r0_1101, _, h.lay.r3_700, _, h.lay.r4_101, _, _, h.xv.wa (c := 3) hi (by decide), M _ ?_⟩)))
        unfold m_X12_want
        rw [jg_W1 h hi, cb_mk, if_neg (by decide), sp_within, if_pos (by decide), cb_mk, sp_mayS1, cb_mk, if_neg (by decide)]
        simp (disch := omega) only [ob_mk, cb_mk, lt_mk, ck_if, pR_sI, pN_sI, pA_sI, pQ_sI, pR_sA, pN_sA, pI_sA, pQ_sA, pR_sF, pN_sF, pI_sF, pQ_sF, ite_true, ite_false, if_true, if_false, not_true_eq_false, not_false_eq_true, LIT, ofN, nI_add, pk_mul, ixn, nI_clamp, nI_ltI, nI_leI, nI_eq, Nat.add_zero, Nat.zero_add, Nat.mul_zero, Nat.mul_one, Nat.reduceMul, h.lay.R, h.lay.N, h.nw, h1, Nat.reduceLeDiff, Nat.reduceEqDiff]
        try rfl
      · refine (if_neg (by decide)).mpr ((if_neg (by decide)).mpr ((if_neg (by decide)).mpr ((if_neg (by decide)).mpr ((if_pos rfl).mpr ⟨_, h.lay.r0_1101, _, h.lay.r3_701, _, h.lay.r13_801, _, _, h.xv.wo (c := 0) hi (by decide), M _ ?_⟩))))
        unfold m_X12_want
        rw [jg_W1 h hi, cb_mk, if_neg (by decide), sp_within, if_pos (by decide), cb_mk, sp_mayS1, cb_mk, if_neg (by decide)]
        simp (disch := omega) only [ob_mk, cb_mk, lt_mk, ck_if, pR_sI, pN_sI, pA_sI, pQ_sI, pR_sA, pN_sA, pI_sA, pQ_sA, pR_sF, pN_sF, pI_sF, pQ_sF, ite_true, ite_false, if_true, if_false, not_true_eq_false, not_false_eq_true, LIT, ofN, nI_add, pk_mul, ixn, nI_clamp, nI_ltI, nI_leI, nI_eq, Nat.add_zero, Nat.zero_add, Nat.mul_zero, Nat.mul_one, Nat.reduceMul, h.lay.R, h.lay.N, h.nw, h1, Nat.reduceLeDiff, Nat.reduceEqDiff]
        try rfl
      · refine (if_neg (by decide)).mpr ((if_neg (by decide)).mpr ((if_neg (by decide)).mpr ((if_neg (by decide)).mpr ((if_neg (by decide)).mpr ((if_pos rfl).mpr ⟨_, h.lay.r0_1101, _, h.lay.r3_701, _, h.lay.r13_801, _, _, h.xv.wo (c := 1) hi (by decide), M _ ?_⟩)))))
        unfold m_X12_want
        rw [jg_W1 h hi, cb_mk, if_neg (by decide), sp_within, if_pos (by decide), cb_mk, sp_mayS1, cb_mk, if_neg (by decide)]
        simp (disch := omega) only [ob_mk, cb_mk, lt_mk, ck_if, pR_sI, pN_sI, pA_sI, pQ_sI, pR_sA, pN_sA, pI_sA, pQ_sA, pR_sF, pN_sF, pI_sF, pQ_sF, ite_true, ite_false, if_true, if_false, not_true_eq_false, not_false_eq_true, LIT, ofN, nI_add, pk_mul, ixn, nI_clamp, nI_ltI, nI_leI, nI_eq, Nat.add_zero, Nat.zero_add, Nat.mul_zero, Nat.mul_one, Nat.reduceMul, h.lay.R, h.lay.N, h.nw, h1, Nat.reduceLeDiff, Nat.reduceEqDiff]
        try rfl
    · simp only [if_neg z0, if_neg z1, if_neg z2, if_neg z3, if_neg z4, if_neg z5]
      refine ⟨1, 6, by decide, by decide, wr_need0 (by decide) (by decide) (Or.inr ⟨rfl, ki_bad h (b := 0) (by decide) ?_⟩)⟩
      unfold m_X12_want
      rw [jg_W1b h hi, cb_mk, if_neg (by decide), sp_within, if_neg zz, cb_mk, jg_bad h (by decide), cb_mk, if_pos rfl]
  · unfold m_X12_want
    rw [jg_W0 h q, cb_mk, if_pos rfl]
theorem ob_10 (n xa ma : Nat) (hn : 20000 ≤ n) : OB_10 n xa ma (JJ xa ma) := by
  rintro S f ⟨A, V, g, rfl, rfl, h⟩ y z
  have h : JG A V g S := h
  have hb := h.gb.b
  refine ⟨200, 8000, by decide, by decide, 1, 6, by decide, by decide, wrM h (fun i hi e => ?_) (fun q => Or.inl ⟨rfl, ki_miss h (b := 0) (by decide) ?_⟩)⟩
  · subst e
    rcases w5 z with ⟨k, hk, rfl⟩ | ⟨z0, z1, z2, z3, z4, zz⟩
    · have hk6 : k = 0 ∨ k = 1 ∨ k = 2 ∨ k = 3 ∨ k = 4 := by omega
      have M : ∀ r, (do_ : m_X12_mine n (A 60) (nI i) (nI k) S = some (r, tk A S)) → KI (JJ (A 0) (A 60)) (A 60) (m_X12_mine n (A 60) (nI i) (nI k)) 0 (vp_updL f 0 (Int32.toInt64 r)) S := fun r e => ki_ok h e h.tkk (tk_th A S)
      have rv := h.rv
      rcases hk6 with rfl | rfl | rfl | rfl | rfl
      · refine (if_pos rfl).mpr ⟨_, h.lay.r0_1101, _, h.lay.r3_700, _, h.lay.r4_102, _, _, h.xv.mi (c := 0) hi (by decide), M _ ?_⟩
        unfold m_X12_mine
        rw [jg_M1 h hi, cb_mk, if_neg (by decide), sp_within, if_pos (by decide), cb_mk, sp_mayS1, cb_mk, if_neg (by decide), jg_take h (by omega), ob_mk]
        simp (disch := omega) only [ob_mk, cb_mk, lt_mk, ck_if, pR_sI, pN_sI, pA_sI, pQ_sI, pR_sA, pN_sA, pI_sA, pQ_sA, pR_sF, pN_sF, pI_sF, pQ_sF, ite_true, ite_false, if_true, if_false, not_true_eq_false, not_false_eq_true, LIT, ofN, nI_add, pk_mul, ixn, nI_clamp, nI_ltI, nI_leI, nI_eq, Nat.add_zero, Nat.zero_add, Nat.mul_zero, Nat.mul_one, Nat.reduceMul, rv.1.R, rv.1.N, rv.I, rv.A, Nat.reduceLeDiff, Nat.reduceEqDiff]
        try rfl
      · refine (if_neg (by decide)).mpr ((if_pos rfl).mpr ⟨_, h.lay.r0_1101, _, h.lay.r3_701, _, h.lay.r13_802, _, _, h.xv.so (c := 0) hi (by decide), M _ ?_⟩)
        unfold m_X12_mine
        rw [jg_M1 h hi, cb_mk, if_neg (by decide), sp_within, if_pos (by decide), cb_mk, sp_mayS1, cb_mk, if_neg (by decide), jg_take h (by omega), ob_mk]
        simp (disch := omega) only [ob_mk, cb_mk, lt_mk, ck_if, pR_sI, pN_sI, pA_sI, pQ_sI, pR_sA, pN_sA, pI_sA, pQ_sA, pR_sF, pN_sF, pI_sF, pQ_sF, ite_true, ite_false, if_true, if_false, not_true_eq_false, not_false_eq_true, LIT, ofN, nI_add, pk_mul, ixn, nI_clamp, nI_ltI, nI_leI, nI_eq, Nat.add_zero, Nat.zero_add, Nat.mul_zero, Nat.mul_one, Nat.reduceMul, rv.1.R, rv.1.N, rv.I, rv.A, Nat.reduceLeDiff, Nat.reduceEqDiff]
        try rfl
      · refine (if_neg (by decide)).mpr ((if_neg (by decide)).mpr ((if_pos rfl).mpr ⟨_, h.lay.r0_1101, _, h.lay.r3_700, _, h.lay.r4_102, _, _, h.xv.mi (c := 2) hi (by decide), M _ ?_⟩))
        unfold m_X12_mine
        rw [jg_M1 h hi, cb_mk, if_neg (by decide), sp_within, if_pos (by decide), cb_mk, sp_mayS1, cb_mk, if_neg (by decide), jg_take h (by omega), ob_mk]
        simp (disch := omega) only [ob_mk, cb_mk, lt_mk, ck_if, pR_sI, pN_sI, pA_sI, pQ_sI, pR_sA, pN_sA, pI_sA, pQ_sA, pR_sF, pN_sF, pI_sF, pQ_sF, ite_true, ite_false, if_true, if_false, not_true_eq_false, not_false_eq_true, LIT, ofN, nI_add, pk_mul, ixn, nI_clamp, nI_ltI, nI_leI, nI_eq, Nat.add_zero, Nat.zero_add, Nat.mul_zero, Nat.mul_one, Nat.reduceMul, rv.1.R, rv.1.N, rv.I, rv.A, Nat.reduceLeDiff, Nat.reduceEqDiff]
        try rfl
      · refine (if_neg (by decide)).mpr ((if_neg (by decide)).mpr ((if_neg (by decide)).mpr ((if_pos rfl).mpr ⟨_, h.lay.r0_1101, _, h.lay.r0_1101, _, h.lay.r3_701, _, _, xv_isMineOpen h.xv hi, ?_⟩)))
        rw [h.xv.I.2.2.2.2.2.2.2.2.2.1]
        have R := rv_isOpenMine (n := n) rv hi
        by_cases c : gst g 48 - gst g 48 / 12 * 12 < nI (gmi g (3 * i + 2))
        · rw [if_pos c] at R ⊢
          refine (if_pos rfl).mpr (M 0 ?_)
          unfold m_X12_mine
          rw [jg_M1 h hi, cb_mk, if_neg (by decide), sp_within, if_pos (by decide), cb_mk, sp_mayS1, cb_mk, if_neg (by decide), jg_take h (by omega), ob_mk, if_pos (by decide), if_neg (by decide), if_pos (by decide), R, cb_mk, if_pos rfl]
        · rw [if_neg c] at R ⊢
          refine (if_neg (by decide)).mpr (M 1 ?_)
          unfold m_X12_mine
          rw [jg_M1 h hi, cb_mk, if_neg (by decide), sp_within, if_pos (by decide), cb_mk, sp_mayS1, cb_mk, if_neg (by decide), jg_take h (by omega), ob_mk, if_pos (by decide), if_neg (by decide), if_pos (by decide), R, cb_mk, if_neg (by decide)]
      · refine (if_neg (by decide)).mpr ((if_neg (by decide)).mpr ((if_neg (by decide)).mpr ((if_neg (by decide)).mpr ((if_pos rfl).mpr ⟨_, h.lay.r0_1101, _, h.lay.r3_701, _, h.lay.r13_802, _, _, h.xv.so (c := 1) hi (by decide), M _ ?_⟩))))
        unfold m_X12_mine
        rw [jg_M1 h hi, cb_mk, if_neg (by decide), sp_within, if_pos (by decide), cb_mk, sp_mayS1, cb_mk, if_neg (by decide), jg_take h (by omega), ob_mk]
        simp (disch := omega) only [ob_mk, cb_mk, lt_mk, ck_if, pR_sI, pN_sI, pA_sI, pQ_sI, pR_sA, pN_sA, pI_sA, pQ_sA, pR_sF, pN_sF, pI_sF, pQ_sF, ite_true, ite_false, if_true, if_false, not_true_eq_false, not_false_eq_true, LIT, ofN, nI_add, pk_mul, ixn, nI_clamp, nI_ltI, nI_leI, nI_eq, Nat.add_zero, Nat.zero_add, Nat.mul_zero, Nat.mul_one, Nat.reduceMul, rv.1.R, rv.1.N, rv.I, rv.A, Nat.reduceLeDiff, Nat.reduceEqDiff]
        try rfl
    · simp only [if_neg z0, if_neg z1, if_neg z2, if_neg z3, if_neg z4]
      refine ⟨1, 6, by decide, by decide, wr_need0 (by decide) (by decide) (Or.inr ⟨rfl, ki_bad h (b := 0) (by decide) ?_⟩)⟩
      unfold m_X12_mine
      rw [jg_M1b h hi, cb_mk, if_neg (by decide), sp_within, if_neg zz, cb_mk, jg_bad h (by decide), cb_mk, if_pos rfl]
  · unfold m_X12_mine
    rw [jg_M0 h q, cb_mk, if_pos rfl]
/-- a sum over places -/
def smF (st : Nat → Int32) (off : Nat) : Nat → Nat → Int32 → Int32
  | 0, _, acc => acc
  | k + 1, i, acc => smF st off k (i + 1) (acc + st (off + i))
theorem xv_sm {g : GH} {A : Nat → Nat} {S : pq_S} {st : Nat → Int32} {n : Nat} (h : XV g A S st) {c : Nat} (hc : c < 3) : ∀ (f i : Nat) (acc : Int32), i ≤ gP g → gP g < i + f → b_X9_sum_4 n f (A 14) (nI c) acc (nI i) S = some (smF st (6 * c) (gP g - i) i acc, S) := by
  have hb := h.2.1.b
  intro f
  induction f with
  | zero => intro i acc h1 h2; omega
  | succ f ih =>
    intro i acc h1 h2
    by_cases c0 : gP g ≤ i
    · simp (disch := omega) only [b_X9_sum_4, ob_mk, cb_mk, lt_mk, ck_if, pR_sI, pN_sI, pA_sI, pQ_sI, pR_sA, pN_sA, pI_sA, pQ_sA, pR_sF, pN_sF, pI_sF, pQ_sF, ite_true, ite_false, if_true, if_false, not_true_eq_false, not_false_eq_true, LIT, ofN, nI_add, pk_mul, ixn, nI_clamp, nI_ltI, nI_leI, nI_eq, Nat.add_zero, Nat.zero_add, Nat.mul_zero, Nat.mul_one, Nat.reduceMul, h.I, c0]
      rw [show gP g - i = 0 by omega, smF]
    · simp (disch := omega) only [b_X9_sum_4, ob_mk, cb_mk, lt_mk, ck_if, pR_sI, pN_sI, pA_sI, pQ_sI, pR_sA, pN_sA, pI_sA, pQ_sA, pR_sF, pN_sF, pI_sF, pQ_sF, ite_true, ite_false, if_true, if_false, not_true_eq_false, not_false_eq_true, LIT, ofN, nI_add, pk_mul, ixn, nI_clamp, nI_ltI, nI_leI, nI_eq, Nat.add_zero, Nat.zero_add, Nat.mul_zero, Nat.mul_one, Nat.reduceMul, h.I, c0, h.ho]
      rw [show gP g - i = (gP g - (i + 1)) + 1 by omega, smF]
      exact ih (i + 1) _ (by omega) (by omega)
theorem m_sm {g : GH} {A : Nat → Nat} {S : pq_S} {st : Nat → Int32} {n : Nat} (hL : LAY A S) (hg : GB g) (hc : CM g S A) (hs : ∀ i, i < 50 → pA S (A 80) i = st i) {o : Nat} (ho : o < 12) : ∀ (f i : Nat) (acc : Int32), i ≤ gP g → gP g < i + f → b_X12_sum_4 n f (A 60) (nI o) acc (nI i) S = some (smF st o (gP g - i) i acc, S) := by
  have hb := hg.b
  intro f
  induction f with
  | zero => intro i acc h1 h2; omega
  | succ f ih =>
    intro i acc h1 h2
    by_cases c0 : gP g ≤ i
    · simp (disch := omega) only [b_X12_sum_4, ob_mk, cb_mk, lt_mk, ck_if, pR_sI, pN_sI, pA_sI, pQ_sI, pR_sA, pN_sA, pI_sA, pQ_sA, pR_sF, pN_sF, pI_sF, pQ_sF, ite_true, ite_false, if_true, if_false, not_true_eq_false, not_false_eq_true, LIT, ofN, nI_add, pk_mul, ixn, nI_clamp, nI_ltI, nI_leI, nI_eq, Nat.add_zero, Nat.zero_add, Nat.mul_zero, Nat.mul_one, Nat.reduceMul, hc.1, c0]
      rw [show gP g - i = 0 by omega, smF]
    · simp (disch := omega) only [b_X12_sum_4, ob_mk, cb_mk, lt_mk, ck_if, pR_sI, pN_sI, pA_sI, pQ_sI, pR_sA, pN_sA, pI_sA, pQ_sA, pR_sF, pN_sF, pI_sF, pQ_sF, ite_true, ite_false, if_true, if_false, not_true_eq_false, not_false_eq_true, LIT, ofN, nI_add, pk_mul, ixn, nI_clamp, nI_ltI, nI_leI, nI_eq, Nat.add_zero, Nat.zero_add, Nat.mul_zero, Nat.mul_one, Nat.reduceMul, hc.1, c0, hL.R, hL.N, hs]
      rw [show gP g - i = (gP g - (i + 1)) + 1 by omega, smF]
      exact ih (i + 1) _ (by omega) (by omega)
theorem w10 (y : Int32) : (∃ k, k ≤ 9 ∧ y = nI k) ∨ (¬ y = 0 ∧ ¬ y = 1 ∧ ¬ y = 2 ∧ ¬ y = 3 ∧ ¬ y = 4 ∧ ¬ y = 5 ∧ ¬ y = 6 ∧ ¬ y = 7 ∧ ¬ y = 8 ∧ ¬ y = 9 ∧ ¬ (0 ≤ y ∧ y ≤ 9)) := by
  rcases i32_wi y 0 9 (by decide) (by decide) with ⟨k, _, k2, e⟩ | q
  · exact Or.inl ⟨k, k2, e⟩
  · refine Or.inr ⟨?_, ?_, ?_, ?_, ?_, ?_, ?_, ?_, ?_, ?_, q⟩ <;> (intro e; subst e; exact q (by decide))
theorem ob_7 (n xa ma : Nat) (hn : 20000 ≤ n) : OB_7 n xa ma (JJ xa ma) := by
  rintro S f ⟨A, V, g, rfl, rfl, h⟩ z
  have h : JG A V g S := h
  have hb := h.gb.b
  refine ⟨200, 8000, by decide, by decide, ?_⟩
  unfold wp_X11_told
  rcases w10 z with ⟨k, hk, rfl⟩ | ⟨z0, z1, z2, z3, z4, z5, z6, z7, z8, z9, zz⟩
  · have hk6 : k = 0 ∨ k = 1 ∨ k = 2 ∨ k = 3 ∨ k = 4 ∨ k = 5 ∨ k = 6 ∨ k = 7 ∨ k = 8 ∨ k = 9 := by omega
    have M : ∀ r, (do_ : m_X12_told n (A 60) (nI k) S = some (r, st0 S (A 60))) → KI (JJ (A 0) (A 60)) (A 60) (m_X12_told n (A 60) (nI k)) 0 (vp_updL f 0 (Int32.toInt64 r)) S := fun r e => ki_ok h e (KPL.st0 (KPL.rf _ _ _ _ _)) (st0_th _ _)
    have hc1 := h.cm.1
    have hI : ∀ q a v, q ≠ 1200 → pI (sI S 1200 (A 60) v) q a = pI S q a := fun q a v hq => by rw [pI_sI, if_neg (fun r => hq r.1)]
    have t4 := h.tp.2.2.2.1
    have bk := h.2.2.1.2.2.1
    have bx := h.2.2.1.2.1
    rcases hk6 with rfl | rfl | rfl | rfl | rfl | rfl | rfl | rfl | rfl | rfl
    · refine (if_pos rfl).mpr ⟨_, h.lay.r0_1101, _, h.lay.r3_700, _, h.lay.r4_100, M _ ?_⟩
      unfold m_X12_told
      rw [sp_within, if_pos (by decide), cb_mk, sp_mayS1, cb_mk, if_neg (by decide)]
      simp (disch := omega) only [ob_mk, cb_mk, lt_mk, ck_if, pR_sI, pN_sI, pA_sI, pQ_sI, pR_sA, pN_sA, pI_sA, pQ_sA, pR_sF, pN_sF, pI_sF, pQ_sF, ite_true, ite_false, if_true, if_false, not_true_eq_false, not_false_eq_true, LIT, ofN, nI_add, pk_mul, ixn, nI_clamp, nI_ltI, nI_leI, nI_eq, Nat.add_zero, Nat.zero_add, Nat.mul_zero, Nat.mul_one, Nat.reduceMul, h.lay.R, h.lay.N, h.nw, h.xv.I, hI, hc1, t4, bk, bx, Nat.reduceLeDiff, Nat.reduceEqDiff]
      try rfl
    · refine (if_neg (by decide)).mpr ((if_pos rfl).mpr ⟨_, h.lay.r0_1101, _, h.lay.r3_700, _, h.lay.r4_101, M _ ?_⟩)
      unfold m_X12_told
      rw [sp_within, if_pos (by decide), cb_mk, sp_mayS1, cb_mk, if_neg (by decide)]
      simp (disch := omega) only [ob_mk, cb_mk, lt_mk, ck_if, pR_sI, pN_sI, pA_sI, pQ_sI, pR_sA, pN_sA, pI_sA, pQ_sA, pR_sF, pN_sF, pI_sF, pQ_sF, ite_true, ite_false, if_true, if_false, not_true_eq_false, not_false_eq_true, LIT, ofN, nI_add, pk_mul, ixn, nI_clamp, nI_ltI, nI_leI, nI_eq, Nat.add_zero, Nat.zero_add, Nat.mul_zero, Nat.mul_one, Nat.reduceMul, h.lay.R, h.lay.N, h.nw, h.xv.I, hI, hc1, t4, bk, bx, Nat.reduceLeDiff, Nat.reduceEqDiff]
      try rfl
    · refine (if_neg (by decide)).mpr ((if_neg (by decide)).mpr ((if_pos rfl).mpr ⟨_, h.lay.r0_1101, _, h.lay.r3_700, _, h.lay.r4_102, M _ ?_⟩))
      unfold m_X12_told
      rw [sp_within, if_pos (by decide), cb_mk, sp_mayS1, cb_mk, if_neg (by decide)]
      simp (disch := omega) only [ob_mk, cb_mk, lt_mk, ck_if, pR_sI, pN_sI, pA_sI, pQ_sI, pR_sA, pN_sA, pI_sA, pQ_sA, pR_sF, pN_sF, pI_sF, pQ_sF, ite_true, ite_false, if_true, if_false, not_true_eq_false, not_false_eq_true, LIT, ofN, nI_add, pk_mul, ixn, nI_clamp, nI_ltI, nI_leI, nI_eq, Nat.add_zero, Nat.zero_add, Nat.mul_zero, Nat.mul_one, Nat.reduceMul, h.lay.R, h.lay.N, h.nw, h.xv.I, hI, hc1, t4, bk, bx, Nat.reduceLeDiff, Nat.reduceEqDiff]
      try rfl
    · refine (if_neg (by decide)).mpr ((if_neg (by decide)).mpr ((if_neg (by decide)).mpr ((if_pos rfl).mpr ⟨_, h.lay.r0_1101, _, h.lay.r3_700, _, h.lay.r4_103, M _ ?_⟩)))
      unfold m_X12_told
      rw [sp_within, if_pos (by decide), cb_mk, sp_mayS1, cb_mk, if_neg (by decide)]
      simp (disch := omega) only [ob_mk, cb_mk, lt_mk, ck_if, pR_sI, pN_sI, pA_sI, pQ_sI, pR_sA, pN_sA, pI_sA, pQ_sA, pR_sF, pN_sF, pI_sF, pQ_sF, ite_true, ite_false, if_true, if_false, not_true_eq_false, not_false_eq_true, LIT, ofN, nI_add, pk_mul, ixn, nI_clamp, nI_ltI, nI_leI, nI_eq, Nat.add_zero, Nat.zero_add, Nat.mul_zero, Nat.mul_one, Nat.reduceMul, h.lay.R, h.lay.N, h.nw, h.xv.I, hI, hc1, t4, bk, bx, Nat.reduceLeDiff, Nat.reduceEqDiff]
      try rfl
    · refine (if_neg (by decide)).mpr ((if_neg (by decide)).mpr ((if_neg (by decide)).mpr ((if_neg (by decide)).mpr ((if_pos rfl).mpr ⟨_, h.lay.r0_1101, _, h.lay.r3_701, M _ ?_⟩))))
      unfold m_X12_told
      rw [sp_within, if_pos (by decide), cb_mk, sp_mayS1, cb_mk, if_neg (by decide)]
      simp (disch := omega) only [ob_mk, cb_mk, lt_mk, ck_if, pR_sI, pN_sI, pA_sI, pQ_sI, pR_sA, pN_sA, pI_sA, pQ_sA, pR_sF, pN_sF, pI_sF, pQ_sF, ite_true, ite_false, if_true, if_false, not_true_eq_false, not_false_eq_true, LIT, ofN, nI_add, pk_mul, ixn, nI_clamp, nI_ltI, nI_leI, nI_eq, Nat.add_zero, Nat.zero_add, Nat.mul_zero, Nat.mul_one, Nat.reduceMul, h.lay.R, h.lay.N, h.nw, h.xv.I, hI, hc1, t4, bk, bx, Nat.reduceLeDiff, Nat.reduceEqDiff]
      try rfl
    · refine (if_neg (by decide)).mpr ((if_neg (by decide)).mpr ((if_neg (by decide)).mpr ((if_neg (by decide)).mpr ((if_neg (by decide)).mpr ((if_pos rfl).mpr ⟨_, h.lay.r0_1101, _, h.lay.r3_701, M _ ?_⟩)))))
      unfold m_X12_told
      rw [sp_within, if_pos (by decide), cb_mk, sp_mayS1, cb_mk, if_neg (by decide)]
      simp (disch := omega) only [ob_mk, cb_mk, lt_mk, ck_if, pR_sI, pN_sI, pA_sI, pQ_sI, pR_sA, pN_sA, pI_sA, pQ_sA, pR_sF, pN_sF, pI_sF, pQ_sF, ite_true, ite_false, if_true, if_false, not_true_eq_false, not_false_eq_true, LIT, ofN, nI_add, pk_mul, ixn, nI_clamp, nI_ltI, nI_leI, nI_eq, Nat.add_zero, Nat.zero_add, Nat.mul_zero, Nat.mul_one, Nat.reduceMul, h.lay.R, h.lay.N, h.nw, h.xv.I, hI, hc1, t4, bk, bx, Nat.reduceLeDiff, Nat.reduceEqDiff]
      try rfl
    · refine (if_neg (by decide)).mpr ((if_neg (by decide)).mpr ((if_neg (by decide)).mpr ((if_neg (by decide)).mpr ((if_neg (by decide)).mpr ((if_neg (by decide)).mpr ((if_pos rfl).mpr ⟨_, h.lay.r0_1101, _, h.lay.r3_701, _, h.lay.r13_800, _, _, xv_sm h.xv (c := 0) (by decide) n 0 0 (by omega) (by omega), M _ ?_⟩))))))
      unfold m_X12_told
      rw [sp_within, if_pos (by decide), cb_mk, sp_mayS1, cb_mk, if_neg (by decide)]
      simp (disch := omega) only [LIT, ofN, nI_add, pk_mul, ixn, nI_clamp, nI_ltI, nI_leI, nI_eq, Nat.add_zero, Nat.zero_add, Nat.mul_zero, Nat.mul_one, Nat.reduceMul, ite_true, ite_false, Nat.reduceLeDiff, Nat.reduceEqDiff]
      unfold b_X12_told_116 m_X12_sum
      have := m_sm (n := n) h.st0.lay h.gb h.st0.cm h.st0.nw (o := 0) (by decide) n 0 0 (by omega) (by omega)
      exact congrArg (fun o => cb o _) this
    · refine (if_neg (by decide)).mpr ((if_neg (by decide)).mpr ((if_neg (by decide)).mpr ((if_neg (by decide)).mpr ((if_neg (by decide)).mpr ((if_neg (by decide)).mpr ((if_neg (by decide)).mpr ((if_pos rfl).mpr ⟨_, h.lay.r0_1101, _, h.lay.r3_701, _, h.lay.r13_800, _, _, xv_sm h.xv (c := 1) (by decide) n 0 0 (by omega) (by omega), M _ ?_⟩)))))))
      unfold m_X12_told
      rw [sp_within, if_pos (by decide), cb_mk, sp_mayS1, cb_mk, if_neg (by decide)]
      simp (disch := omega) only [LIT, ofN, nI_add, pk_mul, ixn, nI_clamp, nI_ltI, nI_leI, nI_eq, Nat.add_zero, Nat.zero_add, Nat.mul_zero, Nat.mul_one, Nat.reduceMul, ite_true, ite_false, Nat.reduceLeDiff, Nat.reduceEqDiff]
      unfold b_X12_told_116 m_X12_sum
      have := m_sm (n := n) h.st0.lay h.gb h.st0.cm h.st0.nw (o := 6) (by decide) n 0 0 (by omega) (by omega)
      exact congrArg (fun o => cb o _) this
    · refine (if_neg (by decide)).mpr ((if_neg (by decide)).mpr ((if_neg (by decide)).mpr ((if_neg (by decide)).mpr ((if_neg (by decide)).mpr ((if_neg (by decide)).mpr ((if_neg (by decide)).mpr ((if_neg (by decide)).mpr ((if_pos rfl).mpr ⟨_, h.lay.r0_1107, M _ ?_⟩))))))))
      unfold m_X12_told
      rw [sp_within, if_pos (by decide), cb_mk, sp_mayS1, cb_mk, if_neg (by decide)]
      simp (disch := omega) only [ob_mk, cb_mk, lt_mk, ck_if, pR_sI, pN_sI, pA_sI, pQ_sI, pR_sA, pN_sA, pI_sA, pQ_sA, pR_sF, pN_sF, pI_sF, pQ_sF, ite_true, ite_false, if_true, if_false, not_true_eq_false, not_false_eq_true, LIT, ofN, nI_add, pk_mul, ixn, nI_clamp, nI_ltI, nI_leI, nI_eq, Nat.add_zero, Nat.zero_add, Nat.mul_zero, Nat.mul_one, Nat.reduceMul, h.lay.R, h.lay.N, h.nw, h.xv.I, hI, hc1, t4, bk, bx, Nat.reduceLeDiff, Nat.reduceEqDiff]
      try rfl
    · refine (if_neg (by decide)).mpr ((if_neg (by decide)).mpr ((if_neg (by decide)).mpr ((if_neg (by decide)).mpr ((if_neg (by decide)).mpr ((if_neg (by decide)).mpr ((if_neg (by decide)).mpr ((if_neg (by decide)).mpr ((if_neg (by decide)).mpr ((if_pos rfl).mpr (M _ ?_))))))))))
      unfold m_X12_told
      rw [sp_within, if_pos (by decide), cb_mk, sp_mayS1, cb_mk, if_neg (by decide)]
      simp (disch := omega) only [ob_mk, cb_mk, lt_mk, ck_if, pR_sI, pN_sI, pA_sI, pQ_sI, pR_sA, pN_sA, pI_sA, pQ_sA, pR_sF, pN_sF, pI_sF, pQ_sF, ite_true, ite_false, if_true, if_false, not_true_eq_false, not_false_eq_true, LIT, ofN, nI_add, pk_mul, ixn, nI_clamp, nI_ltI, nI_leI, nI_eq, Nat.add_zero, Nat.zero_add, Nat.mul_zero, Nat.mul_one, Nat.reduceMul, h.lay.R, h.lay.N, h.nw, h.xv.I, hI, hc1, t4, bk, bx, Nat.reduceLeDiff, Nat.reduceEqDiff]
      try rfl
  · simp only [if_neg z0, if_neg z1, if_neg z2, if_neg z3, if_neg z4, if_neg z5, if_neg z6, if_neg z7, if_neg z8, if_neg z9]
    refine ⟨1, 6, by decide, by decide, wr_need0 (by decide) (by decide) ⟨rfl, ki_bad h (b := 0) (by decide) ?_⟩⟩
    unfold m_X12_told
    rw [sp_within, if_neg zz, cb_mk, jg_bad h (by decide), cb_mk, if_pos rfl]
