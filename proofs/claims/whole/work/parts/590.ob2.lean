theorem ob_13 (n xa ma : Nat) (hn : 20000 ≤ n) : OB_13 n xa ma (JJ xa ma) := by
  rintro S f ⟨A, V, g, rfl, rfl, h⟩ y
  have h : JG A V g S := h
  refine ⟨200, 8000, by decide, by decide, 1, 6, by decide, by decide, wrW h (fun i hi e => ?_) (fun q => ⟨rfl, kz_miss h (b := 0) (by decide) ?_⟩)⟩
  · subst e
    refine ⟨_, h.lay.r0_1101, _, _, xv_sa h.xv hi, kz_ok h ?_ h.tkk (tk_th A S)⟩
    unfold m_X12_can
    rw [jg_W1 h hi, cb_mk, if_neg (by decide), jg_take h (by omega), ob_mk, rv_sa h.rv hi, cb_mk]
  · unfold m_X12_can
    rw [jg_W0 h q, cb_mk, if_pos rfl]
/-- what of six: one of them, or none -/
theorem w6 (y : Int32) : (∃ k, k ≤ 5 ∧ y = nI k) ∨ (¬ y = 0 ∧ ¬ y = 1 ∧ ¬ y = 2 ∧ ¬ y = 3 ∧ ¬ y = 4 ∧ ¬ y = 5 ∧ ¬ (0 ≤ y ∧ y ≤ 5)) := by
  rcases i32_wi y 0 5 (by decide) (by decide) with ⟨k, _, k2, e⟩ | q
  · exact Or.inl ⟨k, k2, e⟩
  · refine Or.inr ⟨?_, ?_, ?_, ?_, ?_, ?_, q⟩ <;> (intro e; subst e; exact q (by decide))
theorem w5 (y : Int32) : (∃ k, k ≤ 4 ∧ y = nI k) ∨ (¬ y = 0 ∧ ¬ y = 1 ∧ ¬ y = 2 ∧ ¬ y = 3 ∧ ¬ y = 4 ∧ ¬ (0 ≤ y ∧ y ≤ 4)) := by
  rcases i32_wi y 0 4 (by decide) (by decide) with ⟨k, _, k2, e⟩ | q
  · exact Or.inl ⟨k, k2, e⟩
  · refine Or.inr ⟨?_, ?_, ?_, ?_, ?_, q⟩ <;> (intro e; subst e; exact q (by decide))
theorem ob_8 (n xa ma : Nat) (hn : 20000 ≤ n) : OB_8 n xa ma (JJ xa ma) := by
  rintro S f ⟨A, V, g, rfl, rfl, h⟩ y z
  have h : JG A V g S := h
  have hb := h.gb.b
  refine ⟨200, 8000, by decide, by decide, 1, 6, by decide, by decide, wrP h (fun i hi e => ?_) (fun q => Or.inl ⟨rfl, ki_miss h (b := 0) (by decide) ?_⟩)⟩
  · subst e
    rcases w6 z with ⟨k, hk, rfl⟩ | ⟨z0, z1, z2, z3, z4, z5, zz⟩
    · have hk6 : k = 0 ∨ k = 1 ∨ k = 2 ∨ k = 3 ∨ k = 4 ∨ k = 5 := by omega
      have M : ∀ r, (do_ : m_X12_place n (A 60) (nI i) (nI k) S = some (r, tk A S)) → KI (JJ (A 0) (A 60)) (A 60) (m_X12_place n (A 60) (nI i) (nI k)) 0 (vp_updL f 0 (Int32.toInt64 r)) S := fun r e => ki_ok h e h.tkk (tk_th A S)
      have rv := h.rv
      rcases hk6 with rfl | rfl | rfl | rfl | rfl | rfl
      · refine (if_pos rfl).mpr ⟨_, h.lay.r0_1101, _, h.lay.r3_700, _, h.lay.r4_100, _, _, h.xv.pl (c := 0) hi (by decide), M _ ?_⟩
        unfold m_X12_place
        rw [jg_P1 h hi, cb_mk, if_neg (by decide), sp_within, if_pos (by decide), cb_mk, sp_mayS1, cb_mk, if_neg (by decide), jg_take h (by omega), ob_mk]
        simp (disch := omega) only [ob_mk, cb_mk, lt_mk, ck_if, pR_sI, pN_sI, pA_sI, pQ_sI, pR_sA, pN_sA, pI_sA, pQ_sA, pR_sF, pN_sF, pI_sF, pQ_sF, ite_true, ite_false, if_true, if_false, not_true_eq_false, not_false_eq_true, LIT, ofN, nI_add, pk_mul, ixn, nI_clamp, nI_ltI, nI_leI, nI_eq, Nat.add_zero, Nat.zero_add, Nat.mul_zero, Nat.mul_one, Nat.reduceMul, rv.1.R, rv.1.N, rv.I, rv.A, Nat.reduceLeDiff]
      · refine (if_neg (by decide)).mpr ((if_pos rfl).mpr ⟨_, h.lay.r0_1101, _, h.lay.r3_701, _, h.lay.r13_800, _, _, h.xv.ho (c := 0) hi (by decide), M _ ?_⟩)
        unfold m_X12_place
        rw [jg_P1 h hi, cb_mk, if_neg (by decide), sp_within, if_pos (by decide), cb_mk, sp_mayS1, cb_mk, if_neg (by decide), jg_take h (by omega), ob_mk]
        simp (disch := omega) only [ob_mk, cb_mk, lt_mk, ck_if, pR_sI, pN_sI, pA_sI, pQ_sI, pR_sA, pN_sA, pI_sA, pQ_sA, pR_sF, pN_sF, pI_sF, pQ_sF, ite_true, ite_false, if_true, if_false, not_true_eq_false, not_false_eq_true, LIT, ofN, nI_add, pk_mul, ixn, nI_clamp, nI_ltI, nI_leI, nI_eq, Nat.add_zero, Nat.zero_add, Nat.mul_zero, Nat.mul_one, Nat.reduceMul, rv.1.R, rv.1.N, rv.I, rv.A, Nat.reduceLeDiff, Nat.reduceEqDiff]
      · refine (if_neg (by decide)).mpr ((if_neg (by decide)).mpr ((if_pos rfl).mpr ⟨_, h.lay.r0_1101, _, h.lay.r3_701, _, h.lay.r13_800, _, _, h.xv.ho (c := 1) hi (by decide), M _ ?_⟩))
        unfold m_X12_place
        rw [jg_P1 h hi, cb_mk, if_neg (by decide), sp_within, if_pos (by decide), cb_mk, sp_mayS1, cb_mk, if_neg (by decide), jg_take h (by omega), ob_mk]
        simp (disch := omega) only [ob_mk, cb_mk, lt_mk, ck_if, pR_sI, pN_sI, pA_sI, pQ_sI, pR_sA, pN_sA, pI_sA, pQ_sA, pR_sF, pN_sF, pI_sF, pQ_sF, ite_true, ite_false, if_true, if_false, not_true_eq_false, not_false_eq_true, LIT, ofN, nI_add, pk_mul, ixn, nI_clamp, nI_ltI, nI_leI, nI_eq, Nat.add_zero, Nat.zero_add, Nat.mul_zero, Nat.mul_one, Nat.reduceMul, rv.1.R, rv.1.N, rv.I, rv.A, Nat.reduceLeDiff, Nat.reduceEqDiff]
      · refine (if_neg (by decide)).mpr ((if_neg (by decide)).mpr ((if_neg (by decide)).mpr ((if_pos rfl).mpr ⟨_, h.lay.r0_1101, _, h.lay.r3_700, _, h.lay.r4_100, _, _, h.xv.pl (c := 3) hi (by decide), M _ ?_⟩)))
        unfold m_X12_place
        rw [jg_P1 h hi, cb_mk, if_neg (by decide), sp_within, if_pos (by decide), cb_mk, sp_mayS1, cb_mk, if_neg (by decide), jg_take h (by omega), ob_mk]
        simp (disch := omega) only [ob_mk, cb_mk, lt_mk, ck_if, pR_sI, pN_sI, pA_sI, pQ_sI, pR_sA, pN_sA, pI_sA, pQ_sA, pR_sF, pN_sF, pI_sF, pQ_sF, ite_true, ite_false, if_true, if_false, not_true_eq_false, not_false_eq_true, LIT, ofN, nI_add, pk_mul, ixn, nI_clamp, nI_ltI, nI_leI, nI_eq, Nat.add_zero, Nat.zero_add, Nat.mul_zero, Nat.mul_one, Nat.reduceMul, rv.1.R, rv.1.N, rv.I, rv.A, Nat.reduceLeDiff, Nat.reduceEqDiff]
      · refine (if_neg (by decide)).mpr ((if_neg (by decide)).mpr ((if_neg (by decide)).mpr ((if_neg (by decide)).mpr ((if_pos rfl).mpr ⟨_, h.lay.r0_1101, _, h.lay.r3_701, _, h.lay.r13_800, _, _, h.xv.ho (c := 2) hi (by decide), M _ ?_⟩))))
        unfold m_X12_place
        rw [jg_P1 h hi, cb_mk, if_neg (by decide), sp_within, if_pos (by decide), cb_mk, sp_mayS1, cb_mk, if_neg (by decide), jg_take h (by omega), ob_mk]
        simp (disch := omega) only [ob_mk, cb_mk, lt_mk, ck_if, pR_sI, pN_sI, pA_sI, pQ_sI, pR_sA, pN_sA, pI_sA, pQ_sA, pR_sF, pN_sF, pI_sF, pQ_sF, ite_true, ite_false, if_true, if_false, not_true_eq_false, not_false_eq_true, LIT, ofN, nI_add, pk_mul, ixn, nI_clamp, nI_ltI, nI_leI, nI_eq, Nat.add_zero, Nat.zero_add, Nat.mul_zero, Nat.mul_one, Nat.reduceMul, rv.1.R, rv.1.N, rv.I, rv.A, Nat.reduceLeDiff, Nat.reduceEqDiff]
      · refine (if_neg (by decide)).mpr ((if_neg (by decide)).mpr ((if_neg (by decide)).mpr ((if_neg (by decide)).mpr ((if_neg (by decide)).mpr ((if_pos rfl).mpr ⟨_, h.lay.r0_1101, _, _, xv_HW h.xv (pr := 0) (by omega) (by omega) (by omega), M _ ?_⟩)))))
        unfold m_X12_place
        rw [jg_P1 h hi, cb_mk, if_neg (by decide), sp_within, if_pos (by decide), cb_mk, sp_mayS1, cb_mk, if_neg (by decide), jg_take h (by omega), ob_mk]
        simp (disch := omega) only [ob_mk, cb_mk, lt_mk, ck_if, pR_sI, pN_sI, pA_sI, pQ_sI, pR_sA, pN_sA, pI_sA, pQ_sA, pR_sF, pN_sF, pI_sF, pQ_sF, ite_true, ite_false, if_true, if_false, not_true_eq_false, not_false_eq_true, LIT, ofN, nI_add, pk_mul, ixn, nI_clamp, nI_ltI, nI_leI, nI_eq, Nat.add_zero, Nat.zero_add, Nat.mul_zero, Nat.mul_one, Nat.reduceMul, rv.1.R, rv.1.N, rv.I, rv.A, Nat.reduceLeDiff, Nat.reduceEqDiff, rv_HW rv]
    · simp only [if_neg z0, if_neg z1, if_neg z2, if_neg z3, if_neg z4, if_neg z5]
      refine ⟨1, 6, by decide, by decide, wr_need0 (by decide) (by decide) (Or.inr ⟨rfl, ki_bad h (b := 0) (by decide) ?_⟩)⟩
      unfold m_X12_place
      rw [jg_P1b h hi, cb_mk, if_neg (by decide), sp_within, if_neg zz, cb_mk, jg_bad h (by decide), cb_mk, if_pos rfl]
  · unfold m_X12_place
    rw [jg_P0 h q, cb_mk, if_pos rfl]
