/-! work: the reference between the last byte and the run, and behind the run -/
def wpF : List Nat := [1208, 1241, 1243, 1244, 1245]
def wpA : List Nat := [79, 81, 82]
def WE (n a0 : Nat) (S : pq_S) : Option (Int32 × pq_S) := Option.bind (pR S 1247 a0) fun q57 => Option.bind (pR S 1246 a0) fun q58 => Option.bind (m_X12_copies n a0 q57 q58 50 S) fun S_59 => some ((pI (sI S_59 1242 a0 (pI S_59 1245 a0)) 1244 a0), (sI S_59 1242 a0 (pI S_59 1245 a0)))
section
variable {A b : Nat → Nat} {n z : Nat} {g : GH} {S T : pq_S}
theorem r_wrow {wk : Nat} (hwk : wk < 16) : ∀ (v i f : Nat) (T : pq_S), i + v = 50 → v < f → LAY A T → pI T 1241 (A 60) = nI wk → ∃ T', b_X12_work_123 n f (A 60) (nI i) T = b_X12_work_155 n (A 60) T' ∧ FX [] [] [82] A T T' ∧ (∀ j, i ≤ j → j < 50 → pA T' (A 82) (50 * wk + j) = pA T (A 80) j) ∧ ∀ k, k < 50 * wk + i → pA T' (A 82) k = pA T (A 82) k := by
  intro v
  induction v with
  | zero =>
    intro i f T h1 h2 lT e
    obtain ⟨f, rfl⟩ : ∃ g, f = g + 1 := ⟨f - 1, by omega⟩
    refine ⟨T, ?_, FX.rf _ _ _ _ _, fun j _ _ => by omega, fun _ _ => rfl⟩
    rw [b_X12_work_123, if_pos (show (50 : Int32) ≤ nI i from nI_le (a := 50) (by omega) (by omega))]
  | succ v ih =>
    intro i f T h1 h2 lT e
    obtain ⟨f, rfl⟩ : ∃ g, f = g + 1 := ⟨f - 1, by omega⟩
    have k1 : FX [] [] [82] A T (sA T (A 82) (50 * wk + i) (pA T (A 80) i)) := (FX.rf _ _ _ _ _).wA (by decide)
    have l1 := k1.lay lT (by decide) (by decide)
    obtain ⟨T', a1, a2, a3, a4⟩ := ih (i + 1) f (sA T (A 82) (50 * wk + i) (pA T (A 80) i)) (by omega) (by omega) l1 e
    refine ⟨T', ?_, k1.tr a2, fun j q1 q2 => ?_, fun k hk => ?_⟩
    · rw [b_X12_work_123, if_neg (show ¬ (50 : Int32) ≤ nI i from nI_ge (b := 50) (by omega) (by decide)), lT.r60_1248, ob_mk, lT.r60_1246, ob_mk, lT.n80, ck_pos (ix_nI (by omega) (by decide)), lT.n82, e, show (50 : Int32) * nI wk = nI (50 * wk) from nI_mulp 50 wk, nI_add, ck_pos (ix_nI (by omega) (by decide)), lt_mk, nI_clamp (by omega), nI_clamp (by omega), nI_1]
      exact a1
    · by_cases q : j = i
      · subst q
        rw [a4 _ (by omega), pA_sA, if_pos ⟨rfl, rfl⟩]
      · rw [a3 j (by omega) q2, pA_sA, if_neg (fun z => absurd (lT.2.2.2.2 _ _ (by decide) (by decide) z.1) (by decide))]
    · rw [a4 k (by omega), pA_sA, if_neg (fun z => by omega)]
theorem r_wgo {p R wk : Nat} (hn : 20000 ≤ n) (lT : LAY A T) (hm : MF A b z T p) (hR : R ≤ 25) (e40 : pI T 1240 (A 60) = nI (5 * R)) (e41 : pI T 1241 (A 60) = nI wk) (hwk : wk < 16) (hgb : GB g) (hsb : SB g (gst g)) (hcm : CM g T A) (hlw : LW g T A) (h80 : ∀ i, i < 50 → pA T (A 80) i = gst g i) : ∃ T2, b_X12_work_89 n (A 60) T = Option.bind ((m_goeS_d n 64) (A 60) (nI (5 * 0)) (nI (5 * R)) T2) (WE n (A 60)) ∧ FX wpF [] wpA A T T2 ∧ RV g A T2 (gst g) ∧ LW g T2 A ∧ (pI T2 1243 (A 60) = 0 ∧ pI T2 1244 (A 60) = 0 ∧ pI T2 1245 (A 60) = 0) ∧ (∀ i, i < 5 * R → pA T2 (A 79) i = pA T (A 78) i) ∧ pI T2 1241 (A 60) = nI (wk + 1) ∧ (∀ j, j < 50 → pA T2 (A 82) (50 * wk + j) = gst g j) ∧ (∀ i, i < 50 * wk → pA T2 (A 82) i = pA T (A 82) i) ∧ pI T2 1208 (A 60) = -1 := by
  have k1 : FX wpF [] wpA A T (sI T 1208 (A 60) (-1)) := (FX.rf _ _ _ _ _).wI (by decide)
  have l1 := k1.lay lT (by decide) (by decide)
  have k2 : FX wpF [] wpA A (sI T 1208 (A 60) (-1)) (sF (sI T 1208 (A 60) (-1)) (A 79) (mixr (5 * R) (pA (sI T 1208 (A 60) (-1)) (A 78)) (pA (sI T 1208 (A 60) (-1)) (A 79)))) := (FX.rf _ _ _ _ _).wF (by decide)
  have l2 := k2.lay l1 (by decide) (by decide)
  have k12 := k1.tr k2
  obtain ⟨T3, a1, a2, a3, a4⟩ := r_wrow (n := n) (A := A) hwk 50 0 n _ (by omega) (by omega) l2 (by rw [pI_sF, pI_n (by decide)]; exact e41)
  have k3 : FX wpF [] wpA A T T3 := k12.tr (a2.mono (by simp) (by simp) (by decide))
  have l3 := k3.lay lT (by decide) (by decide)
  have e3 : pI T3 1241 (A 60) = nI wk := by rw [a2.2.1 1241 (A 60) (by simp) (by simp), pI_sF, pI_n (by decide)]; exact e41
  have k4 : FX wpF [] wpA A T (sI T3 1241 (A 60) (nI (wk + 1))) := k3.wI (by decide)
  have l4 := k4.lay lT (by decide) (by decide)
  obtain ⟨T5, c1, c2, c3⟩ := r_cp (n := n) (x := 80) (y := 81) (K := 50) l4 (by decide) (by decide) (by decide) l4.n80 l4.n81 (by decide) hn
  have k5 : FX wpF [] wpA A T T5 := k4.tr (c2.mono (by simp) (by simp) (by decide))
  have k8 : FX wpF [] wpA A T (sI (sI (sI T5 1243 (A 60) 0) 1244 (A 60) 0) 1245 (A 60) 0) := ((k5.wI (by decide)).wI (by decide)).wI (by decide)
  have l8 := k8.lay lT (by decide) (by decide)
  have e58 : pI T5 1241 (A 60) = nI (wk + 1) := by rw [c2.2.1 _ _ (by simp) (by simp), pI_e]
  refine ⟨sI (sI (sI T5 1243 (A 60) 0) 1244 (A 60) 0) 1245 (A 60) 0, ?_, k8, ⟨l8, hgb, hsb, ?_, fun i hi => ?_⟩, ?_, ⟨?_, ?_, ?_⟩, fun i hi => ?_, ?_, fun j hj => ?_, fun i hi => ?_, ?_⟩
  · unfold b_X12_work_89
    rw [r_res hm, cb_mk, pI_n (by decide), hm.2.2.2, if_pos rfl, l1.r60_1238, ob_mk, l1.r60_1239, ob_mk, pI_n (by decide), e40, sp_copies (S := sI T 1208 (A 60) (-1)) (l1.ne (by decide) (by decide) (by decide)) (by rw [l1.n78]; omega) (by rw [l1.n79]; omega) (by rw [l1.n78]; decide) (by rw [l1.n79]; decide) (by omega), ob_mk]
    refine a1.trans ?_
    unfold b_X12_work_155
    have e6 : pI T3 1241 (A 60) + (1 : Int32) = nI (wk + 1) := by rw [e3]; exact nI_1 wk
    rw [e6, l4.r60_1246, ob_mk, l4.r60_1247, ob_mk, show m_X12_copies n (A 60) (A 80) (A 81) 50 (sI T3 1241 (A 60) (nI (wk + 1))) = some T5 from c1, ob_mk]
    have e7 : pI (sI (sI (sI T5 1243 (A 60) 0) 1244 (A 60) 0) 1245 (A 60) 0) 1240 (A 60) = nI (5 * R) := by rw [k8.I lT (by decide) (by decide) (by decide)]; exact e40
    rw [e7]
    rfl
  · exact hcm.cg (fun e he => by
      have : e.2 < 92 ∧ e.1 ∉ wpF := by revert e; decide
      exact k8.I lT this.2 this.1 (by simp)) (fun c hc i => by
      have : c < 92 ∧ ∀ j ∈ wpA, j < 92 ∧ c ≠ j := by revert c; decide
      exact k8.W lT this.1 this.2 i)
  · show pA T5 (A 81) i = _
    rw [c3 i hi, pA_sI, k3.W lT (by decide) (by decide)]
    exact h80 i hi
  · exact hlw.cg (fun e he => by
      have : e.2 < 92 ∧ e.1 ∉ wpF := by revert e; decide
      exact k8.I lT this.2 this.1 (by simp)) (fun c hc i => by
      have : c < 92 ∧ ∀ j ∈ wpA, j < 92 ∧ c ≠ j := by revert c; decide
      exact k8.W lT this.1 this.2 i)
  · rw [pI_n (by decide), pI_n (by decide), pI_e]
  · rw [pI_n (by decide), pI_e]
  · rw [pI_e]
  · show pA T5 (A 79) i = _
    rw [c2.W l4 (by decide) (by decide), pA_sI, a2.W l2 (by decide) (by decide), pA_sF, if_pos rfl]
    unfold mixr
    rw [if_pos hi]
    rfl
  · rw [pI_n (by decide), pI_n (by decide), pI_n (by decide)]; exact e58
  · show pA T5 (A 82) _ = _
    rw [c2.W l4 (by decide) (by decide), pA_sI, a3 j (by omega) hj, k12.W lT (by decide) (by decide)]
    exact h80 j hj
  · show pA T5 (A 82) _ = _
    rw [c2.W l4 (by decide) (by decide), pA_sI, a4 i (by omega), pA_sF, if_neg (l1.ne (by decide) (by decide) (by decide))]
    rfl
  · rw [pI_n (by decide), pI_n (by decide), pI_n (by decide), c2.2.1 _ _ (by simp) (by simp), pI_n (by decide), a2.2.1 _ _ (by simp) (by simp), pI_sF, pI_e]
theorem r_wend {st : Nat → Int32} (hn : 20000 ≤ n) (h : RV g A T st) : ∃ F, WE n (A 60) T = some (pI T 1244 (A 60), F) ∧ FX [1242] [] [80] A T F ∧ (∀ i, i < 50 → pA F (A 80) i = st i) ∧ pI F 1242 (A 60) = pI T 1245 (A 60) := by
  have lT := h.1
  obtain ⟨T1, a1, a2, a3⟩ := r_cp (n := n) (x := 81) (y := 80) (K := 50) lT (by decide) (by decide) (by decide) lT.n81 lT.n80 (by decide) hn
  have e4 : pI T1 1244 (A 60) = pI T 1244 (A 60) := a2.2.1 _ _ (by simp) (by simp)
  have e5 : pI T1 1245 (A 60) = pI T 1245 (A 60) := a2.2.1 _ _ (by simp) (by simp)
  refine ⟨sI T1 1242 (A 60) (pI T1 1245 (A 60)), ?_, (a2.mono (by simp) (by simp) (by simp)).wI (by decide), fun i hi => ?_, ?_⟩
  · unfold WE
    rw [lT.r60_1247, ob_mk, lT.r60_1246, ob_mk, show m_X12_copies n (A 60) (A 81) (A 80) 50 T = some T1 from a1, ob_mk, pI_n (by decide), e4]
  · show pA T1 (A 80) i = _
    rw [a3 i hi]; exact h.2.2.2.2 i hi
  · rw [pI_e]; exact e5
end
