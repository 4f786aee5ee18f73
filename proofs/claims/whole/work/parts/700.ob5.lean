theorem ob_11 (n xa ma : Nat) (hn : 20000 ≤ n) : OB_11 n xa ma (JJ xa ma) := by
  rintro S f ⟨A, V, g, rfl, rfl, h⟩ y z k w
  have h : JG A V g S := h
  have hb := h.gb.b
  refine ⟨200, 8000, by decide, by decide, 1, 6, by decide, by decide, wrP h (fun i hi e => ⟨1, 6, by decide, by decide, wrP h (fun j hj e2 => ?_) (fun q => Or.inl ⟨rfl, ki_miss h (b := 0) (by decide) ?_⟩)⟩) (fun q => Or.inl ⟨rfl, ki_miss h (b := 0) (by decide) ?_⟩)⟩
  · subst e; subst e2
    have B : ∀ (hm : m_X12_arrives n (A 60) (nI i) (nI j) k w (badS A S) = some (0, badM A 2 (st0 (badS A S) (A 60)))), pb_X11_arrives_41 n (A 0) (nI i) (nI j) k w (A 0) S (200 - (1 + 1)) (8000 - (6 + 6)) (fun (k1 : Nat) (S1 : pq_S) => (k1 = 2 ∧ (KI (JJ (A 0) (A 60)) (A 60) (m_X12_arrives n (A 60) (nI i) (nI j) k w)) 1 f S1) ∨ (k1 = 1 ∧ (KI (JJ (A 0) (A 60)) (A 60) (m_X12_arrives n (A 60) (nI i) (nI j) k w)) 2 f S1)) (fun r (S1 : pq_S) => (KI (JJ (A 0) (A 60)) (A 60) (m_X12_arrives n (A 60) (nI i) (nI j) k w)) 0 (vp_updL f 0 (Int32.toInt64 r)) S1) := fun hm => ⟨1, 6, by decide, by decide, wr_need0 (by decide) (by decide) (Or.inr ⟨rfl, ki_bad h (b := 0) (by decide) hm⟩)⟩
    by_cases c0 : nI i = nI j
    · rw [if_pos c0]
      refine B ?_
      unfold m_X12_arrives b_X12_arrives_54 b_X12_arrives_55
      rw [jg_P1b h hi, cb_mk, if_neg (by decide), jg_P1b h hj, cb_mk, if_neg (by decide), if_pos c0, jg_bad h (by decide), cb_mk, if_pos rfl]
    · rw [if_neg c0]
      refine ⟨_, _, sp_isWithin _ _ _ _ _, ?_⟩
      by_cases c1 : 0 ≤ k ∧ k ≤ 999
      · rw [if_pos c1, if_neg (by decide)]
        refine ⟨_, _, sp_isWithin _ _ _ _ _, ?_⟩
        by_cases c2 : 0 ≤ w ∧ w ≤ 1
        · rw [if_pos c2, if_neg (by decide)]
          refine ⟨1, 6, by decide, by decide, wr_need1 ⟨_, h.lay.r0_1101, ?_⟩⟩
          rcases i32_wi k 0 999 (by decide) (by decide) with ⟨a, _, ha, rfl⟩ | r
          · rcases i32_wi w 0 1 (by decide) (by decide) with ⟨b, _, hb1, rfl⟩ | r
            · obtain ⟨T1, a1, a2⟩ := xv_arr (n := n) (gd := b) h.xv h.2.1 (by omega) hi hj (show a < 2 ^ 31 by omega)
              have k1 : KP A S T1 := a2.kp (by decide) (by decide) (KPL.rf _ _ _ _ _)
              have h1 := h.kp k1
              obtain ⟨T2, b1, b2⟩ := rv_arr (n := n) (gd := b) h1.rv (h1.kp h1.tkk).2.1 (by omega) hi hj (show a < 2 ^ 31 by omega)
              refine ⟨_, _, a1, ki_ok h1 (S2 := T2) ?_ (b2.kp h1.tkk) ((b2.th _ _).trans (tk_th A T1))⟩
              unfold m_X12_arrives b_X12_arrives_55
              rw [jg_P1 h1 hi, cb_mk, if_neg (by decide), jg_P1 h1 hj, cb_mk, if_neg (by decide), if_neg c0, sp_within, if_pos c1, cb_mk, if_neg (by decide), sp_within, if_pos c2, cb_mk, if_neg (by decide), sp_mayS1, cb_mk, if_neg (by decide), jg_take h1 (by omega), ob_mk, b1, cb_mk]
            · exact absurd c2 r
          · exact absurd c1 r
        · rw [if_neg c2, if_pos rfl]
          refine B ?_
          unfold m_X12_arrives b_X12_arrives_54 b_X12_arrives_55
          rw [jg_P1b h hi, cb_mk, if_neg (by decide), jg_P1b h hj, cb_mk, if_neg (by decide), if_neg c0, sp_within, if_pos c1, cb_mk, if_neg (by decide), sp_within, if_neg c2, cb_mk, if_pos rfl, jg_bad h (by decide), cb_mk, if_pos rfl]
      · rw [if_neg c1, if_pos rfl]
        refine B ?_
        unfold m_X12_arrives b_X12_arrives_54 b_X12_arrives_55
        rw [jg_P1b h hi, cb_mk, if_neg (by decide), jg_P1b h hj, cb_mk, if_neg (by decide), if_neg c0, sp_within, if_neg c1, cb_mk, if_pos rfl, jg_bad h (by decide), cb_mk, if_pos rfl]
  · subst e
    unfold m_X12_arrives
    rw [jg_P1m h hi, cb_mk, if_neg (by decide), jg_P0 h q, cb_mk, if_pos rfl]
  · unfold m_X12_arrives
    rw [jg_P0 h q, cb_mk, if_pos rfl]
theorem ob_12 (n xa ma : Nat) (hn : 20000 ≤ n) : OB_12 n xa ma (JJ xa ma) := by
  rintro S f ⟨A, V, g, rfl, rfl, h⟩ y z
  have h : JG A V g S := h
  have hb := h.gb.b
  refine ⟨200, 8000, by decide, by decide, 1, 6, by decide, by decide, wrM h (fun i hi e => ⟨_, _, sp_isWithin _ _ _ _ _, 1, 6, by decide, by decide, wr_need _ (fun c => ?_) (fun c => Or.inr ⟨rfl, ki_bad h (b := 0) (by decide) ?_⟩)⟩) (fun q => Or.inl ⟨rfl, ki_miss h (b := 0) (by decide) ?_⟩)⟩
  · subst e
    rcases i32_wi z 0 9 (by decide) (by decide) with ⟨k, _, hk, rfl⟩ | r
    · have s0 := h.sb.se hi
      have hat : m_X9_at n (A 18) (nI i) 0 S = some (nI (nS (gst g) (42 + i)), S) := by
        have := h.xv.so (n := n) (p := i) (c := 0) hi (by decide)
        rw [Nat.mul_zero, Nat.add_zero, s0.1] at this
        exact this
      obtain ⟨T1, a1, a2⟩ := xv_dig (n := n) (mo := gst g 48) h.lay h.2.1 (by omega) (show k < 2 ^ 31 by omega) (show nS (gst g) (42 + i) < 2 ^ 31 by omega)
      have k1 : KP A S T1 := a2.kp (by decide) (by decide) (KPL.rf _ _ _ _ _)
      have h1 := h.kp k1
      obtain ⟨T2, b1, b2⟩ := rv_dig (n := n) h1.rv (h1.kp h1.tkk).2.1 (by omega) hi (show k < 2 ^ 31 by omega) (show nS (gst g) (42 + i) < 2 ^ 31 by omega) s0.1
      refine ⟨_, h.lay.r0_1101, _, h.lay.r0_1101, _, h.lay.r3_701, _, h.lay.r13_802, _, _, hat, _, h.lay.r0_1101, _, h.lay.r3_701, _, _, by rw [h.xv.I.2.2.2.2.2.2.2.2.2.1]; exact a1, ki_ok h1 (S2 := T2) ?_ (b2.kp h1.tkk) ((b2.th _ _).trans (tk_th A T1))⟩
      unfold m_X12_digs
      rw [jg_M1 h1 hi, cb_mk, if_neg (by decide), sp_within, if_pos c, cb_mk, sp_mayS1, cb_mk, if_neg (by decide), jg_take h1 (by omega), ob_mk, b1, cb_mk]
    · exact absurd c r
  · subst e
    unfold m_X12_digs
    rw [jg_M1b h hi, cb_mk, if_neg (by decide), sp_within, if_neg c, cb_mk, jg_bad h (by decide), cb_mk, if_pos rfl]
  · unfold m_X12_digs
    rw [jg_M0 h q, cb_mk, if_pos rfl]
