/-! nights and night -/
section
variable {A : Nat → Nat} {n : Nat} {g : GH} {S T : pq_S} {V : Nat → Prop} {D p : Nat}
theorem x_nof {w : Nat} (hn : 20000 ≤ n) (h : JG A V g S) (hw : w < gW g) (hx : XNO A g (gwa g (4 * w)) D S) : m_X4_nightOf n (A 32) (nI w) S = b_X4_nightOf_29 n (A 32) (nI (cw g (gwa g (4 * w)) w)) S := by
  have hW := h.gb.b.2.1
  have lS := h.lay
  have hlt : cw g (gwa g (4 * w)) w < cw g (gwa g (4 * w)) (gW g) := by
    have := cw_mono (g := g) (p := gwa g (4 * w)) (c := w + 1) (gW g - (w + 1))
    rw [show w + 1 + (gW g - (w + 1)) = gW g by omega, cw_s rfl] at this
    omega
  have hm := cw_le (g := g) (p := gwa g (4 * w)) (gW g)
  have loop : ∀ v i f, i + v = cw g (gwa g (4 * w)) w → v < f → b_X4_nightOf_2 n f (A 32) (nI w) (nI i) S = b_X4_nightOf_29 n (A 32) (nI (cw g (gwa g (4 * w)) w)) S := by
    intro v
    induction v with
    | zero =>
      intro i f h1 h2
      obtain ⟨f, rfl⟩ : ∃ g, f = g + 1 := ⟨f - 1, by omega⟩
      obtain rfl : i = cw g (gwa g (4 * w)) w := by omega
      rw [b_X4_nightOf_2, hx.1.1, if_neg (nI_ge (by omega) (by omega)), lS.r32_401, ob_mk, lS.n33, if_neg (show ¬ Int32.ofNat 12 ≤ nI (cw g (gwa g (4 * w)) w) from nI_ge (by omega) (by decide)), ob_mk, lS.n33, ck_pos (ix_nI (by omega) (by decide)), nI_clamp (by omega), hx.1.2 _ hlt, qf_at rfl (gW g) hw, if_pos rfl]
    | succ v ih =>
      intro i f h1 h2
      obtain ⟨f, rfl⟩ : ∃ g, f = g + 1 := ⟨f - 1, by omega⟩
      have q := qf_ok (g := g) (p := gwa g (4 * w)) (gW g) i (by omega)
      rw [b_X4_nightOf_2, hx.1.1, if_neg (nI_ge (by omega) (by omega)), lS.r32_401, ob_mk, lS.n33, if_neg (show ¬ Int32.ofNat 12 ≤ nI i from nI_ge (by omega) (by decide)), ob_mk, lS.n33, ck_pos (ix_nI (by omega) (by decide)), nI_clamp (by omega), hx.1.2 _ (by omega), if_neg (fun z => by
        have e := (nI_eq (by omega) (by omega)).mp z
        have q3 := q.2.2
        rw [e] at q3
        omega), show nI i + 1 = nI (i + 1) from nI_1 i]
      exact ih (i + 1) f (by omega) (by omega)
  unfold m_X4_nightOf
  exact loop _ 0 n (Nat.zero_add _) (by omega)
theorem r_fnd (hn : 20000 ≤ n) (h : JG A V g S) (hD : D ≤ 24) (hp : p < 100) : ∃ T r, m_X12_findNights n (A 60) (nI p) (nI D) (sI S 1200 (A 60) 0) = some (r, T) ∧ KP A S T ∧ pI T 1200 (A 60) = 0 ∧ LAY A T ∧ ((NOO g p D ∧ r = -1) ∨ ∃ K a, YOO g p D K a ∧ r = nI K ∧ ∀ i, i < cw g p (gW g) → pA T (A 86) (qf g p (gW g) i) = nI (a i)) := by
  have h0 := h.st0
  obtain ⟨T, r, r1, r2, r3⟩ := r_find (n := n) (T := st0 S (A 60)) hn hD hp h0.lay h0.cm h.gb
  have k0 : KP A S (st0 S (A 60)) := KPL.wI (KPL.rf _ _ _ _ _) (by decide)
  refine ⟨T, r, r1, h.tr k0 (r2.kpl.mono (by decide) (by simp) (by decide)), ?_, r2.lay h0.lay (by decide) (by decide), r3⟩
  rw [r2.I h0.lay (by decide) (by decide) (by decide)]
  exact pI_e ..
end
theorem ob_22 (n xa ma : Nat) (hn : 20000 ≤ n) : OB_22 n xa ma (JJ xa ma) := by
  rintro S f ⟨A, V, g, rfl, rfl, h⟩ y z
  have h : JG A V g S := h
  have hb := h.gb.b
  refine ⟨200, 8000, by decide, by decide, 1, 6, by decide, by decide, wrP h (fun p hp e => ⟨_, _, sp_isWithin _ _ _ _ _, 1, 6, by decide, by decide, wr_need _ (fun c => ?_) (fun c => Or.inr ⟨rfl, ki_bad h (b := 0) (by decide) ?_⟩)⟩) (fun q => Or.inl ⟨rfl, ki_miss h (b := 0) (by decide) ?_⟩)⟩
  · subst e
    rcases i32_wi z 1 24 (by decide) (by decide) with ⟨D, _, hD, rfl⟩ | r
    · refine ⟨A 32, h.lay.r0_1103, 1, 4096, by decide, by decide, w_pack hn h hD (by omega) (Nat.le_refl _) (Nat.le_refl _) (fun S' kS' hx => ?_)⟩
      have h' := h.kp kS'
      refine ⟨A 32, h'.lay.r0_1103, ?_⟩
      obtain ⟨T, r, r1, r2, r3, _, r5⟩ := r_fnd (n := n) (D := D) (p := p) hn h' hD (by omega)
      have er : pI S' 406 (A 32) = r := by
        rcases hx.2 with ⟨n1, n2⟩ | ⟨K, a, n1, n2, _⟩
        · rcases r5 with ⟨_, m2⟩ | ⟨K', a', m1, _, _⟩
          · rw [n2, m2]
          · exact (m1.no n1).elim
        · rcases r5 with ⟨m1, _⟩ | ⟨K', a', m1, m2, _⟩
          · exact (n1.no m1).elim
          · rw [n2, m2, (n1.uq m1).1]
      rw [er]
      refine ki_ok h' (S2 := T) ?_ r2 r3
      unfold m_X12_nights
      rw [jg_P1 h' hp, cb_mk, if10, sp_within, if_pos c, cb_mk, sp_mayS1, cb_mk, if10, r1, cb_mk]
    · exact absurd c r
  · subst e
    unfold m_X12_nights
    rw [jg_P1b h hp, cb_mk, if10, sp_within, if_neg c, cb_mk, jg_bad h (by decide), cb_mk, if00]
  · unfold m_X12_nights
    rw [jg_P0 h q, cb_mk, if00]
theorem ob_23 (n xa ma : Nat) (hn : 20000 ≤ n) : OB_23 n xa ma (JJ xa ma) := by
  rintro S f ⟨A, V, g, rfl, rfl, h⟩ y z
  have h : JG A V g S := h
  have hb := h.gb.b
  refine ⟨200, 8000, by decide, by decide, 1, 6, by decide, by decide, wrW h (fun w hw e => ⟨_, _, sp_isWithin _ _ _ _ _, 1, 6, by decide, by decide, wr_need _ (fun c => ?_) (fun c => Or.inr ⟨rfl, ki_bad h (b := 0) (by decide) ?_⟩)⟩) (fun q => Or.inl ⟨rfl, ki_miss h (b := 0) (by decide) ?_⟩)⟩
  · subst e
    have hwp := h.gb.2.2.1 w hw
    rcases i32_wi z 1 24 (by decide) (by decide) with ⟨D, _, hD, rfl⟩ | r
    · refine ⟨A 32, h.lay.r0_1103, A 3, h.lay.r0_1101, A 4, h.lay.r3_700, A 7, h.lay.r4_101, nI (gwa g (4 * w)), S, h.xv.wa (c := 0) hw (by decide), 1, 4096, by decide, by decide, w_pack hn h hD (by omega) (Nat.le_refl _) (Nat.le_refl _) (fun S' kS' hx => ?_)⟩
      have h' := h.kp kS'
      obtain ⟨T, r, r1, r2, r3, lT, r5⟩ := r_fnd (n := n) (D := D) (p := gwa g (4 * w)) hn h' hD (by omega)
      have hlt : cw g (gwa g (4 * w)) w < cw g (gwa g (4 * w)) (gW g) := by
        have := cw_mono (g := g) (p := gwa g (4 * w)) (c := w + 1) (gW g - (w + 1))
        rw [show w + 1 + (gW g - (w + 1)) = gW g by omega, cw_s rfl] at this
        omega
      have hm := cw_le (g := g) (p := gwa g (4 * w)) (gW g)
      have ref : ∀ v, (if r = -1 then some (-1, T) else Option.bind (pR T 1259 (A 60)) fun q25 => ck (ix (nI w) (pN T q25)) (dix _ _) (some (pA T q25 (Int32.toNatClampNeg (nI w)), T))) = some (v, T) → KI (JJ (A 0) (A 60)) (A 60) (m_X12_night n (A 60) (nI w) (nI D)) 0 (vp_updL f 0 (Int32.toInt64 v)) S' := fun v hv => by
        refine ki_ok h' (S2 := T) ?_ r2 r3
        unfold m_X12_night
        rw [jg_W1 h' hw, cb_mk, if10, sp_within, if_pos c, cb_mk, sp_mayS1, cb_mk, if10, pR_sI, h'.lay.r60_1215, ob_mk, pN_sI, h'.lay.n68, show (4 : Int32) * nI w = nI (4 * w) from nI_mulp 4 w, ck_pos (ix_nI (by omega) (by decide)), nI_clamp (by omega), pA_sI, h'.cm.2.2.1 _ (by omega), r1, cb_mk]
        exact hv
      refine ⟨A 32, h'.lay.r0_1103, ?_⟩
      rw [x_nof hn h' hw hx]
      unfold b_X4_nightOf_29
      rcases hx.2 with ⟨n1, n2⟩ | ⟨K, a, n1, n2, n3⟩
      · rw [n2, if_pos rfl]
        refine ⟨-1, S', rfl, ref _ ?_⟩
        rcases r5 with ⟨_, m2⟩ | ⟨K', a', m1, _, _⟩
        · rw [m2, if_pos rfl]
        · exact (m1.no n1).elim
      · rw [n2, if_neg (nI_nm1 (by have := n1.2.1; omega)), h'.lay.r32_403, ob_mk, h'.lay.n35, ck_pos (ix_nI (by omega) (by decide)), nI_clamp (by omega), n3 _ hlt]
        refine ⟨_, S', rfl, ref _ ?_⟩
        rcases r5 with ⟨m1, _⟩ | ⟨K', a', m1, m2, m3⟩
        · exact (n1.no m1).elim
        · have := m3 _ hlt
          rw [qf_at rfl (gW g) hw] at this
          rw [m2, if_neg (nI_nm1 (by have := m1.2.1; omega)), lT.r60_1259, ob_mk, lT.n86, ck_pos (ix_nI (by omega) (by decide)), nI_clamp (by omega), this, (n1.uq m1).2 _ hlt]
    · exact absurd c r
  · subst e
    unfold m_X12_night
    rw [jg_W1b h hw, cb_mk, if10, sp_within, if_neg c, cb_mk, jg_bad h (by decide), cb_mk, if00]
  · unfold m_X12_night
    rw [jg_W0 h q, cb_mk, if00]
