/-! coast: a row of each kind, on both sides -/
section
variable {A b : Nat → Nat} {z n : Nat} {S T : pq_S} {g : GH}
theorem pm1_le {P : Nat} (h : P ≤ 6) : (nI P - 1 : Int32) ≤ 9999 := by
  have : ∀ P, P < 7 → (nI P - 1 : Int32) ≤ 9999 := by decide
  exact this P (by omega)
theorem appn_0 {f v : Nat → Nat} {m : Nat} : appn f m v m = v 0 := by unfold appn; rw [if_neg (by omega), Nat.sub_self]
theorem rowR1 (v : Nat → Nat) : gwa (gR1 g v) = appn (gwa g) (4 * gW g) v := rfl
theorem rowR2 (v : Nat → Nat) : gmi (gR2 g v) = appn (gmi g) (3 * gM g) v := rfl
theorem rowR3 (v : Nat → Nat) : gmo (gR3 g v) = appn (gmo g) (2 * gK g) v := rfl
theorem nIb {k m : Nat} {hi : Int32} (hk : k ≤ 9999) (h : nI k ≤ hi) (e : hi = nI m) (hm : m < 2 ^ 31) : k ≤ m := by
  rw [e, nI_leI (by omega) hm] at h
  exact h
theorem nIa {k m : Nat} {lo : Int32} (hk : k ≤ 9999) (h : lo ≤ nI k) (e : lo = nI m) (hm : m < 2 ^ 31) : m ≤ k := by
  rw [e, nI_leI hm (by omega)] at h
  exact h
theorem nIc {k P : Nat} (hk : k ≤ 9999) (h1 : (0 : Int32) ≤ nI k) (h : nI k ≤ nI P - 1) (hP : P ≤ 9999) : k < P := by
  have := (i32_le_pred (v := nI k) (P := P) (by omega)).mp ⟨h1, h⟩
  exact (nI_ltI (by omega) (by omega)).mp this.2

theorem j_row0 {e : Nat} (hn : 20000 ≤ n) (lS : LAY A S) (lT : LAY A T) (hC : CI A g S T) (hcap : gP g < 6) (hx : XF A b z S e) (hm : MF A b z T e) : ∃ S' T', m_X1_readPlace n (A 39) (A 1) 0 S = some S' ∧ m_X12_readRow n (A 60) (nI (ofV 0)) T = some T' ∧ FXx A S S' ∧ FXm A T T' ∧ LAY A S' ∧ LAY A T' ∧ ((∃ p' g', e < p' ∧ XF A b z S' p' ∧ MF A b z T' p' ∧ CI A g' S' T') ∨ EE A b z S' T') := by
  have hgb := hC.1.b
  have br := x_brow (n := n) (t := 40) (c := 41) (w := 4) (cnt := gP g) (N := 24) (S := S) lS.r40_900 lS.n41 lS.w40 hC.2.1.1 (by omega) (by decide) (by omega)
  have kb : FX [] [(902, 40)] [] A S (sI S 902 (A 40) (nI (gP g + 1))) := (FX.rf _ _ _ _ _).wP (by decide)
  have l0 := kb.lay lS (by decide) (by decide)
  have rT : pI T 1218 (A 60) = nI (gP g) := hC.2.2.1.1
  have rP : pI T 1218 (A 60) = nI (gP g) := hC.2.2.1.1
  have xb : XF A b z (sI S 902 (A 40) (nI (gP g + 1))) e := hx.fx kb lS (by decide) (by decide) (by decide)
  have H0 : (∃ p, XF A b z (sI S 902 (A 40) (nI (gP g + 1))) p ∧ MF A b z T p ∧ True) ∨ EE A b z (sI S 902 (A 40) (nI (gP g + 1))) T := Or.inl ⟨e, xb, hm, trivial⟩
  have P0 : ∀ p, XF A b z (sI S 902 (A 40) (nI (gP g + 1))) p → e ≤ p := fun p hp => by
    have := (nI_eq (by have := xb.1.2.2.2.1; have := xb.2.1; omega) (by have := hp.1.2.2.2.1; have := hp.2.1; omega)).mp (xb.2.2.1.symm.trans hp.2.2.1)
    omega
  obtain ⟨v0, u0, Sa0, S1, Ta0, b0, c0, d0, ⟨pr0, l1, la0, lT1⟩, fx0, fm0, P1, H1⟩ := j_col (n := n) (A := A) (b := b) (z := z) (S := (sI S 902 (A 40) (nI (gP g + 1)))) (T := T) (t := 40) (c := 41) (a := 63) (w := 4) (cnt := gP g) (cc := 0) (N := 24) (lo := 0) (hi := 40) (lo' := 0) (hi' := 40) (D := True) (r := nI (gP g)) hn (by decide) (by decide) l0 lT l0.r40_900 l0.n41 l0.w40 (by omega) (by decide) (fun _ => ⟨rfl, rfl, by decide⟩) (fun _ => rfl) H0 e P0
  let D1 : Prop := (True ∧ True ∧ ∃ k, v0 = nI k ∧ u0 = nI k ∧ (0 : Int32) ≤ nI k ∧ nI k ≤ 40 ∧ k ≤ 9999 ∧ (∀ i, pA S1 (A 41) i = if i = 4 * gP g + 0 then nI k else pA (sI S 902 (A 40) (nI (gP g + 1))) (A 41) i) ∧ (∀ i, pA (sA Ta0 (A 63) (4 * gP g + 0) u0) (A 63) i = if i = 4 * gP g + 0 then nI k else pA T (A 63) i))
  have H1 : (∃ p, XF A b z S1 p ∧ MF A b z (sA Ta0 (A 63) (4 * gP g + 0) u0) p ∧ D1) ∨ EE A b z S1 (sA Ta0 (A 63) (4 * gP g + 0) u0) := by
    rcases H1 with ⟨p, q1, q2, q3, q4, q5⟩ | q
    · exact Or.inl ⟨p, q1, q2, q3, trivial, q5⟩
    · exact Or.inr q
  obtain ⟨v1, u1, Sa1, S2, Ta1, b1, c1, d1, ⟨pr1, l2, la1, lT2⟩, fx1, fm1, P2, H2⟩ := j_col (n := n) (A := A) (b := b) (z := z) (S := S1) (T := (sA Ta0 (A 63) (4 * gP g + 0) u0)) (t := 40) (c := 41) (a := 63) (w := 4) (cnt := gP g) (cc := 1) (N := 24) (lo := 0) (hi := 99) (lo' := 0) (hi' := 99) (D := D1) (r := nI (gP g)) hn (by decide) (by decide) l1 lT1 l1.r40_900 l1.n41 l1.w40 (by omega) (by decide) (fun _ => ⟨rfl, rfl, by decide⟩) (fun _ => rfl) H1 e P1
  let D2 : Prop := (D1 ∧ True ∧ ∃ k, v1 = nI k ∧ u1 = nI k ∧ (0 : Int32) ≤ nI k ∧ nI k ≤ 99 ∧ k ≤ 9999 ∧ (∀ i, pA S2 (A 41) i = if i = 4 * gP g + 1 then nI k else pA S1 (A 41) i) ∧ (∀ i, pA (sA Ta1 (A 63) (4 * gP g + 1) u1) (A 63) i = if i = 4 * gP g + 1 then nI k else pA (sA Ta0 (A 63) (4 * gP g + 0) u0) (A 63) i))
  have H2 : (∃ p, XF A b z S2 p ∧ MF A b z (sA Ta1 (A 63) (4 * gP g + 1) u1) p ∧ D2) ∨ EE A b z S2 (sA Ta1 (A 63) (4 * gP g + 1) u1) := by
    rcases H2 with ⟨p, q1, q2, q3, q4, q5⟩ | q
    · exact Or.inl ⟨p, q1, q2, q3, trivial, q5⟩
    · exact Or.inr q
  obtain ⟨v2, u2, Sa2, S3, Ta2, b2, c2, d2, ⟨pr2, l3, la2, lT3⟩, fx2, fm2, P3, H3⟩ := j_col (n := n) (A := A) (b := b) (z := z) (S := S2) (T := (sA Ta1 (A 63) (4 * gP g + 1) u1)) (t := 40) (c := 41) (a := 63) (w := 4) (cnt := gP g) (cc := 2) (N := 24) (lo := 0) (hi := 99) (lo' := 0) (hi' := 99) (D := D2) (r := nI (gP g)) hn (by decide) (by decide) l2 lT2 l2.r40_900 l2.n41 l2.w40 (by omega) (by decide) (fun _ => ⟨rfl, rfl, by decide⟩) (fun _ => rfl) H2 e P2
  let D3 : Prop := (D2 ∧ True ∧ ∃ k, v2 = nI k ∧ u2 = nI k ∧ (0 : Int32) ≤ nI k ∧ nI k ≤ 99 ∧ k ≤ 9999 ∧ (∀ i, pA S3 (A 41) i = if i = 4 * gP g + 2 then nI k else pA S2 (A 41) i) ∧ (∀ i, pA (sA Ta2 (A 63) (4 * gP g + 2) u2) (A 63) i = if i = 4 * gP g + 2 then nI k else pA (sA Ta1 (A 63) (4 * gP g + 1) u1) (A 63) i))
  have H3 : (∃ p, XF A b z S3 p ∧ MF A b z (sA Ta2 (A 63) (4 * gP g + 2) u2) p ∧ D3) ∨ EE A b z S3 (sA Ta2 (A 63) (4 * gP g + 2) u2) := by
    rcases H3 with ⟨p, q1, q2, q3, q4, q5⟩ | q
    · exact Or.inl ⟨p, q1, q2, q3, trivial, q5⟩
    · exact Or.inr q
  obtain ⟨v3, u3, Sa3, S4, Ta3, b3, c3, d3, ⟨pr3, l4, la3, lT4⟩, fx3, fm3, P4, H4⟩ := j_col (n := n) (A := A) (b := b) (z := z) (S := S3) (T := (sA Ta2 (A 63) (4 * gP g + 2) u2)) (t := 40) (c := 41) (a := 63) (w := 4) (cnt := gP g) (cc := 3) (N := 24) (lo := 0) (hi := 99) (lo' := 0) (hi' := 99) (D := D3) (r := nI (gP g)) hn (by decide) (by decide) l3 lT3 l3.r40_900 l3.n41 l3.w40 (by omega) (by decide) (fun _ => ⟨rfl, rfl, by decide⟩) (fun _ => rfl) H3 e P3
  have kX : FXx A S S4 := (((((kb.mono (F2 := fxF) (P2 := fxP) (A2 := fxA) (by decide) (by decide) (by decide)).tr (fx0.mono (by decide) (by decide) (by decide))).tr (fx1.mono (by decide) (by decide) (by decide))).tr (fx2.mono (by decide) (by decide) (by decide))).tr (fx3.mono (by decide) (by decide) (by decide)))
  have kM : FXm A T (sA Ta3 (A 63) (4 * gP g + 3) u3) := ((((fm0.mono (F2 := fmF) (P2 := []) (A2 := fmA) (by decide) (by decide) (by decide)).tr (fm1.mono (by decide) (by decide) (by decide))).tr (fm2.mono (by decide) (by decide) (by decide))).tr (fm3.mono (by decide) (by decide) (by decide)))
  have kM2 : FX [1204, 1205, 1206] [] [63] A T (sA Ta3 (A 63) (4 * gP g + 3) u3) := (((fm0.tr fm1).tr fm2).tr fm3)
  have kX2 : FX [1003, 1004, 1005, 1006] [] [41] A (sI S 902 (A 40) (nI (gP g + 1))) S4 := (((fx0.tr fx1).tr fx2).tr fx3)
  have rE : pI (sA Ta3 (A 63) (4 * gP g + 3) u3) 1218 (A 60) = nI (gP g) := by rw [kM2.I lT (by decide) (by decide) (by decide)]; exact rT
  have kF : FX [1218] [] [] A (sA Ta3 (A 63) (4 * gP g + 3) u3) (sI (sA Ta3 (A 63) (4 * gP g + 3) u3) 1218 (A 60) (nI (gP g + 1))) := (FX.rf _ _ _ _ _).wI (by decide)
  refine ⟨S4, (sI (sA Ta3 (A 63) (4 * gP g + 3) u3) 1218 (A 60) (nI (gP g + 1))), ?_, ?_, kX, kM.tr (kF.mono (by decide) (by decide) (by decide)), l4, kF.lay lT4 (by decide) (by decide), ?_⟩
  · unfold m_X1_readPlace
    rw [lS.r39_100, ob_mk, br, cb_mk, l0.r39_100, ob_mk, b0, cb_mk, show m_X9_put n (A 40) (nI (gP g)) 0 v0 Sa0 = some S1 from c0, ob_mk, l1.r39_100, ob_mk, b1, cb_mk, show m_X9_put n (A 40) (nI (gP g)) 1 v1 Sa1 = some S2 from c1, ob_mk, l2.r39_100, ob_mk, b2, cb_mk, show m_X9_put n (A 40) (nI (gP g)) 2 v2 Sa2 = some S3 from c2, ob_mk, l3.r39_100, ob_mk, b3, cb_mk, show m_X9_put n (A 40) (nI (gP g)) 3 v3 Sa3 = some S4 from c3, ob_mk]
  · unfold m_X12_readRow
    rw [r_of (by decide) hn, cb_mk, if_pos rfl]
    obtain ⟨n', rfl⟩ : ∃ n', n = n' + 4 := ⟨n - 4, by omega⟩
    rw [lT.r60_1210, ob_mk, d0, cb_mk, rT, show (4 : Int32) * nI (gP g) = nI (4 * gP g + 0) from nI_mulp 4 _, la0.n63, ck_pos (ix_nI (by omega) (by decide)), lt_mk, nI_clamp (by omega)]
    rw [b_X12_readRow_31, if_neg (by decide), lT1.r60_1210, ob_mk, d1, cb_mk, la1.n63, show nI (4 * gP g + 0) + (1 : Int32) = nI (4 * gP g + 1) from nI_add (4 * gP g) 1, ck_pos (ix_nI (by omega) (by decide)), nI_clamp (by omega)]
    rw [b_X12_readRow_31, if_neg (by decide), lT2.r60_1210, ob_mk, d2, cb_mk, la2.n63, show nI (4 * gP g + 0) + (1 + 1 : Int32) = nI (4 * gP g + 2) from nI_add (4 * gP g) 2, ck_pos (ix_nI (by omega) (by decide)), nI_clamp (by omega)]
    rw [b_X12_readRow_31, if_neg (by decide), lT3.r60_1210, ob_mk, d3, cb_mk, la3.n63, show nI (4 * gP g + 0) + (1 + 1 + 1 : Int32) = nI (4 * gP g + 3) from nI_add (4 * gP g) 3, ck_pos (ix_nI (by omega) (by decide)), nI_clamp (by omega)]
    rw [b_X12_readRow_31, if_pos (by decide), b_X12_readRow_57, rE, nI_1]
  · rcases H4 with ⟨p, q1, q2, q3, q4, k3, y3⟩ | ⟨kk, qq, q1, q2⟩
    · obtain ⟨r2, _, k2, y2⟩ := q3
      obtain ⟨r1, _, k1, y1⟩ := r2
      obtain ⟨r0, _, k0, y0⟩ := r1
      obtain ⟨ev0, eu0, lo0, hi0, n90, ax0, am0⟩ := y0
      obtain ⟨ev1, eu1, lo1, hi1, n91, ax1, am1⟩ := y1
      obtain ⟨ev2, eu2, lo2, hi2, n92, ax2, am2⟩ := y2
      obtain ⟨ev3, eu3, lo3, hi3, n93, ax3, am3⟩ := y3
      have h0 : k0 ≤ 40 := nIb n90 hi0 rfl (by decide)
      have h1 : k1 ≤ 99 := nIb n91 hi1 rfl (by decide)
      have h2 : k2 ≤ 99 := nIb n92 hi2 rfl (by decide)
      have h3 : k3 ≤ 99 := nIb n93 hi3 rfl (by decide)
      have vx : ∀ j, j < 4 → pA S4 (A 41) (4 * gP g + j) = nI ((fun j => if j = 0 then k0 else if j = 1 then k1 else if j = 2 then k2 else k3) j) ∧ pA (sA Ta3 (A 63) (4 * gP g + 3) u3) (A 63) (4 * gP g + j) = nI ((fun j => if j = 0 then k0 else if j = 1 then k1 else if j = 2 then k2 else k3) j) := by
        intro j hj
        have : j = 0 ∨ j = 1 ∨ j = 2 ∨ j = 3 := by omega
        rcases this with rfl | rfl | rfl | rfl
        · exact ⟨by rw [ax3, if_neg (by omega), ax2, if_neg (by omega), ax1, if_neg (by omega), ax0, if_pos rfl]; rfl, by rw [am3, if_neg (by omega), am2, if_neg (by omega), am1, if_neg (by omega), am0, if_pos rfl]; rfl⟩
        · exact ⟨by rw [ax3, if_neg (by omega), ax2, if_neg (by omega), ax1, if_pos rfl]; rfl, by rw [am3, if_neg (by omega), am2, if_neg (by omega), am1, if_pos rfl]; rfl⟩
        · exact ⟨by rw [ax3, if_neg (by omega), ax2, if_pos rfl]; rfl, by rw [am3, if_neg (by omega), am2, if_pos rfl]; rfl⟩
        · exact ⟨by rw [ax3, if_pos rfl]; rfl, by rw [am3, if_pos rfl]; rfl⟩
      have vo : ∀ i, i < 4 * gP g → pA S4 (A 41) i = pA S (A 41) i ∧ pA (sA Ta3 (A 63) (4 * gP g + 3) u3) (A 63) i = pA T (A 63) i := by
        intro i hi
        exact ⟨by rw [ax3, if_neg (by omega), ax2, if_neg (by omega), ax1, if_neg (by omega), ax0, if_neg (by omega), pA_sI], by rw [am3, if_neg (by omega), am2, if_neg (by omega), am1, if_neg (by omega), am0, if_neg (by omega)]⟩
      obtain ⟨g0, g1, g2, g3, g4⟩ := hC.1
      obtain ⟨_, cS, cT, ⟨z0, z1, z2, z3⟩, z4, z5, z6, z7⟩ := hC
      have hGB : GB (gR0 g (fun j => if j = 0 then k0 else if j = 1 then k1 else if j = 2 then k2 else k3)) := by
        refine ⟨⟨?_, ?_, ?_, ?_, g0.2.2.2.2.1, g0.2.2.2.2.2⟩, fun i hi => ?_, fun i hi => ?_, fun i hi => ?_, fun i hi => ?_⟩
        · show gP g + 1 ≤ _; omega
        · exact g0.2.1
        · exact g0.2.2.1
        · exact g0.2.2.2.1
        · have hi' : i < 4 * (gP g + 1) := hi
          show appn (gpl g) (4 * gP g) (fun j => if j = 0 then k0 else if j = 1 then k1 else if j = 2 then k2 else k3) i ≤ 99
          by_cases e1 : i < 4 * gP g
          · rw [appn_l e1]; exact g1 i e1
          · obtain ⟨j, hj, rfl⟩ : ∃ j, j < 4 ∧ i = 4 * gP g + j := ⟨i - 4 * gP g, by omega, by omega⟩
            rw [appn_r]
            have : j = 0 ∨ j = 1 ∨ j = 2 ∨ j = 3 := by omega
            rcases this with rfl | rfl | rfl | rfl
            · show k0 ≤ 99; omega
            · exact h1
            · exact h2
            · exact h3
        · exact ⟨Nat.lt_succ_of_lt (g2 i hi).1, (g2 i hi).2⟩
        · exact ⟨Nat.lt_succ_of_lt (g3 i hi).1, (g3 i hi).2⟩
        · exact g4 i hi
      refine Or.inl ⟨p, (gR0 g (fun j => if j = 0 then k0 else if j = 1 then k1 else if j = 2 then k2 else k3)), q4, q1, q2.fx kF lT4 (by decide) (by decide) (by decide), hGB, ⟨?_, ?_, ?_, ?_, ?_, ?_⟩, ⟨?_, ?_, ?_, ?_, ?_, ?_⟩, ⟨fun i hi => ?_, fun i hi => ?_, fun i hi => ?_, fun i hi => ?_⟩, fun i hi => ?_, fun i hi => ?_, fun i hi => ?_, fun i hi => ?_⟩
      · rw [kX2.I l0 (by decide) (by decide) (by decide), pI_e]; rfl
      · rw [kX2.I l0 (by decide) (by decide) (by decide), kb.I lS (by decide) (by decide) (by decide)]; exact cS.2.1
      · rw [kX2.I l0 (by decide) (by decide) (by decide), kb.I lS (by decide) (by decide) (by decide)]; exact cS.2.2.1
      · rw [kX2.I l0 (by decide) (by decide) (by decide), kb.I lS (by decide) (by decide) (by decide)]; exact cS.2.2.2.1
      · rw [kX2.I l0 (by decide) (by decide) (by decide), kb.I lS (by decide) (by decide) (by decide)]; exact cS.2.2.2.2.1
      · rw [kX2.I l0 (by decide) (by decide) (by decide), kb.I lS (by decide) (by decide) (by decide)]; exact cS.2.2.2.2.2
      · rw [pI_e]; rfl
      · rw [pI_n (by decide), kM2.I lT (by decide) (by decide) (by decide)]; exact cT.2.1
      · rw [pI_n (by decide), kM2.I lT (by decide) (by decide) (by decide)]; exact cT.2.2.1
      · rw [pI_n (by decide), kM2.I lT (by decide) (by decide) (by decide)]; exact cT.2.2.2.1
      · rw [pI_n (by decide), kM2.I lT (by decide) (by decide) (by decide)]; exact cT.2.2.2.2.1
      · rw [pI_n (by decide), kM2.I lT (by decide) (by decide) (by decide)]; exact cT.2.2.2.2.2
      · have hi' : i < 4 * (gP g + 1) := hi
        show pA S4 (A 41) i = nI (appn (gpl g) (4 * gP g) (fun j => if j = 0 then k0 else if j = 1 then k1 else if j = 2 then k2 else k3) i)
        by_cases e1 : i < 4 * gP g
        · rw [appn_l e1, (vo i e1).1]; exact z0 i e1
        · obtain ⟨j, hj, rfl⟩ : ∃ j, j < 4 ∧ i = 4 * gP g + j := ⟨i - 4 * gP g, by omega, by omega⟩
          rw [appn_r]; exact (vx j hj).1
      · rw [kX2.W l0 (by decide) (by decide), pA_sI]; exact z1 i hi
      · rw [kX2.W l0 (by decide) (by decide), pA_sI]; exact z2 i hi
      · rw [kX2.W l0 (by decide) (by decide), pA_sI]; exact z3 i hi
      · have hi' : i < 4 * (gP g + 1) := hi
        show pA (sA Ta3 (A 63) (4 * gP g + 3) u3) (A 63) i = nI (appn (gpl g) (4 * gP g) (fun j => if j = 0 then k0 else if j = 1 then k1 else if j = 2 then k2 else k3) i)
        by_cases e1 : i < 4 * gP g
        · rw [appn_l e1, (vo i e1).2]; exact z4 i e1
        · obtain ⟨j, hj, rfl⟩ : ∃ j, j < 4 ∧ i = 4 * gP g + j := ⟨i - 4 * gP g, by omega, by omega⟩
          rw [appn_r]; exact (vx j hj).2
      · rw [pA_sI, kM2.W lT (by decide) (by decide)]; exact z5 i hi
      · rw [pA_sI, kM2.W lT (by decide) (by decide)]; exact z6 i hi
      · rw [pA_sI, kM2.W lT (by decide) (by decide)]; exact z7 i hi
    · exact Or.inr ⟨kk, qq, q1, q2.fx kF lT4 (by decide) (by decide) (by decide)⟩
theorem j_row1 {e : Nat} (hn : 20000 ≤ n) (lS : LAY A S) (lT : LAY A T) (hC : CI A g S T) (hcap : gW g < 12) (hx : XF A b z S e) (hm : MF A b z T e) : ∃ S' T', m_X1_readWant n (A 39) (A 1) 0 S = some S' ∧ m_X12_readRow n (A 60) (nI (ofV 1)) T = some T' ∧ FXx A S S' ∧ FXm A T T' ∧ LAY A S' ∧ LAY A T' ∧ ((∃ p' g', e < p' ∧ XF A b z S' p' ∧ MF A b z T' p' ∧ CI A g' S' T') ∨ EE A b z S' T') := by
  have hgb := hC.1.b
  have br := x_brow (n := n) (t := 42) (c := 43) (w := 4) (cnt := gW g) (N := 48) (S := S) lS.r42_900 lS.n43 lS.w42 hC.2.1.2.1 (by omega) (by decide) (by omega)
  have kb : FX [] [(902, 42)] [] A S (sI S 902 (A 42) (nI (gW g + 1))) := (FX.rf _ _ _ _ _).wP (by decide)
  have l0 := kb.lay lS (by decide) (by decide)
  have rT : pI T 1219 (A 60) = nI (gW g) := hC.2.2.1.2.1
  have rP : pI T 1218 (A 60) = nI (gP g) := hC.2.2.1.1
  have xb : XF A b z (sI S 902 (A 42) (nI (gW g + 1))) e := hx.fx kb lS (by decide) (by decide) (by decide)
  have rP0 : pI (sI S 902 (A 42) (nI (gW g + 1))) 902 (A 40) = nI (gP g) := by rw [kb.I lS (by decide) (by decide) (by decide)]; exact hC.2.1.1
  have H0 : (∃ p, XF A b z (sI S 902 (A 42) (nI (gW g + 1))) p ∧ MF A b z T p ∧ True) ∨ EE A b z (sI S 902 (A 42) (nI (gW g + 1))) T := Or.inl ⟨e, xb, hm, trivial⟩
  have P0 : ∀ p, XF A b z (sI S 902 (A 42) (nI (gW g + 1))) p → e ≤ p := fun p hp => by
    have := (nI_eq (by have := xb.1.2.2.2.1; have := xb.2.1; omega) (by have := hp.1.2.2.2.1; have := hp.2.1; omega)).mp (xb.2.2.1.symm.trans hp.2.2.1)
    omega
  obtain ⟨v0, u0, Sa0, S1, Ta0, b0, c0, d0, ⟨pr0, l1, la0, lT1⟩, fx0, fm0, P1, H1⟩ := j_col (n := n) (A := A) (b := b) (z := z) (S := (sI S 902 (A 42) (nI (gW g + 1)))) (T := T) (t := 42) (c := 43) (a := 64) (w := 4) (cnt := gW g) (cc := 0) (N := 48) (lo := 0) (hi := nI (gP g) - 1) (lo' := 0) (hi' := nI (gP g) - 1) (D := True) (r := nI (gW g)) hn (by decide) (by decide) l0 lT l0.r42_900 l0.n43 l0.w42 (by omega) (by decide) (fun _ => ⟨rfl, rfl, pm1_le hgb.1⟩) (fun _ => rfl) H0 e P0
  let D1 : Prop := (True ∧ True ∧ ∃ k, v0 = nI k ∧ u0 = nI k ∧ (0 : Int32) ≤ nI k ∧ nI k ≤ nI (gP g) - 1 ∧ k ≤ 9999 ∧ (∀ i, pA S1 (A 43) i = if i = 4 * gW g + 0 then nI k else pA (sI S 902 (A 42) (nI (gW g + 1))) (A 43) i) ∧ (∀ i, pA (sA Ta0 (A 64) (4 * gW g + 0) u0) (A 64) i = if i = 4 * gW g + 0 then nI k else pA T (A 64) i))
  have H1 : (∃ p, XF A b z S1 p ∧ MF A b z (sA Ta0 (A 64) (4 * gW g + 0) u0) p ∧ D1) ∨ EE A b z S1 (sA Ta0 (A 64) (4 * gW g + 0) u0) := by
    rcases H1 with ⟨p, q1, q2, q3, q4, q5⟩ | q
    · exact Or.inl ⟨p, q1, q2, q3, trivial, q5⟩
    · exact Or.inr q
  obtain ⟨v1, u1, Sa1, S2, Ta1, b1, c1, d1, ⟨pr1, l2, la1, lT2⟩, fx1, fm1, P2, H2⟩ := j_col (n := n) (A := A) (b := b) (z := z) (S := S1) (T := (sA Ta0 (A 64) (4 * gW g + 0) u0)) (t := 42) (c := 43) (a := 64) (w := 4) (cnt := gW g) (cc := 1) (N := 48) (lo := 1) (hi := 12) (lo' := 1) (hi' := 12) (D := D1) (r := nI (gW g)) hn (by decide) (by decide) l1 lT1 l1.r42_900 l1.n43 l1.w42 (by omega) (by decide) (fun _ => ⟨rfl, rfl, by decide⟩) (fun _ => rfl) H1 e P1
  let D2 : Prop := (D1 ∧ True ∧ ∃ k, v1 = nI k ∧ u1 = nI k ∧ (1 : Int32) ≤ nI k ∧ nI k ≤ 12 ∧ k ≤ 9999 ∧ (∀ i, pA S2 (A 43) i = if i = 4 * gW g + 1 then nI k else pA S1 (A 43) i) ∧ (∀ i, pA (sA Ta1 (A 64) (4 * gW g + 1) u1) (A 64) i = if i = 4 * gW g + 1 then nI k else pA (sA Ta0 (A 64) (4 * gW g + 0) u0) (A 64) i))
  have H2 : (∃ p, XF A b z S2 p ∧ MF A b z (sA Ta1 (A 64) (4 * gW g + 1) u1) p ∧ D2) ∨ EE A b z S2 (sA Ta1 (A 64) (4 * gW g + 1) u1) := by
    rcases H2 with ⟨p, q1, q2, q3, q4, q5⟩ | q
    · exact Or.inl ⟨p, q1, q2, q3, trivial, q5⟩
    · exact Or.inr q
  obtain ⟨v2, u2, Sa2, S3, Ta2, b2, c2, d2, ⟨pr2, l3, la2, lT3⟩, fx2, fm2, P3, H3⟩ := j_col (n := n) (A := A) (b := b) (z := z) (S := S2) (T := (sA Ta1 (A 64) (4 * gW g + 1) u1)) (t := 42) (c := 43) (a := 64) (w := 4) (cnt := gW g) (cc := 2) (N := 48) (lo := 0) (hi := 1) (lo' := 0) (hi' := 1) (D := D2) (r := nI (gW g)) hn (by decide) (by decide) l2 lT2 l2.r42_900 l2.n43 l2.w42 (by omega) (by decide) (fun _ => ⟨rfl, rfl, by decide⟩) (fun _ => rfl) H2 e P2
  let D3 : Prop := (D2 ∧ True ∧ ∃ k, v2 = nI k ∧ u2 = nI k ∧ (0 : Int32) ≤ nI k ∧ nI k ≤ 1 ∧ k ≤ 9999 ∧ (∀ i, pA S3 (A 43) i = if i = 4 * gW g + 2 then nI k else pA S2 (A 43) i) ∧ (∀ i, pA (sA Ta2 (A 64) (4 * gW g + 2) u2) (A 64) i = if i = 4 * gW g + 2 then nI k else pA (sA Ta1 (A 64) (4 * gW g + 1) u1) (A 64) i))
  have H3 : (∃ p, XF A b z S3 p ∧ MF A b z (sA Ta2 (A 64) (4 * gW g + 2) u2) p ∧ D3) ∨ EE A b z S3 (sA Ta2 (A 64) (4 * gW g + 2) u2) := by
    rcases H3 with ⟨p, q1, q2, q3, q4, q5⟩ | q
    · exact Or.inl ⟨p, q1, q2, q3, trivial, q5⟩
    · exact Or.inr q
  obtain ⟨v3, u3, Sa3, S4, Ta3, b3, c3, d3, ⟨pr3, l4, la3, lT4⟩, fx3, fm3, P4, H4⟩ := j_col (n := n) (A := A) (b := b) (z := z) (S := S3) (T := (sA Ta2 (A 64) (4 * gW g + 2) u2)) (t := 42) (c := 43) (a := 64) (w := 4) (cnt := gW g) (cc := 3) (N := 48) (lo := 0) (hi := 99) (lo' := 0) (hi' := 99) (D := D3) (r := nI (gW g)) hn (by decide) (by decide) l3 lT3 l3.r42_900 l3.n43 l3.w42 (by omega) (by decide) (fun _ => ⟨rfl, rfl, by decide⟩) (fun _ => rfl) H3 e P3
  have kX : FXx A S S4 := (((((kb.mono (F2 := fxF) (P2 := fxP) (A2 := fxA) (by decide) (by decide) (by decide)).tr (fx0.mono (by decide) (by decide) (by decide))).tr (fx1.mono (by decide) (by decide) (by decide))).tr (fx2.mono (by decide) (by decide) (by decide))).tr (fx3.mono (by decide) (by decide) (by decide)))
  have kM : FXm A T (sA Ta3 (A 64) (4 * gW g + 3) u3) := ((((fm0.mono (F2 := fmF) (P2 := []) (A2 := fmA) (by decide) (by decide) (by decide)).tr (fm1.mono (by decide) (by decide) (by decide))).tr (fm2.mono (by decide) (by decide) (by decide))).tr (fm3.mono (by decide) (by decide) (by decide)))
  have kM2 : FX [1204, 1205, 1206] [] [64] A T (sA Ta3 (A 64) (4 * gW g + 3) u3) := (((fm0.tr fm1).tr fm2).tr fm3)
  have kX2 : FX [1003, 1004, 1005, 1006] [] [43] A (sI S 902 (A 42) (nI (gW g + 1))) S4 := (((fx0.tr fx1).tr fx2).tr fx3)
  have rE : pI (sA Ta3 (A 64) (4 * gW g + 3) u3) 1219 (A 60) = nI (gW g) := by rw [kM2.I lT (by decide) (by decide) (by decide)]; exact rT
  have kF : FX [1219] [] [] A (sA Ta3 (A 64) (4 * gW g + 3) u3) (sI (sA Ta3 (A 64) (4 * gW g + 3) u3) 1219 (A 60) (nI (gW g + 1))) := (FX.rf _ _ _ _ _).wI (by decide)
  refine ⟨S4, (sI (sA Ta3 (A 64) (4 * gW g + 3) u3) 1219 (A 60) (nI (gW g + 1))), ?_, ?_, kX, kM.tr (kF.mono (by decide) (by decide) (by decide)), l4, kF.lay lT4 (by decide) (by decide), ?_⟩
  · unfold m_X1_readWant
    rw [lS.r39_101, ob_mk, br, cb_mk, l0.r39_101, ob_mk, l0.r39_100, ob_mk, rP0, b0, cb_mk, show m_X9_put n (A 42) (nI (gW g)) 0 v0 Sa0 = some S1 from c0, ob_mk, l1.r39_101, ob_mk, b1, cb_mk, show m_X9_put n (A 42) (nI (gW g)) 1 v1 Sa1 = some S2 from c1, ob_mk, l2.r39_101, ob_mk, b2, cb_mk, show m_X9_put n (A 42) (nI (gW g)) 2 v2 Sa2 = some S3 from c2, ob_mk, l3.r39_101, ob_mk, b3, cb_mk, show m_X9_put n (A 42) (nI (gW g)) 3 v3 Sa3 = some S4 from c3, ob_mk]
  · unfold m_X12_readRow
    rw [r_of (by decide) hn, cb_mk, if_neg (r_dv 1 (by decide) 0 (by decide) (by decide)), r_of (by decide) hn, cb_mk, if_pos rfl]
    rw [lT.r60_1211, ob_mk, rP, d0, cb_mk, rT, show (4 : Int32) * nI (gW g) = nI (4 * gW g + 0) from nI_mulp 4 _, la0.n64, ck_pos (ix_nI (by omega) (by decide)), lt_mk, nI_clamp (by omega)]
    rw [lT1.r60_1211, ob_mk, d1, cb_mk, show nI (4 * gW g + 0) + (1 : Int32) = nI (4 * gW g + 1) from nI_add (4 * gW g) 1, la1.n64, ck_pos (ix_nI (by omega) (by decide)), lt_mk, nI_clamp (by omega)]
    rw [lT2.r60_1211, ob_mk, d2, cb_mk, show nI (4 * gW g + 0) + (2 : Int32) = nI (4 * gW g + 2) from nI_add (4 * gW g) 2, la2.n64, ck_pos (ix_nI (by omega) (by decide)), lt_mk, nI_clamp (by omega)]
    rw [lT3.r60_1211, ob_mk, d3, cb_mk, show nI (4 * gW g + 0) + (3 : Int32) = nI (4 * gW g + 3) from nI_add (4 * gW g) 3, la3.n64, ck_pos (ix_nI (by omega) (by decide)), lt_mk, nI_clamp (by omega)]
    rw [rE, nI_1]
  · rcases H4 with ⟨p, q1, q2, q3, q4, k3, y3⟩ | ⟨kk, qq, q1, q2⟩
    · obtain ⟨r2, _, k2, y2⟩ := q3
      obtain ⟨r1, _, k1, y1⟩ := r2
      obtain ⟨r0, _, k0, y0⟩ := r1
      obtain ⟨ev0, eu0, lo0, hi0, n90, ax0, am0⟩ := y0
      obtain ⟨ev1, eu1, lo1, hi1, n91, ax1, am1⟩ := y1
      obtain ⟨ev2, eu2, lo2, hi2, n92, ax2, am2⟩ := y2
      obtain ⟨ev3, eu3, lo3, hi3, n93, ax3, am3⟩ := y3
      have h0 : k0 < gP g := nIc n90 lo0 hi0 (by omega)
      have h1 : k1 ≤ 12 := nIb n91 hi1 rfl (by decide)
      have h1' : 1 ≤ k1 := nIa n91 lo1 rfl (by decide)
      have h2 : k2 ≤ 1 := nIb n92 hi2 rfl (by decide)
      have h3 : k3 ≤ 99 := nIb n93 hi3 rfl (by decide)
      have vx : ∀ j, j < 4 → pA S4 (A 43) (4 * gW g + j) = nI ((fun j => if j = 0 then k0 else if j = 1 then k1 else if j = 2 then k2 else k3) j) ∧ pA (sA Ta3 (A 64) (4 * gW g + 3) u3) (A 64) (4 * gW g + j) = nI ((fun j => if j = 0 then k0 else if j = 1 then k1 else if j = 2 then k2 else k3) j) := by
        intro j hj
        have : j = 0 ∨ j = 1 ∨ j = 2 ∨ j = 3 := by omega
        rcases this with rfl | rfl | rfl | rfl
        · exact ⟨by rw [ax3, if_neg (by omega), ax2, if_neg (by omega), ax1, if_neg (by omega), ax0, if_pos rfl]; rfl, by rw [am3, if_neg (by omega), am2, if_neg (by omega), am1, if_neg (by omega), am0, if_pos rfl]; rfl⟩
        · exact ⟨by rw [ax3, if_neg (by omega), ax2, if_neg (by omega), ax1, if_pos rfl]; rfl, by rw [am3, if_neg (by omega), am2, if_neg (by omega), am1, if_pos rfl]; rfl⟩
        · exact ⟨by rw [ax3, if_neg (by omega), ax2, if_pos rfl]; rfl, by rw [am3, if_neg (by omega), am2, if_pos rfl]; rfl⟩
        · exact ⟨by rw [ax3, if_pos rfl]; rfl, by rw [am3, if_pos rfl]; rfl⟩
      have vo : ∀ i, i < 4 * gW g → pA S4 (A 43) i = pA S (A 43) i ∧ pA (sA Ta3 (A 64) (4 * gW g + 3) u3) (A 64) i = pA T (A 64) i := by
        intro i hi
        exact ⟨by rw [ax3, if_neg (by omega), ax2, if_neg (by omega), ax1, if_neg (by omega), ax0, if_neg (by omega), pA_sI], by rw [am3, if_neg (by omega), am2, if_neg (by omega), am1, if_neg (by omega), am0, if_neg (by omega)]⟩
      obtain ⟨g0, g1, g2, g3, g4⟩ := hC.1
      obtain ⟨_, cS, cT, ⟨z0, z1, z2, z3⟩, z4, z5, z6, z7⟩ := hC
      have hGB : GB (gR1 g (fun j => if j = 0 then k0 else if j = 1 then k1 else if j = 2 then k2 else k3)) := by
        refine ⟨⟨?_, ?_, ?_, ?_, g0.2.2.2.2.1, g0.2.2.2.2.2⟩, fun i hi => ?_, fun i hi => ?_, fun i hi => ?_, fun i hi => ?_⟩
        · exact g0.1
        · show gW g + 1 ≤ _; omega
        · exact g0.2.2.1
        · exact g0.2.2.2.1
        · exact g1 i hi
        · have hi' : i < gW g + 1 := hi
          by_cases e1 : i < gW g
          · rw [rowR1, appn_l (show 4 * i < 4 * gW g by omega), appn_l (show 4 * i + 1 < 4 * gW g by omega), appn_l (show 4 * i + 2 < 4 * gW g by omega), appn_l (show 4 * i + 3 < 4 * gW g by omega)]; exact g2 i e1
          · have e2 : i = gW g := by omega
            subst e2
            rw [rowR1, appn_0, appn_r, appn_r, appn_r]
            exact ⟨h0, h1', h1, h2, h3⟩
        · exact g3 i hi
        · exact g4 i hi
      refine Or.inl ⟨p, (gR1 g (fun j => if j = 0 then k0 else if j = 1 then k1 else if j = 2 then k2 else k3)), q4, q1, q2.fx kF lT4 (by decide) (by decide) (by decide), hGB, ⟨?_, ?_, ?_, ?_, ?_, ?_⟩, ⟨?_, ?_, ?_, ?_, ?_, ?_⟩, ⟨fun i hi => ?_, fun i hi => ?_, fun i hi => ?_, fun i hi => ?_⟩, fun i hi => ?_, fun i hi => ?_, fun i hi => ?_, fun i hi => ?_⟩
      · rw [kX2.I l0 (by decide) (by decide) (by decide), kb.I lS (by decide) (by decide) (by decide)]; exact cS.1
      · rw [kX2.I l0 (by decide) (by decide) (by decide), pI_e]; rfl
      · rw [kX2.I l0 (by decide) (by decide) (by decide), kb.I lS (by decide) (by decide) (by decide)]; exact cS.2.2.1
      · rw [kX2.I l0 (by decide) (by decide) (by decide), kb.I lS (by decide) (by decide) (by decide)]; exact cS.2.2.2.1
      · rw [kX2.I l0 (by decide) (by decide) (by decide), kb.I lS (by decide) (by decide) (by decide)]; exact cS.2.2.2.2.1
      · rw [kX2.I l0 (by decide) (by decide) (by decide), kb.I lS (by decide) (by decide) (by decide)]; exact cS.2.2.2.2.2
      · rw [pI_n (by decide), kM2.I lT (by decide) (by decide) (by decide)]; exact cT.1
      · rw [pI_e]; rfl
      · rw [pI_n (by decide), kM2.I lT (by decide) (by decide) (by decide)]; exact cT.2.2.1
      · rw [pI_n (by decide), kM2.I lT (by decide) (by decide) (by decide)]; exact cT.2.2.2.1
      · rw [pI_n (by decide), kM2.I lT (by decide) (by decide) (by decide)]; exact cT.2.2.2.2.1
      · rw [pI_n (by decide), kM2.I lT (by decide) (by decide) (by decide)]; exact cT.2.2.2.2.2
      · rw [kX2.W l0 (by decide) (by decide), pA_sI]; exact z0 i hi
      · have hi' : i < 4 * (gW g + 1) := hi
        show pA S4 (A 43) i = nI (appn (gwa g) (4 * gW g) (fun j => if j = 0 then k0 else if j = 1 then k1 else if j = 2 then k2 else k3) i)
        by_cases e1 : i < 4 * gW g
        · rw [appn_l e1, (vo i e1).1]; exact z1 i e1
        · obtain ⟨j, hj, rfl⟩ : ∃ j, j < 4 ∧ i = 4 * gW g + j := ⟨i - 4 * gW g, by omega, by omega⟩
          rw [appn_r]; exact (vx j hj).1
      · rw [kX2.W l0 (by decide) (by decide), pA_sI]; exact z2 i hi
      · rw [kX2.W l0 (by decide) (by decide), pA_sI]; exact z3 i hi
      · rw [pA_sI, kM2.W lT (by decide) (by decide)]; exact z4 i hi
      · have hi' : i < 4 * (gW g + 1) := hi
        show pA (sA Ta3 (A 64) (4 * gW g + 3) u3) (A 64) i = nI (appn (gwa g) (4 * gW g) (fun j => if j = 0 then k0 else if j = 1 then k1 else if j = 2 then k2 else k3) i)
        by_cases e1 : i < 4 * gW g
        · rw [appn_l e1, (vo i e1).2]; exact z5 i e1
        · obtain ⟨j, hj, rfl⟩ : ∃ j, j < 4 ∧ i = 4 * gW g + j := ⟨i - 4 * gW g, by omega, by omega⟩
          rw [appn_r]; exact (vx j hj).2
      · rw [pA_sI, kM2.W lT (by decide) (by decide)]; exact z6 i hi
      · rw [pA_sI, kM2.W lT (by decide) (by decide)]; exact z7 i hi
    · exact Or.inr ⟨kk, qq, q1, q2.fx kF lT4 (by decide) (by decide) (by decide)⟩
theorem j_row2 {e : Nat} (hn : 20000 ≤ n) (lS : LAY A S) (lT : LAY A T) (hC : CI A g S T) (hcap : gM g < 3) (hx : XF A b z S e) (hm : MF A b z T e) : ∃ S' T', m_X1_readMine n (A 39) (A 1) 0 S = some S' ∧ m_X12_readRow n (A 60) (nI (ofV 2)) T = some T' ∧ FXx A S S' ∧ FXm A T T' ∧ LAY A S' ∧ LAY A T' ∧ ((∃ p' g', e < p' ∧ XF A b z S' p' ∧ MF A b z T' p' ∧ CI A g' S' T') ∨ EE A b z S' T') := by
  have hgb := hC.1.b
  have br := x_brow (n := n) (t := 44) (c := 45) (w := 3) (cnt := gM g) (N := 9) (S := S) lS.r44_900 lS.n45 lS.w44 hC.2.1.2.2.1 (by omega) (by decide) (by omega)
  have kb : FX [] [(902, 44)] [] A S (sI S 902 (A 44) (nI (gM g + 1))) := (FX.rf _ _ _ _ _).wP (by decide)
  have l0 := kb.lay lS (by decide) (by decide)
  have rT : pI T 1220 (A 60) = nI (gM g) := hC.2.2.1.2.2.1
  have rP : pI T 1218 (A 60) = nI (gP g) := hC.2.2.1.1
  have xb : XF A b z (sI S 902 (A 44) (nI (gM g + 1))) e := hx.fx kb lS (by decide) (by decide) (by decide)
  have rP0 : pI (sI S 902 (A 44) (nI (gM g + 1))) 902 (A 40) = nI (gP g) := by rw [kb.I lS (by decide) (by decide) (by decide)]; exact hC.2.1.1
  have H0 : (∃ p, XF A b z (sI S 902 (A 44) (nI (gM g + 1))) p ∧ MF A b z T p ∧ True) ∨ EE A b z (sI S 902 (A 44) (nI (gM g + 1))) T := Or.inl ⟨e, xb, hm, trivial⟩
  have P0 : ∀ p, XF A b z (sI S 902 (A 44) (nI (gM g + 1))) p → e ≤ p := fun p hp => by
    have := (nI_eq (by have := xb.1.2.2.2.1; have := xb.2.1; omega) (by have := hp.1.2.2.2.1; have := hp.2.1; omega)).mp (xb.2.2.1.symm.trans hp.2.2.1)
    omega
  obtain ⟨v0, u0, Sa0, S1, Ta0, b0, c0, d0, ⟨pr0, l1, la0, lT1⟩, fx0, fm0, P1, H1⟩ := j_col (n := n) (A := A) (b := b) (z := z) (S := (sI S 902 (A 44) (nI (gM g + 1)))) (T := T) (t := 44) (c := 45) (a := 65) (w := 3) (cnt := gM g) (cc := 0) (N := 9) (lo := 0) (hi := nI (gP g) - 1) (lo' := 0) (hi' := nI (gP g) - 1) (D := True) (r := nI (gM g)) hn (by decide) (by decide) l0 lT l0.r44_900 l0.n45 l0.w44 (by omega) (by decide) (fun _ => ⟨rfl, rfl, pm1_le hgb.1⟩) (fun _ => rfl) H0 e P0
  let D1 : Prop := (True ∧ True ∧ ∃ k, v0 = nI k ∧ u0 = nI k ∧ (0 : Int32) ≤ nI k ∧ nI k ≤ nI (gP g) - 1 ∧ k ≤ 9999 ∧ (∀ i, pA S1 (A 45) i = if i = 3 * gM g + 0 then nI k else pA (sI S 902 (A 44) (nI (gM g + 1))) (A 45) i) ∧ (∀ i, pA (sA Ta0 (A 65) (3 * gM g + 0) u0) (A 65) i = if i = 3 * gM g + 0 then nI k else pA T (A 65) i))
  have H1 : (∃ p, XF A b z S1 p ∧ MF A b z (sA Ta0 (A 65) (3 * gM g + 0) u0) p ∧ D1) ∨ EE A b z S1 (sA Ta0 (A 65) (3 * gM g + 0) u0) := by
    rcases H1 with ⟨p, q1, q2, q3, q4, q5⟩ | q
    · exact Or.inl ⟨p, q1, q2, q3, trivial, q5⟩
    · exact Or.inr q
  obtain ⟨v1, u1, Sa1, S2, Ta1, b1, c1, d1, ⟨pr1, l2, la1, lT2⟩, fx1, fm1, P2, H2⟩ := j_col (n := n) (A := A) (b := b) (z := z) (S := S1) (T := (sA Ta0 (A 65) (3 * gM g + 0) u0)) (t := 44) (c := 45) (a := 65) (w := 3) (cnt := gM g) (cc := 1) (N := 9) (lo := 0) (hi := 400) (lo' := 0) (hi' := 400) (D := D1) (r := nI (gM g)) hn (by decide) (by decide) l1 lT1 l1.r44_900 l1.n45 l1.w44 (by omega) (by decide) (fun _ => ⟨rfl, rfl, by decide⟩) (fun _ => rfl) H1 e P1
  let D2 : Prop := (D1 ∧ True ∧ ∃ k, v1 = nI k ∧ u1 = nI k ∧ (0 : Int32) ≤ nI k ∧ nI k ≤ 400 ∧ k ≤ 9999 ∧ (∀ i, pA S2 (A 45) i = if i = 3 * gM g + 1 then nI k else pA S1 (A 45) i) ∧ (∀ i, pA (sA Ta1 (A 65) (3 * gM g + 1) u1) (A 65) i = if i = 3 * gM g + 1 then nI k else pA (sA Ta0 (A 65) (3 * gM g + 0) u0) (A 65) i))
  have H2 : (∃ p, XF A b z S2 p ∧ MF A b z (sA Ta1 (A 65) (3 * gM g + 1) u1) p ∧ D2) ∨ EE A b z S2 (sA Ta1 (A 65) (3 * gM g + 1) u1) := by
    rcases H2 with ⟨p, q1, q2, q3, q4, q5⟩ | q
    · exact Or.inl ⟨p, q1, q2, q3, trivial, q5⟩
    · exact Or.inr q
  obtain ⟨v2, u2, Sa2, S3, Ta2, b2, c2, d2, ⟨pr2, l3, la2, lT3⟩, fx2, fm2, P3, H3⟩ := j_col (n := n) (A := A) (b := b) (z := z) (S := S2) (T := (sA Ta1 (A 65) (3 * gM g + 1) u1)) (t := 44) (c := 45) (a := 65) (w := 3) (cnt := gM g) (cc := 2) (N := 9) (lo := 0) (hi := 11) (lo' := 0) (hi' := 11) (D := D2) (r := nI (gM g)) hn (by decide) (by decide) l2 lT2 l2.r44_900 l2.n45 l2.w44 (by omega) (by decide) (fun _ => ⟨rfl, rfl, by decide⟩) (fun _ => rfl) H2 e P2
  have kX : FXx A S S3 := ((((kb.mono (F2 := fxF) (P2 := fxP) (A2 := fxA) (by decide) (by decide) (by decide)).tr (fx0.mono (by decide) (by decide) (by decide))).tr (fx1.mono (by decide) (by decide) (by decide))).tr (fx2.mono (by decide) (by decide) (by decide)))
  have kM : FXm A T (sA Ta2 (A 65) (3 * gM g + 2) u2) := (((fm0.mono (F2 := fmF) (P2 := []) (A2 := fmA) (by decide) (by decide) (by decide)).tr (fm1.mono (by decide) (by decide) (by decide))).tr (fm2.mono (by decide) (by decide) (by decide)))
  have kM2 : FX [1204, 1205, 1206] [] [65] A T (sA Ta2 (A 65) (3 * gM g + 2) u2) := ((fm0.tr fm1).tr fm2)
  have kX2 : FX [1003, 1004, 1005, 1006] [] [45] A (sI S 902 (A 44) (nI (gM g + 1))) S3 := ((fx0.tr fx1).tr fx2)
  have rE : pI (sA Ta2 (A 65) (3 * gM g + 2) u2) 1220 (A 60) = nI (gM g) := by rw [kM2.I lT (by decide) (by decide) (by decide)]; exact rT
  have kF : FX [1220] [] [] A (sA Ta2 (A 65) (3 * gM g + 2) u2) (sI (sA Ta2 (A 65) (3 * gM g + 2) u2) 1220 (A 60) (nI (gM g + 1))) := (FX.rf _ _ _ _ _).wI (by decide)
  refine ⟨S3, (sI (sA Ta2 (A 65) (3 * gM g + 2) u2) 1220 (A 60) (nI (gM g + 1))), ?_, ?_, kX, kM.tr (kF.mono (by decide) (by decide) (by decide)), l3, kF.lay lT3 (by decide) (by decide), ?_⟩
  · unfold m_X1_readMine
    rw [lS.r39_102, ob_mk, br, cb_mk, l0.r39_102, ob_mk, l0.r39_100, ob_mk, rP0, b0, cb_mk, show m_X9_put n (A 44) (nI (gM g)) 0 v0 Sa0 = some S1 from c0, ob_mk, l1.r39_102, ob_mk, b1, cb_mk, show m_X9_put n (A 44) (nI (gM g)) 1 v1 Sa1 = some S2 from c1, ob_mk, l2.r39_102, ob_mk, b2, cb_mk, show m_X9_put n (A 44) (nI (gM g)) 2 v2 Sa2 = some S3 from c2, ob_mk]
  · unfold m_X12_readRow
    rw [r_of (by decide) hn, cb_mk, if_neg (r_dv 2 (by decide) 0 (by decide) (by decide)), r_of (by decide) hn, cb_mk, if_neg (r_dv 2 (by decide) 1 (by decide) (by decide)), r_of (by decide) hn, cb_mk, if_pos rfl]
    rw [lT.r60_1212, ob_mk, rP, d0, cb_mk, rT, show (3 : Int32) * nI (gM g) = nI (3 * gM g + 0) from nI_mulp 3 _, la0.n65, ck_pos (ix_nI (by omega) (by decide)), lt_mk, nI_clamp (by omega)]
    rw [lT1.r60_1212, ob_mk, d1, cb_mk, show nI (3 * gM g + 0) + (1 : Int32) = nI (3 * gM g + 1) from nI_add (3 * gM g) 1, la1.n65, ck_pos (ix_nI (by omega) (by decide)), lt_mk, nI_clamp (by omega)]
    rw [lT2.r60_1212, ob_mk, d2, cb_mk, show nI (3 * gM g + 0) + (2 : Int32) = nI (3 * gM g + 2) from nI_add (3 * gM g) 2, la2.n65, ck_pos (ix_nI (by omega) (by decide)), lt_mk, nI_clamp (by omega)]
    rw [rE, nI_1]
  · rcases H3 with ⟨p, q1, q2, q3, q4, k2, y2⟩ | ⟨kk, qq, q1, q2⟩
    · obtain ⟨r1, _, k1, y1⟩ := q3
      obtain ⟨r0, _, k0, y0⟩ := r1
      obtain ⟨ev0, eu0, lo0, hi0, n90, ax0, am0⟩ := y0
      obtain ⟨ev1, eu1, lo1, hi1, n91, ax1, am1⟩ := y1
      obtain ⟨ev2, eu2, lo2, hi2, n92, ax2, am2⟩ := y2
      have h0 : k0 < gP g := nIc n90 lo0 hi0 (by omega)
      have h1 : k1 ≤ 400 := nIb n91 hi1 rfl (by decide)
      have h2 : k2 ≤ 11 := nIb n92 hi2 rfl (by decide)
      have vx : ∀ j, j < 3 → pA S3 (A 45) (3 * gM g + j) = nI ((fun j => if j = 0 then k0 else if j = 1 then k1 else k2) j) ∧ pA (sA Ta2 (A 65) (3 * gM g + 2) u2) (A 65) (3 * gM g + j) = nI ((fun j => if j = 0 then k0 else if j = 1 then k1 else k2) j) := by
        intro j hj
        have : j = 0 ∨ j = 1 ∨ j = 2 := by omega
        rcases this with rfl | rfl | rfl
        · exact ⟨by rw [ax2, if_neg (by omega), ax1, if_neg (by omega), ax0, if_pos rfl]; rfl, by rw [am2, if_neg (by omega), am1, if_neg (by omega), am0, if_pos rfl]; rfl⟩
        · exact ⟨by rw [ax2, if_neg (by omega), ax1, if_pos rfl]; rfl, by rw [am2, if_neg (by omega), am1, if_pos rfl]; rfl⟩
        · exact ⟨by rw [ax2, if_pos rfl]; rfl, by rw [am2, if_pos rfl]; rfl⟩
      have vo : ∀ i, i < 3 * gM g → pA S3 (A 45) i = pA S (A 45) i ∧ pA (sA Ta2 (A 65) (3 * gM g + 2) u2) (A 65) i = pA T (A 65) i := by
        intro i hi
        exact ⟨by rw [ax2, if_neg (by omega), ax1, if_neg (by omega), ax0, if_neg (by omega), pA_sI], by rw [am2, if_neg (by omega), am1, if_neg (by omega), am0, if_neg (by omega)]⟩
      obtain ⟨g0, g1, g2, g3, g4⟩ := hC.1
      obtain ⟨_, cS, cT, ⟨z0, z1, z2, z3⟩, z4, z5, z6, z7⟩ := hC
      have hGB : GB (gR2 g (fun j => if j = 0 then k0 else if j = 1 then k1 else k2)) := by
        refine ⟨⟨?_, ?_, ?_, ?_, g0.2.2.2.2.1, g0.2.2.2.2.2⟩, fun i hi => ?_, fun i hi => ?_, fun i hi => ?_, fun i hi => ?_⟩
        · exact g0.1
        · exact g0.2.1
        · show gM g + 1 ≤ _; omega
        · exact g0.2.2.2.1
        · exact g1 i hi
        · exact g2 i hi
        · have hi' : i < gM g + 1 := hi
          by_cases e1 : i < gM g
          · rw [rowR2, appn_l (show 3 * i < 3 * gM g by omega), appn_l (show 3 * i + 1 < 3 * gM g by omega), appn_l (show 3 * i + 2 < 3 * gM g by omega)]; exact g3 i e1
          · have e2 : i = gM g := by omega
            subst e2
            rw [rowR2, appn_0, appn_r, appn_r]
            exact ⟨h0, h1, h2⟩
        · exact g4 i hi
      refine Or.inl ⟨p, (gR2 g (fun j => if j = 0 then k0 else if j = 1 then k1 else k2)), q4, q1, q2.fx kF lT3 (by decide) (by decide) (by decide), hGB, ⟨?_, ?_, ?_, ?_, ?_, ?_⟩, ⟨?_, ?_, ?_, ?_, ?_, ?_⟩, ⟨fun i hi => ?_, fun i hi => ?_, fun i hi => ?_, fun i hi => ?_⟩, fun i hi => ?_, fun i hi => ?_, fun i hi => ?_, fun i hi => ?_⟩
      · rw [kX2.I l0 (by decide) (by decide) (by decide), kb.I lS (by decide) (by decide) (by decide)]; exact cS.1
      · rw [kX2.I l0 (by decide) (by decide) (by decide), kb.I lS (by decide) (by decide) (by decide)]; exact cS.2.1
      · rw [kX2.I l0 (by decide) (by decide) (by decide), pI_e]; rfl
      · rw [kX2.I l0 (by decide) (by decide) (by decide), kb.I lS (by decide) (by decide) (by decide)]; exact cS.2.2.2.1
      · rw [kX2.I l0 (by decide) (by decide) (by decide), kb.I lS (by decide) (by decide) (by decide)]; exact cS.2.2.2.2.1
      · rw [kX2.I l0 (by decide) (by decide) (by decide), kb.I lS (by decide) (by decide) (by decide)]; exact cS.2.2.2.2.2
      · rw [pI_n (by decide), kM2.I lT (by decide) (by decide) (by decide)]; exact cT.1
      · rw [pI_n (by decide), kM2.I lT (by decide) (by decide) (by decide)]; exact cT.2.1
      · rw [pI_e]; rfl
      · rw [pI_n (by decide), kM2.I lT (by decide) (by decide) (by decide)]; exact cT.2.2.2.1
      · rw [pI_n (by decide), kM2.I lT (by decide) (by decide) (by decide)]; exact cT.2.2.2.2.1
      · rw [pI_n (by decide), kM2.I lT (by decide) (by decide) (by decide)]; exact cT.2.2.2.2.2
      · rw [kX2.W l0 (by decide) (by decide), pA_sI]; exact z0 i hi
      · rw [kX2.W l0 (by decide) (by decide), pA_sI]; exact z1 i hi
      · have hi' : i < 3 * (gM g + 1) := hi
        show pA S3 (A 45) i = nI (appn (gmi g) (3 * gM g) (fun j => if j = 0 then k0 else if j = 1 then k1 else k2) i)
        by_cases e1 : i < 3 * gM g
        · rw [appn_l e1, (vo i e1).1]; exact z2 i e1
        · obtain ⟨j, hj, rfl⟩ : ∃ j, j < 3 ∧ i = 3 * gM g + j := ⟨i - 3 * gM g, by omega, by omega⟩
          rw [appn_r]; exact (vx j hj).1
      · rw [kX2.W l0 (by decide) (by decide), pA_sI]; exact z3 i hi
      · rw [pA_sI, kM2.W lT (by decide) (by decide)]; exact z4 i hi
      · rw [pA_sI, kM2.W lT (by decide) (by decide)]; exact z5 i hi
      · have hi' : i < 3 * (gM g + 1) := hi
        show pA (sA Ta2 (A 65) (3 * gM g + 2) u2) (A 65) i = nI (appn (gmi g) (3 * gM g) (fun j => if j = 0 then k0 else if j = 1 then k1 else k2) i)
        by_cases e1 : i < 3 * gM g
        · rw [appn_l e1, (vo i e1).2]; exact z6 i e1
        · obtain ⟨j, hj, rfl⟩ : ∃ j, j < 3 ∧ i = 3 * gM g + j := ⟨i - 3 * gM g, by omega, by omega⟩
          rw [appn_r]; exact (vx j hj).2
      · rw [pA_sI, kM2.W lT (by decide) (by decide)]; exact z7 i hi
    · exact Or.inr ⟨kk, qq, q1, q2.fx kF lT3 (by decide) (by decide) (by decide)⟩
theorem j_row3 {e : Nat} (hn : 20000 ≤ n) (lS : LAY A S) (lT : LAY A T) (hC : CI A g S T) (hcap : gK g < 3) (hx : XF A b z S e) (hm : MF A b z T e) : ∃ S' T', m_X1_readMoon n (A 39) (A 1) 0 S = some S' ∧ m_X12_readRow n (A 60) (nI (ofV 3)) T = some T' ∧ FXx A S S' ∧ FXm A T T' ∧ LAY A S' ∧ LAY A T' ∧ ((∃ p' g', e < p' ∧ XF A b z S' p' ∧ MF A b z T' p' ∧ CI A g' S' T') ∨ EE A b z S' T') := by
  have hgb := hC.1.b
  have br := x_brow (n := n) (t := 46) (c := 47) (w := 2) (cnt := gK g) (N := 6) (S := S) lS.r46_900 lS.n47 lS.w46 hC.2.1.2.2.2.1 (by omega) (by decide) (by omega)
  have kb : FX [] [(902, 46)] [] A S (sI S 902 (A 46) (nI (gK g + 1))) := (FX.rf _ _ _ _ _).wP (by decide)
  have l0 := kb.lay lS (by decide) (by decide)
  have rT : pI T 1221 (A 60) = nI (gK g) := hC.2.2.1.2.2.2.1
  have rP : pI T 1218 (A 60) = nI (gP g) := hC.2.2.1.1
  have xb : XF A b z (sI S 902 (A 46) (nI (gK g + 1))) e := hx.fx kb lS (by decide) (by decide) (by decide)
  have H0 : (∃ p, XF A b z (sI S 902 (A 46) (nI (gK g + 1))) p ∧ MF A b z T p ∧ True) ∨ EE A b z (sI S 902 (A 46) (nI (gK g + 1))) T := Or.inl ⟨e, xb, hm, trivial⟩
  have P0 : ∀ p, XF A b z (sI S 902 (A 46) (nI (gK g + 1))) p → e ≤ p := fun p hp => by
    have := (nI_eq (by have := xb.1.2.2.2.1; have := xb.2.1; omega) (by have := hp.1.2.2.2.1; have := hp.2.1; omega)).mp (xb.2.2.1.symm.trans hp.2.2.1)
    omega
  obtain ⟨v0, u0, Sa0, S1, Ta0, b0, c0, d0, ⟨pr0, l1, la0, lT1⟩, fx0, fm0, P1, H1⟩ := j_col (n := n) (A := A) (b := b) (z := z) (S := (sI S 902 (A 46) (nI (gK g + 1)))) (T := T) (t := 46) (c := 47) (a := 66) (w := 2) (cnt := gK g) (cc := 0) (N := 6) (lo := 1) (hi := 30) (lo' := 1) (hi' := 30) (D := True) (r := nI (gK g)) hn (by decide) (by decide) l0 lT l0.r46_900 l0.n47 l0.w46 (by omega) (by decide) (fun _ => ⟨rfl, rfl, by decide⟩) (fun _ => rfl) H0 e P0
  let D1 : Prop := (True ∧ True ∧ ∃ k, v0 = nI k ∧ u0 = nI k ∧ (1 : Int32) ≤ nI k ∧ nI k ≤ 30 ∧ k ≤ 9999 ∧ (∀ i, pA S1 (A 47) i = if i = 2 * gK g + 0 then nI k else pA (sI S 902 (A 46) (nI (gK g + 1))) (A 47) i) ∧ (∀ i, pA (sA Ta0 (A 66) (2 * gK g + 0) u0) (A 66) i = if i = 2 * gK g + 0 then nI k else pA T (A 66) i))
  have H1 : (∃ p, XF A b z S1 p ∧ MF A b z (sA Ta0 (A 66) (2 * gK g + 0) u0) p ∧ D1) ∨ EE A b z S1 (sA Ta0 (A 66) (2 * gK g + 0) u0) := by
    rcases H1 with ⟨p, q1, q2, q3, q4, q5⟩ | q
    · exact Or.inl ⟨p, q1, q2, q3, trivial, q5⟩
    · exact Or.inr q
  have hV : D1 → (0 : Int32) = 0 ∧ v0 - 1 = u0 - 1 ∧ v0 - 1 ≤ 9999 := by
    rintro ⟨_, _, k, rfl, rfl, k1, k2, k3, _⟩
    refine ⟨rfl, rfl, ?_⟩
    have hk : k ≤ 30 := nIb k3 k2 rfl (by decide)
    have : ∀ k, k < 31 → (nI k - 1 : Int32) ≤ 9999 := by decide
    exact this k (by omega)
  obtain ⟨v1, u1, Sa1, S2, Ta1, b1, c1, d1, ⟨pr1, l2, la1, lT2⟩, fx1, fm1, P2, H2⟩ := j_col (n := n) (A := A) (b := b) (z := z) (S := S1) (T := (sA Ta0 (A 66) (2 * gK g + 0) u0)) (t := 46) (c := 47) (a := 66) (w := 2) (cnt := gK g) (cc := 1) (N := 6) (lo := 0) (hi := v0 - 1) (lo' := 0) (hi' := u0 - 1) (D := D1) (r := nI (gK g)) hn (by decide) (by decide) l1 lT1 l1.r46_900 l1.n47 l1.w46 (by omega) (by decide) (hV) (fun _ => rfl) H1 e P1
  have kX : FXx A S S2 := (((kb.mono (F2 := fxF) (P2 := fxP) (A2 := fxA) (by decide) (by decide) (by decide)).tr (fx0.mono (by decide) (by decide) (by decide))).tr (fx1.mono (by decide) (by decide) (by decide)))
  have kM : FXm A T (sA Ta1 (A 66) (2 * gK g + 1) u1) := ((fm0.mono (F2 := fmF) (P2 := []) (A2 := fmA) (by decide) (by decide) (by decide)).tr (fm1.mono (by decide) (by decide) (by decide)))
  have kM2 : FX [1204, 1205, 1206] [] [66] A T (sA Ta1 (A 66) (2 * gK g + 1) u1) := (fm0.tr fm1)
  have kX2 : FX [1003, 1004, 1005, 1006] [] [47] A (sI S 902 (A 46) (nI (gK g + 1))) S2 := (fx0.tr fx1)
  have rE : pI (sA Ta1 (A 66) (2 * gK g + 1) u1) 1221 (A 60) = nI (gK g) := by rw [kM2.I lT (by decide) (by decide) (by decide)]; exact rT
  have kF : FX [1221] [] [] A (sA Ta1 (A 66) (2 * gK g + 1) u1) (sI (sA Ta1 (A 66) (2 * gK g + 1) u1) 1221 (A 60) (nI (gK g + 1))) := (FX.rf _ _ _ _ _).wI (by decide)
  refine ⟨S2, (sI (sA Ta1 (A 66) (2 * gK g + 1) u1) 1221 (A 60) (nI (gK g + 1))), ?_, ?_, kX, kM.tr (kF.mono (by decide) (by decide) (by decide)), l2, kF.lay lT2 (by decide) (by decide), ?_⟩
  · unfold m_X1_readMoon
    rw [lS.r39_103, ob_mk, br, cb_mk, b0, cb_mk, pr0, l0.r39_103, ob_mk, show m_X9_put n (A 46) (nI (gK g)) 0 v0 Sa0 = some S1 from c0, ob_mk, l1.r39_103, ob_mk, b1, cb_mk, show m_X9_put n (A 46) (nI (gK g)) 1 v1 Sa1 = some S2 from c1, ob_mk]
  · unfold m_X12_readRow
    rw [r_of (by decide) hn, cb_mk, if_neg (r_dv 3 (by decide) 0 (by decide) (by decide)), r_of (by decide) hn, cb_mk, if_neg (r_dv 3 (by decide) 1 (by decide) (by decide)), r_of (by decide) hn, cb_mk, if_neg (r_dv 3 (by decide) 2 (by decide) (by decide))]
    rw [lT.r60_1213, ob_mk, d0, cb_mk, rT, show (2 : Int32) * nI (gK g) = nI (2 * gK g + 0) from nI_mulp 2 _, la0.n66, ck_pos (ix_nI (by omega) (by decide)), lt_mk, nI_clamp (by omega)]
    rw [lT1.r60_1213, ob_mk, ob_mk, lT1.n66, ck_pos (ix_nI (by omega) (by decide)), pA_sA, if_pos ⟨rfl, rfl⟩, d1, cb_mk, la1.n66, show nI (2 * gK g + 0) + (1 : Int32) = nI (2 * gK g + 1) from nI_add (2 * gK g) 1, ck_pos (ix_nI (by omega) (by decide)), lt_mk, nI_clamp (by omega)]
    rw [rE, nI_1]
  · rcases H2 with ⟨p, q1, q2, q3, q4, k1, y1⟩ | ⟨kk, qq, q1, q2⟩
    · obtain ⟨r0, _, k0, y0⟩ := q3
      obtain ⟨ev0, eu0, lo0, hi0, n90, ax0, am0⟩ := y0
      obtain ⟨ev1, eu1, lo1, hi1, n91, ax1, am1⟩ := y1
      have h0 : k0 ≤ 30 := nIb n90 hi0 rfl (by decide)
      have h0' : 1 ≤ k0 := nIa n90 lo0 rfl (by decide)
      have h1 : k1 < k0 := nIc n91 lo1 (by rw [ev0] at hi1; exact hi1) n90
      have vx : ∀ j, j < 2 → pA S2 (A 47) (2 * gK g + j) = nI ((fun j => if j = 0 then k0 else k1) j) ∧ pA (sA Ta1 (A 66) (2 * gK g + 1) u1) (A 66) (2 * gK g + j) = nI ((fun j => if j = 0 then k0 else k1) j) := by
        intro j hj
        have : j = 0 ∨ j = 1 := by omega
        rcases this with rfl | rfl
        · exact ⟨by rw [ax1, if_neg (by omega), ax0, if_pos rfl]; rfl, by rw [am1, if_neg (by omega), am0, if_pos rfl]; rfl⟩
        · exact ⟨by rw [ax1, if_pos rfl]; rfl, by rw [am1, if_pos rfl]; rfl⟩
      have vo : ∀ i, i < 2 * gK g → pA S2 (A 47) i = pA S (A 47) i ∧ pA (sA Ta1 (A 66) (2 * gK g + 1) u1) (A 66) i = pA T (A 66) i := by
        intro i hi
        exact ⟨by rw [ax1, if_neg (by omega), ax0, if_neg (by omega), pA_sI], by rw [am1, if_neg (by omega), am0, if_neg (by omega)]⟩
      obtain ⟨g0, g1, g2, g3, g4⟩ := hC.1
      obtain ⟨_, cS, cT, ⟨z0, z1, z2, z3⟩, z4, z5, z6, z7⟩ := hC
      have hGB : GB (gR3 g (fun j => if j = 0 then k0 else k1)) := by
        refine ⟨⟨?_, ?_, ?_, ?_, g0.2.2.2.2.1, g0.2.2.2.2.2⟩, fun i hi => ?_, fun i hi => ?_, fun i hi => ?_, fun i hi => ?_⟩
        · exact g0.1
        · exact g0.2.1
        · exact g0.2.2.1
        · show gK g + 1 ≤ _; omega
        · exact g1 i hi
        · exact g2 i hi
        · exact g3 i hi
        · have hi' : i < gK g + 1 := hi
          by_cases e1 : i < gK g
          · rw [rowR3, appn_l (show 2 * i < 2 * gK g by omega), appn_l (show 2 * i + 1 < 2 * gK g by omega)]; exact g4 i e1
          · have e2 : i = gK g := by omega
            subst e2
            rw [rowR3, appn_0, appn_r]
            exact ⟨h0', h0, h1⟩
      refine Or.inl ⟨p, (gR3 g (fun j => if j = 0 then k0 else k1)), q4, q1, q2.fx kF lT2 (by decide) (by decide) (by decide), hGB, ⟨?_, ?_, ?_, ?_, ?_, ?_⟩, ⟨?_, ?_, ?_, ?_, ?_, ?_⟩, ⟨fun i hi => ?_, fun i hi => ?_, fun i hi => ?_, fun i hi => ?_⟩, fun i hi => ?_, fun i hi => ?_, fun i hi => ?_, fun i hi => ?_⟩
      · rw [kX2.I l0 (by decide) (by decide) (by decide), kb.I lS (by decide) (by decide) (by decide)]; exact cS.1
      · rw [kX2.I l0 (by decide) (by decide) (by decide), kb.I lS (by decide) (by decide) (by decide)]; exact cS.2.1
      · rw [kX2.I l0 (by decide) (by decide) (by decide), kb.I lS (by decide) (by decide) (by decide)]; exact cS.2.2.1
      · rw [kX2.I l0 (by decide) (by decide) (by decide), pI_e]; rfl
      · rw [kX2.I l0 (by decide) (by decide) (by decide), kb.I lS (by decide) (by decide) (by decide)]; exact cS.2.2.2.2.1
      · rw [kX2.I l0 (by decide) (by decide) (by decide), kb.I lS (by decide) (by decide) (by decide)]; exact cS.2.2.2.2.2
      · rw [pI_n (by decide), kM2.I lT (by decide) (by decide) (by decide)]; exact cT.1
      · rw [pI_n (by decide), kM2.I lT (by decide) (by decide) (by decide)]; exact cT.2.1
      · rw [pI_n (by decide), kM2.I lT (by decide) (by decide) (by decide)]; exact cT.2.2.1
      · rw [pI_e]; rfl
      · rw [pI_n (by decide), kM2.I lT (by decide) (by decide) (by decide)]; exact cT.2.2.2.2.1
      · rw [pI_n (by decide), kM2.I lT (by decide) (by decide) (by decide)]; exact cT.2.2.2.2.2
      · rw [kX2.W l0 (by decide) (by decide), pA_sI]; exact z0 i hi
      · rw [kX2.W l0 (by decide) (by decide), pA_sI]; exact z1 i hi
      · rw [kX2.W l0 (by decide) (by decide), pA_sI]; exact z2 i hi
      · have hi' : i < 2 * (gK g + 1) := hi
        show pA S2 (A 47) i = nI (appn (gmo g) (2 * gK g) (fun j => if j = 0 then k0 else k1) i)
        by_cases e1 : i < 2 * gK g
        · rw [appn_l e1, (vo i e1).1]; exact z3 i e1
        · obtain ⟨j, hj, rfl⟩ : ∃ j, j < 2 ∧ i = 2 * gK g + j := ⟨i - 2 * gK g, by omega, by omega⟩
          rw [appn_r]; exact (vx j hj).1
      · rw [pA_sI, kM2.W lT (by decide) (by decide)]; exact z4 i hi
      · rw [pA_sI, kM2.W lT (by decide) (by decide)]; exact z5 i hi
      · rw [pA_sI, kM2.W lT (by decide) (by decide)]; exact z6 i hi
      · have hi' : i < 2 * (gK g + 1) := hi
        show pA (sA Ta1 (A 66) (2 * gK g + 1) u1) (A 66) i = nI (appn (gmo g) (2 * gK g) (fun j => if j = 0 then k0 else k1) i)
        by_cases e1 : i < 2 * gK g
        · rw [appn_l e1, (vo i e1).2]; exact z7 i e1
        · obtain ⟨j, hj, rfl⟩ : ∃ j, j < 2 ∧ i = 2 * gK g + j := ⟨i - 2 * gK g, by omega, by omega⟩
          rw [appn_r]; exact (vx j hj).2
    · exact Or.inr ⟨kk, qq, q1, q2.fx kF lT2 (by decide) (by decide) (by decide)⟩
end
