/-! work: again, and rows of steps -/
def K242 (n : Nat) (A : Nat → Nat) (rec : Nat → pq_S → Option pq_S) (x3 : Int32) (T5 : pq_S) : Option pq_S := cb (m_X12_fine n (A 60) (sI T5 1207 (A 60) ((pI T5 1207 (A 60)) - (1 : Int32)))) fun r120 S_118 => if r120 = 0 then b_X12_readStep_277 n rec (A 60) S_118 else Option.bind (pR S_118 1238 (A 60)) fun q124 => ck (ix (x3 + (2 : Int32)) (pN S_118 q124)) (dix _ _) (lt_ (sA S_118 q124 (Int32.toNatClampNeg (x3 + (2 : Int32))) (pI S_118 1240 (A 60))) fun S_126 => b_X12_readStep_277 n rec (A 60) S_126)
/-- the steps between brackets, with the bracket that ends them -/
def NOK (A b : Nat → Nat) (z n P W M o : Nat) : Prop := ∀ d d', 3 * (8 - o) ≤ d → 8 - o ≤ d' → ∀ (S T : pq_S) (p R : Nat) (x3 : Int32), XF A b z S p → MF A b z T p → LAY A S → LAY A T → CN A P W M S T → pI S 902 (A 37) = nI R → pI T 1240 (A 60) = nI (5 * R) → pI T 1207 (A 60) = nI o → 6 * R ≤ p → ∃ Sm S' T', (m_proP_d n d).1 (A 36) (A 1) (A 4) (nI o) S = some Sm ∧ m_X10_takeSign n (A 1) 93 Sm = some S' ∧ b_X12_readStep_219 n (m_modS_d n d') n (A 60) x3 T = K242 n A (m_modS_d n d') x3 T' ∧ FXx A S S' ∧ FXm A T T' ∧ PO A b z P W M o S T S' T' p R
section
variable {A b : Nat → Nat} {z n P W M o : Nat} {S T : pq_S}
theorem r_242 {rec : Nat → pq_S → Option pq_S} {x3 : Int32} : b_X12_readStep_242 n rec (A 60) x3 T = Option.bind (m_X12_sign n (A 60) 93 T) (K242 n A rec x3) := rfl
theorem xe_steps {k q d : Nat} {o : Int32} (h : XE A b z S k q) (hn : 20000 ≤ n) : ∃ S', (m_proP_d n (d + 1)).1 (A 36) (A 1) (A 4) o S = some S' ∧ TT 1003 1006 S S' ∧ XE A b z S' k q := by
  obtain ⟨S1, a1, a2, a3⟩ := x_nextE (n := n) h hn
  obtain ⟨n', rfl⟩ : ∃ n', n = n' + 1 := ⟨n - 1, by omega⟩
  refine ⟨S1, ?_, a2, a3⟩
  show g_X6_readSteps (n' + 1) (m_proP_d (n' + 1) d) (A 36) (A 1) (A 4) o S = _
  unfold g_X6_readSteps
  rw [b_X6_readSteps_3, if_neg (by decide), a1, cb_mk, if_pos rfl]
theorem k242E {k q : Nat} {rec : Nat → pq_S → Option pq_S} {x3 : Int32} (h : ME A b z T k q) : ∃ T', K242 n A rec x3 T = some T' ∧ FXm A T T' ∧ ME A b z T' k q := by
  have h2 : ME A b z (sI T 1207 (A 60) (pI T 1207 (A 60) - 1)) k q := h.op
  refine ⟨_, ?_, (FX.rf _ _ _ _ _).wI (by decide), h2⟩
  unfold K242
  rw [r_fineE h2, cb_mk, if00, b_X12_readStep_277, b_X12_readStep_289, r_signE h2, ob_mk]
theorem r219E {k q f : Nat} {rec : Nat → pq_S → Option pq_S} {x3 : Int32} (h : ME A b z T k q) : b_X12_readStep_219 n rec (f + 1) (A 60) x3 T = K242 n A rec x3 T := by
  rw [b_X12_readStep_219, r_fineE h, cb_mk, if00, r_242, r_signE h, ob_mk]
theorem jk_again {q e R d d' : Nat} (hn : 20000 ≤ n) (hC : WC A b z n P W M o S T q e R) (hj : wm b q e 19) (hd : 3 * (8 - o) - 2 ≤ d) (hd' : 7 - o ≤ d') (hNL : o < 6 → NOK A b z n P W M (o + 1)) : OK1 A b z n P W M o (m_proP_d n d) (m_modS_d n d') S T q e R := by
  obtain ⟨hx, h4, hm, he, hqe, lS, lT, hN, r37, t40, t07, hR, h6, ho, hw, hv⟩ := hC
  have hW : nI (wdV b q e) = nI (ofV 19) := (hv 19 (by decide)).mpr hj
  have hne : ∀ i, i < 20 → i ≠ 19 → ¬ wm b q e i := fun i hi hij hwi => r_dv20 i hi 19 (by decide) hij (((hv i hi).mpr hwi).symm.trans hW)
  have hlen : e = q + tln 19 := by have := hj.1; omega
  have htl : tln 19 = 5 := rfl
  have hez := hx.2.1
  have hz6 := hx.1.2.2.2.1
  obtain ⟨d, rfl⟩ : ∃ x, d = x + 1 := ⟨d - 1, by omega⟩
  unfold OK1
  rw [hW]
  have cls0 : ∀ R1, g_X6_readAgain n (m_proP_d n d) (A 36) (A 1) (A 4) (nI R) (nI o) S = some R1 → clsB n A (m_proP_d n (d + 1)) (nI o) (nI R) S = some R1 := by
    intro R1 hR1
    unfold clsB
    rw [hw 15 (by decide), cb_mk, if_neg (hne 15 (by decide) (by decide)), if00, hw 16 (by decide), cb_mk, if_neg (hne 16 (by decide) (by decide)), if00, hw 17 (by decide), cb_mk, if_neg (hne 17 (by decide) (by decide)), if00, hw 18 (by decide), cb_mk, if_neg (hne 18 (by decide) (by decide)), if00, hw 13 (by decide), cb_mk, if_neg (hne 13 (by decide) (by decide)), if00, hw 19 (by decide), cb_mk, if_pos hj, if10, show (m_proP_d n (d + 1)).2.2 (A 36) (A 1) (A 4) (nI R) (nI o) S = some R1 from hR1, ob_mk]
  by_cases ho6 : o < 6
  · obtain ⟨T1, a1, a2, a3, a4⟩ := r_open (n := n) (y := 5) hm t07 ho6 (by omega)
    rw [show q + 5 = e by omega] at a2
    have lT1 := a4.lay lT (by decide) (by decide)
    have k4 : FX [] [] [38] A S (sA S (A 38) (5 * R + 0) 5) := (FX.rf _ _ _ _ _).wA (by decide)
    have l4 := k4.lay lS (by decide) (by decide)
    have H : HH A b z (sA S (A 38) (5 * R + 0) 5) T1 e True := HH.pst (R := R) (c := 0) ⟨lS, lT1, Or.inl ⟨e, Nat.le_refl _, hx, a2, trivial⟩⟩
    obtain ⟨v, u, S5, T5, b1, b2, b3, b4, H5⟩ := h_num (n := n) (lo := 0) (hi := 20) (lo' := 0) (hi' := 20) H hn (fun _ => ⟨rfl, rfl, by decide⟩)
    have l5 := l4.tt b3 (by decide)
    have H6 := H5.pst (R := R) (c := 1) (v := v)
    have k6 : FX [] [] [38] A S5 (sA S5 (A 38) (5 * R + 1) v) := (FX.rf _ _ _ _ _).wA (by decide)
    have l6 := k6.lay l5 (by decide) (by decide)
    obtain ⟨S7, T7, c1, c2, c3, c4, H7⟩ := h_sign (n := n) (c := 91) H6 hn (by decide)
    have l7 := l6.tt c3 (by decide)
    have m7 := (lT1.tt b4 (by decide)).tt c4 (by decide)
    have kx7 : FXx A S S7 := (((k4.mono (by decide) (by decide) (by decide)).tr b3.x).tr (k6.mono (by decide) (by decide) (by decide))).tr c3.x
    have km7 : FXm A T T7 := ((a4.mono (F2 := fmF) (P2 := []) (A2 := fmA) (by decide) (by decide) (by decide)).tr b4.m).tr c4.m
    have cell7 : ∀ i, pA S7 (A 38) i = if i = 5 * R + 1 then v else if i = 5 * R + 0 then 5 else pA S (A 38) i := by
      intro i
      rw [c3.1.2.2.2.2.2, pA_sA, b3.1.2.2.2.2.2, pA_sA]
      simp only [true_and]
    have tA7 : pA T7 (A 78) = pA T (A 78) := by
      rw [c4.1.2.2.2.2.2, b4.1.2.2.2.2.2]
      exact funext fun i => a4.W lT (by decide) (by decide) i
    have t7 : pI T7 1240 (A 60) = nI (5 * R) := by rw [c4.2 _ _ (by decide), b4.2 _ _ (by decide), a4.I lT (by decide) (by decide) (by decide)]; exact t40
    have o7 : pI T7 1207 (A 60) = nI (o + 1) := by rw [c4.2 _ _ (by decide), b4.2 _ _ (by decide)]; exact a3
    have w7 : pI S7 902 (A 37) = nI (R + 1) := by rw [c3.2 _ _ (by decide), pI_sA, b3.2 _ _ (by decide), pI_sA]; exact r37
    have clsA : ∀ Sn Sn1, (m_proP_d n d).1 (A 36) (A 1) (A 4) (nI (o + 1)) S7 = some Sn → m_X10_takeSign n (A 1) 93 Sn = some Sn1 → LAY A Sn1 → clsB n A (m_proP_d n (d + 1)) (nI o) (nI R) S = some (sA Sn1 (A 38) (5 * R + 2) (pI Sn1 902 (A 37))) := by
      intro Sn Sn1 h1 h2 h3
      refine cls0 _ ?_
      unfold g_X6_readAgain
      rw [if_pos (show nI o < (6 : Int32) from nI_lt (b := 6) ho6 (by decide)), lS.r36_600, ob_mk, show m_X9_put n (A 37) (nI R) 0 5 S = some (sA S (A 38) (5 * R + 0) 5) from x_pst (c := 0) lS hR (by decide), ob_mk, l4.r36_600, ob_mk, b1, cb_mk, show m_X9_put n (A 37) (nI R) 1 v S5 = some (sA S5 (A 38) (5 * R + 1) v) from x_pst (c := 1) l5 hR (by decide), ob_mk, show m_X10_takeSign n (A 1) 91 (sA S5 (A 38) (5 * R + 1) v) = some S7 from c1, ob_mk, nI_1, h1, ob_mk, h2, ob_mk, h3.r36_600, ob_mk, ob_mk, show m_X9_put n (A 37) (nI R) 2 (pI Sn1 902 (A 37)) Sn1 = some (sA Sn1 (A 38) (5 * R + 2) (pI Sn1 902 (A 37))) from x_pst (c := 2) h3 hR (by decide), ob_mk]
    have refA : ∀ T8 T9, m_X12_tellsStep n (A 60) 5 u 0 0 0 T7 = some T8 → b_X12_readStep_219 n (m_modS_d n d') n (A 60) (nI (5 * R)) T8 = T9 → refB n A (m_modS_d n d') (nI (ofV 19)) T = T9 := by
      intro T8 T9 h1 h2
      unfold refB
      rw [r_of (by decide) hn, cb_mk, if_neg (r_dv20 19 (by decide) 15 (by decide) (by decide)), r_of (by decide) hn, cb_mk, if_neg (r_dv20 19 (by decide) 16 (by decide) (by decide)), r_of (by decide) hn, cb_mk, if_neg (r_dv20 19 (by decide) 17 (by decide) (by decide)), r_of (by decide) hn, cb_mk, if_neg (r_dv20 19 (by decide) 18 (by decide) (by decide)), r_of (by decide) hn, cb_mk, if_neg (r_dv20 19 (by decide) 13 (by decide) (by decide)), r_of (by decide) hn, cb_mk, if_pos rfl, show m_X12_opensOne n (A 60) 5 T = some T1 from a1, ob_mk, b2, cb_mk, show m_X12_sign n (A 60) 91 T5 = some T7 from c2, ob_mk, t7, h1, ob_mk]
      exact h2
    obtain ⟨_, _, ⟨p7, hp7, x7, mm7, ⟨_, k, rfl, rfl, i1, i2, i3⟩⟩ | ⟨kk, qq, x7, mm7⟩⟩ := H7
    · have hk : k ≤ 20 := nIb i3 i2 rfl (by decide)
      obtain ⟨T8, y1, y2, y3, y4, y5⟩ := r_tell (n := n) (x1 := 5) (x2 := nI k) (x3 := 0) (x4 := 0) (x5 := 0) mm7 m7 t7 hR
      have m8 := y2.lay m7 (by decide) (by decide)
      have mf8 : MF A b z T8 p7 := mm7.fx y2 m7 (by decide) (by decide) (by decide)
      have km8 : FXm A T T8 := km7.tr (y2.mono (by decide) (by decide) (by decide))
      obtain ⟨Sn, Sn1, Tn, g1, g2, g3, g4, g5, g6⟩ := hNL ho6 d d' (by omega) (by omega) S7 T8 p7 (R + 1) (nI (5 * R)) x7 mf8 l7 m8 (hN.fx lS lT kx7 km8) w7 y3 (by rw [y2.I m7 (by decide) (by decide) (by decide)]; exact o7) (by omega)
      have ln := g4.lay l7 (by decide) (by decide)
      have mn := g5.lay m8 (by decide) (by decide)
      have kP : FX [] [] [38] A Sn1 (sA Sn1 (A 38) (5 * R + 2) (pI Sn1 902 (A 37))) := (FX.rf _ _ _ _ _).wA (by decide)
      have lP := kP.lay ln (by decide) (by decide)
      have kxP : FXx A S (sA Sn1 (A 38) (5 * R + 2) (pI Sn1 902 (A 37))) := (kx7.tr g4).tr (kP.mono (by decide) (by decide) (by decide))
      rcases g6 with ⟨pn, Rn, j1, xn, mfn, j2, j3, j4, j5, j6, j7, j8⟩ | ⟨kk, qq, xn, mfn⟩
      · -- the row's end is told
        have ko : FX [1207] [] [] A Tn (sI Tn 1207 (A 60) (nI o)) := (FX.rf _ _ _ _ _).wI (by decide)
        have lo := ko.lay mn (by decide) (by decide)
        have kq : FX [1207] [] [78] A Tn (sA (sI Tn 1207 (A 60) (nI o)) (A 78) (5 * R + 2) (nI (5 * Rn))) := ((FX.rf _ _ _ _ _).wI (by decide)).wA (by decide)
        have lq := kq.lay mn (by decide) (by decide)
        have mq : MF A b z (sA (sI Tn 1207 (A 60) (nI o)) (A 78) (5 * R + 2) (nI (5 * Rn))) pn := mfn.fx kq mn (by decide) (by decide) (by decide)
        have xP : XF A b z (sA Sn1 (A 38) (5 * R + 2) (pI Sn1 902 (A 37))) pn := xn.fx kP ln (by decide) (by decide) (by decide)
        obtain ⟨S', T', s1, s2, s3, s4, s5⟩ := j_sign (n := n) (c := 59) xP mq (by decide) hn
        have kmq : FXm A T (sA (sI Tn 1207 (A 60) (nI o)) (A 78) (5 * R + 2) (nI (5 * Rn))) := (km8.tr g5).tr (kq.mono (by decide) (by decide) (by decide))
        have kRun : K242 n A (m_modS_d n d') (nI (5 * R)) Tn = some T' := by
          unfold K242
          rw [j6, nI_pred, r_fine (mfn.fx ko mn (by decide) (by decide) (by decide)), cb_mk, if10, lo.r60_1238, ob_mk, lo.n78, show nI (5 * R) + (2 : Int32) = nI (5 * R + 2) from nI_add _ _, ck_pos (ix_nI (by omega) (by decide)), lt_mk, nI_clamp (by omega), pI_n (by decide), j5, b_X12_readStep_277, b_X12_readStep_289, show m_X12_sign n (A 60) 59 (sA (sI Tn 1207 (A 60) (nI o)) (A 78) (5 * R + 2) (nI (5 * Rn))) = some T' from s2, ob_mk]
        refine ⟨_, S', T', clsA Sn Sn1 g1 g2 ln, s1, refA T8 (some T') y1 (by rw [g3, kRun]), kxP.tr s3.x, kmq.tr s4.m, ?_⟩
        rcases s5 with ⟨w1, w2, x', m'⟩ | er
        · have := sk_ge b z pn
          have cx : ∀ i, pA S' (A 38) i = if i = 5 * R + 2 then nI Rn else pA Sn1 (A 38) i := fun i => by
            rw [s3.1.2.2.2.2.2, pA_sA, j4]
            simp only [true_and]
          have cy : ∀ i, pA T' (A 78) i = if i = 5 * R + 2 then nI (5 * Rn) else pA Tn (A 78) i := fun i => by
            rw [s4.1.2.2.2.2.2, pA_sA, pA_sI]
            simp only [true_and]
          refine Or.inl ⟨_, Rn, by omega, x', m', by omega, by omega, by rw [s3.2 _ _ (by decide), pI_sA]; exact j4, by rw [s4.2 _ _ (by decide), pI_sA, pI_n (by decide)]; exact j5, by rw [s4.2 _ _ (by decide), pI_sA, pI_e], fun i hi => ⟨?_, ?_⟩, ?_⟩
          · rw [cx, if_neg (by omega), (j7 i (by omega)).1, cell7, if_neg (by omega), if_neg (by omega)]
          · rw [cy, if_neg (by omega), (j7 i (by omega)).2, y5 i hi, tA7]
          · have bl : BL (pA S' (A 38)) (pA T' (A 78)) P W M (6 - (o + 1)) (R + 1) Rn := BL.cg _ _ _ j8 (fun i h1 h2 => ⟨by rw [cx, if_neg (by omega)], by rw [cy, if_neg (by omega)]⟩)
            rw [show 6 - o = 6 - (o + 1) + 1 by omega]
            refine BL.ag hk (by omega) ⟨⟨?_, ?_, ?_⟩, ?_, ?_, ?_⟩ bl
            · rw [cx, if_neg (by omega), (j7 _ (by omega)).1, cell7, if_neg (by omega), if_pos rfl]; rfl
            · rw [cx, if_neg (by omega), (j7 _ (by omega)).1, cell7, if_pos rfl]
            · rw [cx, if_pos rfl]
            · rw [cy, if_neg (by omega), (j7 _ (by omega)).2, y4.1]; rfl
            · rw [cy, if_neg (by omega), (j7 _ (by omega)).2, y4.2.1]
            · rw [cy, if_pos rfl]
        · exact Or.inr er
      · obtain ⟨T', kr1, kr2, kr3⟩ := k242E (n := n) (rec := m_modS_d n d') (x3 := nI (5 * R)) mfn
        have xP : XE A b z (sA Sn1 (A 38) (5 * R + 2) (pI Sn1 902 (A 37))) kk qq := xn.fx kP ln (by decide) (by decide) (by decide)
        obtain ⟨S', s1, s2, s3⟩ := x_signE (n := n) (c := 59) xP (by decide) hn
        exact ⟨_, S', T', clsA Sn Sn1 g1 g2 ln, s1, refA T8 (some T') y1 (by rw [g3, kr1]), kxP.tr s2.x, (km8.tr g5).tr kr2, Or.inr ⟨_, _, s3, kr3⟩⟩
    · obtain ⟨d0, ed⟩ : ∃ x, d = x + 1 := ⟨d - 1, by omega⟩
      subst ed
      obtain ⟨Sn, g1, g2, g3⟩ := xe_steps (n := n) (d := d0) (o := nI (o + 1)) x7 hn
      obtain ⟨Sn1, g4, g5, g6⟩ := x_signE (n := n) (c := 93) g3 (by decide) hn
      have ln := (l7.tt g2 (by decide)).tt g5 (by decide)
      have kP : FX [] [] [38] A Sn1 (sA Sn1 (A 38) (5 * R + 2) (pI Sn1 902 (A 37))) := (FX.rf _ _ _ _ _).wA (by decide)
      have xP : XE A b z (sA Sn1 (A 38) (5 * R + 2) (pI Sn1 902 (A 37))) kk qq := g6.fx kP ln (by decide) (by decide) (by decide)
      obtain ⟨S', s1, s2, s3⟩ := x_signE (n := n) (c := 59) xP (by decide) hn
      obtain ⟨T', kr1, kr2, kr3⟩ := k242E (n := n) (rec := m_modS_d n d') (x3 := nI (5 * R)) mm7
      obtain ⟨n', en⟩ : ∃ n', n = n' + 1 := ⟨n - 1, by omega⟩
      refine ⟨_, S', T', clsA Sn Sn1 g1 g4 ln, s1, refA T7 (some T') (r_tellE mm7) ?_, (((kx7.tr g2.x).tr g5.x).tr (kP.mono (by decide) (by decide) (by decide))).tr s2.x, km7.tr kr2, Or.inr ⟨_, _, s3, kr3⟩⟩
      subst en
      rw [r219E mm7, kr1]
  · have e6 : o = 6 := by omega
    subst e6
    obtain ⟨T1, a1, a2, a3⟩ := r_open6 (n := n) (y := 5) hm t07 (by omega)
    obtain ⟨S1, b1, b2, b3⟩ := x_ref (n := n) (k := 3) (q := q) hx (by decide) (by omega)
    obtain ⟨S', s1, s2, s3⟩ := x_signE (n := n) (c := 59) b3 (by decide) hn
    obtain ⟨T', kr1, kr2, kr3⟩ := k242E (n := n) (rec := m_modS_d n d') (x3 := pI T1 1240 (A 60)) a2
    refine ⟨S1, S', T', cls0 _ ?_, s1, ?_, b2.x.tr s2.x, a3.tr kr2, Or.inr ⟨_, _, s3, kr3⟩⟩
    · unfold g_X6_readAgain
      rw [if_neg (show ¬ nI 6 < (6 : Int32) by decide), h4, show m_X10_refuse n (A 1) 3 (nI q) S = some S1 from b1, ob_mk]
    · unfold refB
      rw [r_of (by decide) hn, cb_mk, if_neg (r_dv20 19 (by decide) 15 (by decide) (by decide)), r_of (by decide) hn, cb_mk, if_neg (r_dv20 19 (by decide) 16 (by decide) (by decide)), r_of (by decide) hn, cb_mk, if_neg (r_dv20 19 (by decide) 17 (by decide) (by decide)), r_of (by decide) hn, cb_mk, if_neg (r_dv20 19 (by decide) 18 (by decide) (by decide)), r_of (by decide) hn, cb_mk, if_neg (r_dv20 19 (by decide) 13 (by decide) (by decide)), r_of (by decide) hn, cb_mk, if_pos rfl, a1, ob_mk, r_numE a2, cb_mk, r_signE a2, ob_mk, r_tellE a2, ob_mk]
      obtain ⟨n', en⟩ : ∃ n', n = n' + 1 := ⟨n - 1, by omega⟩
      subst en
      rw [r219E a2, kr1]
/-- one step, on both sides -/
theorem j_step {q R d d' : Nat} (hn : 20000 ≤ n) (hz : z ≤ 150) (hx : XF A b z S q) (hm : MF A b z T q) (hq : q < z) (hsk : sk b z q = q) (lS : LAY A S) (lT : LAY A T) (hN : CN A P W M S T) (r37 : pI S 902 (A 37) = nI R) (t40 : pI T 1240 (A 60) = nI (5 * R)) (t07 : pI T 1207 (A 60) = nI o) (h6 : 6 * R ≤ q) (ho : o ≤ 6) (hd : 3 * (8 - o) - 1 ≤ d) (hd' : 8 - o ≤ d') (hNL : o < 6 → NOK A b z n P W M (o + 1)) : ∃ S2 S' T', m_X10_takeWord n (A 1) S = some S2 ∧ ((m_X10_isWell n (A 1) S2 = some (0, S2) ∧ m_X10_takeSign n (A 1) 59 S2 = some S') ∨ (m_X10_isWell n (A 1) S2 = some (1, S2) ∧ ∃ Sm, (m_proP_d n d).2.1 (A 36) (A 1) (A 4) (nI o) S2 = some Sm ∧ m_X10_takeSign n (A 1) 59 Sm = some S')) ∧ (m_modS_d n d') (A 60) T = some T' ∧ FXx A S S' ∧ FXm A T T' ∧ PO A b z P W M o S T S' T' (q + 6) R := by
  obtain ⟨d, rfl⟩ : ∃ x, d = x + 1 := ⟨d - 1, by omega⟩
  obtain ⟨d', rfl⟩ : ∃ x, d' = x + 1 := ⟨d' - 1, by omega⟩
  obtain ⟨S2, T2, q', e, eq1, ee, w1, w2, w3, w4, w5, w6, w7, w8, w9, w10⟩ := j_word (n := n) hx hm hn
  rw [hsk] at eq1
  subst eq1
  have lS2 := lS.tt w3 (by decide)
  have lT2 := lT.tt w4 (by decide)
  have hR : R < 25 := by omega
  have refS : ∀ T', refB n A (m_modS_d n d') (nI (wdV b q' e)) T2 = some T' → (m_modS_d n (d' + 1)) (A 60) T = some T' := by
    intro T' h
    show g_X12_readStep n (m_modS_d n d') (A 60) T = _
    unfold g_X12_readStep
    rw [w2, cb_mk]
    exact h
  have refN : ∀ T1, (∀ j, j < 20 → ¬ wm b q' e j ∨ (j ≠ 13 ∧ j ≠ 15 ∧ j ≠ 16 ∧ j ≠ 17 ∧ j ≠ 18 ∧ j ≠ 19)) → m_X12_wrong n (A 60) 1 (nI q') T2 = some T1 → ME A b z T1 1 q' → (m_modS_d n (d' + 1)) (A 60) T = some T1 := by
    intro T1 h1 h2 h3
    refine refS T1 ?_
    have hW : ∀ j, (j = 13 ∨ j = 15 ∨ j = 16 ∨ j = 17 ∨ j = 18 ∨ j = 19) → ¬ nI (wdV b q' e) = nI (ofV j) := fun j hj x => by
      rcases h1 j (by omega) with h | h
      · exact h ((w9 j (by omega)).mp x)
      · omega
    unfold refB
    rw [r_of (by decide) hn, cb_mk, if_neg (hW 15 (by decide)), r_of (by decide) hn, cb_mk, if_neg (hW 16 (by decide)), r_of (by decide) hn, cb_mk, if_neg (hW 17 (by decide)), r_of (by decide) hn, cb_mk, if_neg (hW 18 (by decide)), r_of (by decide) hn, cb_mk, if_neg (hW 13 (by decide)), r_of (by decide) hn, cb_mk, if_neg (hW 19 (by decide)), w6.2.2.1, h2, ob_mk, b_X12_readStep_289, r_signE h3, ob_mk]
  rcases w10 with ⟨v1, x2, v3⟩ | ⟨v1, x2, v3⟩
  · -- a row for it
    have k3 : FX [] [(902, 37)] [] A S2 (sI S2 902 (A 37) (nI (R + 1))) := (FX.rf _ _ _ _ _).wP (by decide)
    have l3 := k3.lay lS2 (by decide) (by decide)
    have x3 : XF A b z (sI S2 902 (A 37) (nI (R + 1))) e := x2.fx k3 lS2 (by decide) (by decide) (by decide)
    have r37' : pI S2 902 (A 37) = nI R := by rw [w3.2 _ _ (by decide)]; exact r37
    have nr : m_X9_newRow n (A 37) S2 = some (nI R, sI S2 902 (A 37) (nI (R + 1))) := by
      have e1 : m_X9_isFull n (A 37) S2 = some (0, S2) := by
        unfold m_X9_isFull
        rw [lS2.r37_900, ob_mk, lS2.n38, lS2.w37, r37', nI_1, show nI (R + 1) * 5 = nI ((R + 1) * 5) from nI_mulp _ _, ofN, if_pos (nI_le (by omega) (by omega))]
      unfold m_X9_newRow
      rw [e1, cb_mk, if00, r37', nI_1, pI_e, nI_pred]
    have kx3 : FXx A S (sI S2 902 (A 37) (nI (R + 1))) := w3.x.tr (k3.mono (by decide) (by decide) (by decide))
    have hez := x3.2.1
    have h600 := x3.1.2.2.2.1
    have hw3 : ∀ j, j < 20 → m_X10_isWord n (A 1) j (sI S2 902 (A 37) (nI (R + 1))) = some (@ite _ (wm b q' e j) (Classical.propDecidable _) 1 0, sI S2 902 (A 37) (nI (R + 1))) := fun j hj => x_iw x3.1 hj x3.2.2.1 (by rw [pI_n (by decide)]; exact w5) w8 hez hn
    have hC : WC A b z n P W M o (sI S2 902 (A 37) (nI (R + 1))) T2 q' e R := ⟨x3, by rw [pI_n (by decide)]; exact w5, w6, ee, v1, l3, lT2, hN.fx lS lT kx3 w4.m, pI_e .., by rw [w4.2 _ _ (by decide)]; exact t40, by rw [w4.2 _ _ (by decide)]; exact t07, hR, h6, ho, hw3, w9⟩
    have clsS : ∀ Sm, clsB n A (m_proP_d n d) (nI o) (nI R) (sI S2 902 (A 37) (nI (R + 1))) = some Sm → (m_proP_d n (d + 1)).2.1 (A 36) (A 1) (A 4) (nI o) S2 = some Sm := by
      intro Sm h
      show g_X6_readStep n (m_proP_d n d) (A 36) (A 1) (A 4) (nI o) S2 = _
      unfold g_X6_readStep
      rw [lS2.r36_600, ob_mk, nr, cb_mk]
      exact h
    have done : OK1 A b z n P W M o (m_proP_d n d) (m_modS_d n d') (sI S2 902 (A 37) (nI (R + 1))) T2 q' e R → ∃ S2 S' T', m_X10_takeWord n (A 1) S = some S2 ∧ ((m_X10_isWell n (A 1) S2 = some (0, S2) ∧ m_X10_takeSign n (A 1) 59 S2 = some S') ∨ (m_X10_isWell n (A 1) S2 = some (1, S2) ∧ ∃ Sm, (m_proP_d n (d + 1)).2.1 (A 36) (A 1) (A 4) (nI o) S2 = some Sm ∧ m_X10_takeSign n (A 1) 59 Sm = some S')) ∧ (m_modS_d n (d' + 1)) (A 60) T = some T' ∧ FXx A S S' ∧ FXm A T T' ∧ PO A b z P W M o S T S' T' (q' + 6) R := by
      rintro ⟨Sm, S', T', c1, c2, c3, c4, c5, c6⟩
      refine ⟨S2, S', T', w1, Or.inr ⟨x_well x2, Sm, clsS Sm c1, c2⟩, refS T' c3, kx3.tr c4, w4.m.tr c5, ?_⟩
      rcases c6 with ⟨p', R', j1, j2, j3, j4, j5, j6, j7, j8, j9, j10⟩ | er
      · exact Or.inl ⟨p', R', j1, j2, j3, j4, j5, j6, j7, j8, fun i hi => ⟨by rw [(j9 i hi).1, pA_sI, w3.1.2.2.2.2.2], by rw [(j9 i hi).2, w4.1.2.2.2.2.2]⟩, j10⟩
      · exact Or.inr er
    by_cases k15 : wm b q' e 15
    · exact done (jk_carry hn hC k15)
    by_cases k16 : wm b q' e 16
    · exact done (jk_sell hn hC k16)
    by_cases k17 : wm b q' e 17
    · exact done (jk_water hn hC k17)
    by_cases k18 : wm b q' e 18
    · exact done (jk_dig hn hC k18)
    by_cases k13 : wm b q' e 13
    · exact done (jk_month hn hC k13)
    by_cases k19 : wm b q' e 19
    · exact done (jk_again hn hC k19 (by omega) (by omega) hNL)
    obtain ⟨S4, a1, a2, a3⟩ := x_ref (n := n) (k := 1) (q := q') x3 (by decide) (by omega)
    obtain ⟨S', s1, s2, s3⟩ := x_signE (n := n) (c := 59) a3 (by decide) hn
    obtain ⟨T1, c1, c2, c3⟩ := r_wr (n := n) (k := 1) (q := q') w6 (by decide) (by omega)
    refine ⟨S2, S', T1, w1, Or.inr ⟨x_well x2, S4, clsS S4 ?_, s1⟩, refN T1 (fun j hj => ?_) c1 c3, (kx3.tr a2.x).tr s2.x, w4.m.tr c2.m, Or.inr ⟨_, _, s3, c3⟩⟩
    · unfold clsB
      rw [hw3 15 (by decide), cb_mk, if_neg k15, if00, hw3 16 (by decide), cb_mk, if_neg k16, if00, hw3 17 (by decide), cb_mk, if_neg k17, if00, hw3 18 (by decide), cb_mk, if_neg k18, if00, hw3 13 (by decide), cb_mk, if_neg k13, if00, hw3 19 (by decide), cb_mk, if_neg k19, if00, pI_n (by decide), w5, show m_X10_refuse n (A 1) 1 (nI q') (sI S2 902 (A 37) (nI (R + 1))) = some S4 from a1, ob_mk]
    · by_cases c : j = 13 ∨ j = 15 ∨ j = 16 ∨ j = 17 ∨ j = 18 ∨ j = 19
      · left
        rcases c with rfl | rfl | rfl | rfl | rfl | rfl <;> assumption
      · right; omega
  · obtain ⟨S', s1, s2, s3⟩ := x_signE (n := n) (c := 59) x2 (by decide) hn
    obtain ⟨T1, c1, c2, c3⟩ := r_wr (n := n) (k := 1) (q := q') w6 (by decide) (by omega)
    exact ⟨S2, S', T1, w1, Or.inl ⟨x_wellE x2, s1⟩, refN T1 (fun j hj => Or.inl (v3 j hj)) c1 c3, w3.x.tr s2.x, w4.m.tr c2.m, Or.inr ⟨_, _, s3, c3⟩⟩
end
