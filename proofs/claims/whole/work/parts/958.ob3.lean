/-! work, done -/
theorem ob_3 (n xa ma : Nat) (hn : 20000 ≤ n) : OB_3 n xa ma (JJ xa ma) := by
  rintro S f ⟨A, V, g, rfl, rfl, h⟩ y
  have h : JG A V g S := h
  obtain ⟨_, _, _, _, tp, t5, t6, t7, t8⟩ := h.tp
  obtain ⟨_, _, _, _, _, _, _, wk, im, ps, iw, is, hb⟩ := h.hi
  have hb : HB g A V S wk im ps iw is := hb
  refine ⟨200, 8000, by decide, by decide, ?_⟩
  unfold wp_X11_work
  refine ⟨_, _, x_isText h.lay t6 y (nI 150), 1, 6, by decide, by decide, wr_need _ (fun hc => ?_) (fun hc => ⟨rfl, ki_bad h (b := 0) (by decide) ?_⟩)⟩
  · obtain ⟨z, hz, hzt, rfl⟩ := i32_tx y (by decide) (by omega) hc
    have hw16 := hb.1
    obtain ⟨S13, a1, a2, a3⟩ := x_begin (n := n) h t7 t5 hzt
    have l13 := a2.lay h.lay (by decide) (by decide)
    refine ⟨A 1, h.lay.r0_1100, S13, a1, A 56, l13.r0_1109, ?_⟩
    have e501 : pI S13 501 (A 56) = nI wk := by rw [a2.I h.lay (by decide) (by decide) (by decide)]; exact hb.2.2.2.2.2.1.1
    rw [e501]
    by_cases hwk : wk = 16
    · subst hwk
      rw [if_neg (show ¬ nI 16 < (16 : Int32) by decide)]
      obtain ⟨Se, f1, eS⟩ := x_end (n := n) a3 l13
      refine ⟨_, _, f1, ?_⟩
      have ke : FXy A S Se := by rw [eS]; exact (a2.y.wI (by decide)).wI (by decide)
      have le := ke.lay h.lay (by decide) (by decide)
      have k0 : FXn A Se (sI Se 1200 (A 60) 0) := (FX.rf _ _ _ _ _).wI (by decide)
      obtain ⟨T, d1, d2, d3, d4, _, d6⟩ := r_begin (n := n) (U := sI Se 1200 (A 60) 0) h t7 t5 hzt (k0.lay le (by decide) (by decide)) (fun i => ke.W h.lay (by decide) (by decide) i)
      have e02 : pI Se 1202 (A 60) = nI tp := by rw [ke.I h.lay (by decide) (by decide) (by decide)]; exact t7
      have e41 : pI T 1241 (A 60) = 16 := by rw [(k0.tr d2).I le (by decide) (by decide) (by decide), ke.I h.lay (by decide) (by decide) (by decide)]; exact hb.2.2.1
      refine ⟨-20, sI T 1208 (A 60) (-1), ?_, ?_, fun _ => by simp [vp_updL], ?_⟩
      · unfold m_X12_work
        rw [if_neg (nI_pos (by omega)), pI_n (by decide), e02, if_neg (nI_nlt (by omega) (by omega)), if_neg (show ¬ (150 : Int32) < nI z from nI_nlt (a := 150) (by omega) (by decide)), b_X12_work_30, sp_mayS1, cb_mk, if10, d1, ob_mk, e41, if_pos rfl, r_res d3, cb_mk]
      · rw [pI_n (by decide), d6, pI_e]
      · exact (h.tx ke ((k0.tr d2).wI (by decide)) (by rw [pI_e, eS, pI_n (by decide), pI_e]) (by rw [eS, pI_e]) (by rw [pI_n (by decide)]; exact d4)).jj
    have hwk : wk < 16 := by omega
    rw [if_pos (show nI wk < (16 : Int32) from nI_lt (b := 16) hwk (by decide))]
    refine ⟨A 36, l13.r0_1104, A 1, l13.r0_1100, A 3, l13.r0_1101, A 4, l13.r3_700, ?_⟩
    have cxI := h.cx.1
    have cmI := h.cm.1
    have hgb := h.gb.b
    have hN : ∀ T, pI T 1224 (A 60) = nI (gP g) → pI T 1225 (A 60) = nI (gW g) → pI T 1226 (A 60) = nI (gM g) → CN A (gP g) (gW g) (gM g) S13 T := fun T q1 q2 q3 => ⟨⟨hgb.1, hgb.2.1, hgb.2.2.1⟩, ⟨by rw [a2.I h.lay (by decide) (by decide) (by decide)]; exact cxI.1, by rw [a2.I h.lay (by decide) (by decide) (by decide)]; exact cxI.2.1, by rw [a2.I h.lay (by decide) (by decide) (by decide)]; exact cxI.2.2.1⟩, q1, q2, q3⟩
    obtain ⟨T0, b1, b2, b3, _, b5, _⟩ := r_begin (n := n) (U := S) h t7 t5 hzt h.lay (fun _ => rfl)
    have lT0 := b2.lay h.lay (by decide) (by decide)
    have hT0 : MF A (bts A S) z T0 0 ∧ LAY A T0 ∧ CN A (gP g) (gW g) (gM g) S13 T0 ∧ pI T0 1207 (A 60) = 0 := ⟨b3, lT0, hN T0 (by rw [b2.I h.lay (by decide) (by decide) (by decide)]; exact cmI.1) (by rw [b2.I h.lay (by decide) (by decide) (by decide)]; exact cmI.2.1) (by rw [b2.I h.lay (by decide) (by decide) (by decide)]; exact cmI.2.2.1), b5⟩
    obtain ⟨Sr, e1, hall⟩ := sw_ap (P := fun T => MF A (bts A S) z T 0 ∧ LAY A T ∧ CN A (gP g) (gW g) (gM g) S13 T ∧ pI T 1207 (A 60) = 0) (m := m_X6_read n (A 36) (A 1) (A 4) S13) (Q := fun S' T => (FXy A S13 S' ∧ pI S' 601 (A 36) = 0 ∧ pI S' 602 (A 36) = 0 ∧ pI S' 603 (A 36) = 0) ∧ ∃ T', b_X12_work_68 n n (A 60) (sI T 1240 (A 60) 0) = b_X12_work_89 n (A 60) T' ∧ FXm A T T' ∧ ((∃ p' R', XF A (bts A S) z S' p' ∧ MF A (bts A S) z T' p' ∧ R' ≤ 25 ∧ pI S' 902 (A 37) = nI R' ∧ pI T' 1240 (A 60) = nI (5 * R') ∧ BL (pA S' (A 38)) (pA T' (A 78)) (gP g) (gW g) (gM g) 6 0 R') ∨ EE A (bts A S) z S' T')) (fun T hT => j_work (n := n) hn hz a3 hT.1 l13 hT.2.1 hT.2.2.1 hT.2.2.2) (T0 := T0) hT0
    obtain ⟨⟨kr, r1, r2, r3⟩, T0', _, _, hd⟩ := hall T0 hT0
    have kS : FXy A S Sr := a2.y.tr kr
    have lr := kS.lay h.lay (by decide) (by decide)
    refine ⟨Sr, e1, ?_⟩
    -- the reference, from a state that has the old reference's part
    have ref : ∀ Z, LAY A Z → (∀ i, pA Z (A 62) i = pA S (A 62) i) → pI Z 1202 (A 60) = nI tp → pI Z 1224 (A 60) = nI (gP g) → pI Z 1225 (A 60) = nI (gW g) → pI Z 1226 (A 60) = nI (gM g) → pI Z 1241 (A 60) = nI wk → ∃ T', m_X12_work n (A 60) (nI z) Z = b_X12_work_89 n (A 60) T' ∧ FXn A Z T' ∧ pI T' 1202 (A 60) = 0 ∧ pI T' 1200 (A 60) = 0 ∧ ((∃ p' R', XF A (bts A S) z Sr p' ∧ MF A (bts A S) z T' p' ∧ R' ≤ 25 ∧ pI Sr 902 (A 37) = nI R' ∧ pI T' 1240 (A 60) = nI (5 * R') ∧ BL (pA Sr (A 38)) (pA T' (A 78)) (gP g) (gW g) (gM g) 6 0 R') ∨ EE A (bts A S) z Sr T') := by
      intro Z lZ hZ1 hZ2 hZ3 hZ4 hZ5 hZ6
      have k0 : FXn A Z (sI Z 1200 (A 60) 0) := (FX.rf _ _ _ _ _).wI (by decide)
      have l0 := k0.lay lZ (by decide) (by decide)
      obtain ⟨T, d1, d2, d3, d4, d5, d6⟩ := r_begin (n := n) (U := sI Z 1200 (A 60) 0) h t7 t5 hzt l0 hZ1
      have kT := k0.tr d2
      have lT := kT.lay lZ (by decide) (by decide)
      obtain ⟨_, T', w1, w2, w3⟩ := hall T ⟨d3, lT, hN T (by rw [kT.I lZ (by decide) (by decide) (by decide)]; exact hZ3) (by rw [kT.I lZ (by decide) (by decide) (by decide)]; exact hZ4) (by rw [kT.I lZ (by decide) (by decide) (by decide)]; exact hZ5), d5⟩
      refine ⟨T', ?_, kT.tr w2.n, by rw [w2.I lT (by decide) (by decide) (by decide)]; exact d4, by rw [w2.I lT (by decide) (by decide) (by decide), d6, pI_e], w3⟩
      have n16 : ¬ pI T 1241 (A 60) = 16 := by
        rw [kT.I lZ (by decide) (by decide) (by decide), hZ6]
        exact fun q => by have := (nI_eq (a := wk) (b := 16) (by omega) (by decide)).mp q; omega
      unfold m_X12_work
      rw [if_neg (nI_pos (by omega)), pI_n (by decide), hZ2, if_neg (nI_nlt (by omega) (by omega)), if_neg (show ¬ (150 : Int32) < nI z from nI_nlt (a := 150) (by omega) (by decide)), b_X12_work_30, sp_mayS1, cb_mk, if10, d1, ob_mk, if_neg n16]
      exact w1
    rcases hd with ⟨p', R, xr, _, hR, eR, _, _⟩ | ⟨k, q, xr, _⟩
    · obtain ⟨Se, f1, eS⟩ := x_end (n := n) xr lr
      refine ⟨_, _, f1, ?_⟩
      rw [if00]
      have kse : FXy A Sr Se := by rw [eS]; exact ((FX.rf _ _ _ _ _).wI (by decide)).wI (by decide)
      have ke : FXy A S Se := kS.tr kse
      have le := ke.lay h.lay (by decide) (by decide)
      have kX : FXn A Se (sI (sI Se 1208 (A 60) (-1)) 1202 (A 60) 0) := ((FX.rf _ _ _ _ _).wI (by decide)).wI (by decide)
      have hX : JG A V g (sI (sI Se 1208 (A 60) (-1)) 1202 (A 60) 0) := h.tx ke kX (by rw [pI_n (by decide), pI_e, eS, pI_n (by decide), pI_e]) (by rw [eS, pI_e]) (pI_e ..)
      have kx : FX [1208, 1202] [] [] A Se (sI (sI Se 1208 (A 60) (-1)) 1202 (A 60) 0) := ((FX.rf _ _ _ _ _).wI (by decide)).wI (by decide)
      obtain ⟨_, _, _, _, _, _, _, wk', im', ps', iw', is', hb'⟩ := hX.hi
      have hb' : HB g A V (sI (sI Se 1208 (A 60) (-1)) 1202 (A 60) 0) wk' im' ps' iw' is' := hb'
      have ew : wk' = wk := by
        have q1 := hb'.2.2.1
        rw [pI_n (by decide), pI_n (by decide), ke.I h.lay (by decide) (by decide) (by decide), hb.2.2.1] at q1
        exact ((nI_eq (by omega) (by have := hb'.1; omega)).mp q1).symm
      subst ew
      have hsX := hX.hi.hs
      have hsSe : HS A V Se := hsX.eqv rfl rfl rfl rfl rfl
      have e5S : pI Se 501 (A 56) = nI wk' := by rw [ke.I h.lay (by decide) (by decide) (by decide)]; exact hb.2.2.2.2.2.1.1
      have st13 : STC g A Se 13 (gst g) := hX.sx
      refine ⟨A 56, le.r0_1109, A 3, le.r0_1101, A 13, le.r3_701, 7, 62, by decide, by decide, ?_⟩
      have hcb := fun i => cS_big 0 i
      refine w_one n (g := g) (h := 0) (k := wk') (d := 13) (A := A) (V := V) (ps := ps') (st := gst g) h.gb (by omega) hsSe (hsSe.2.2.1 56 (by decide)) (by omega) e5S (sl13 le hsSe.2.2.1) (fun q r i _ _ _ e => by have := hcb i; omega) (Or.inr (by have := hcb wk'; omega)) st13 h.sb (fun i hi => (hb'.2.2.2.2.2.1.2.2 i hi)) (Nat.le_refl _) (Nat.le_refl _) (fun A2 V2 U u1 u2 u3 u4 u5 => ?_)
      have hV := hsSe.2.2.1
      have eA : ∀ c, c < 92 → A2 c = A c := fun c hc => (u2.1 c (hV c hc)).2
      have lU : LAY A U := (le.fr hV u2).a2 (fun c hc => (eA c hc).symm)
      have iS : ∀ f c, c < 92 → f ≠ 501 → pI U f (A c) = pI Se f (A c) := fun f c hc q1 => u2.2.2.1 f c (hV c hc) (fun z => q1 z.1) (cS_no hc)
      have aS : ∀ c i, c < 92 → pA U (A c) i = pA Se (A c) i := fun c i hc => u2.2.2.2.1 c i (hV c hc) (cS_no hc)
      have wr : WR3 A (bts A S) n z R wk' g U := by
        intro Z lZ z1 z2 z3 z4 z5 z6
        obtain ⟨T', w1, w2, w3, w4, w5⟩ := ref Z lZ (fun i => by rw [z1 i, aS 62 i (by decide), ke.W h.lay (by decide) (by decide)]) (by rw [z2, iS 1202 60 (by decide) (by decide), ke.I h.lay (by decide) (by decide) (by decide)]; exact t7) z3 z4 z5 z6
        rcases w5 with ⟨p2, R2, _, m2, hR2, eR2, e40, hB⟩ | ⟨k, q, x2, _⟩
        · obtain rfl : R = R2 := (nI_eq (by omega) (by omega)).mp (eR.symm.trans eR2)
          have e38 : pA U (A 38) = pA Sr (A 38) := by
            funext i
            rw [aS 38 i (by decide), eS]
            rfl
          exact ⟨T', p2, w1, w2, w3, w4, m2, e40, by rw [e38]; exact hB⟩
        · exact absurd x2 (fun q => xr.ne q)
      have q601 : ∀ f, f = 601 ∨ f = 602 ∨ f = 603 → pI Se f (A 36) = pI Sr f (A 36) := fun f hf => by
        rw [eS, pI_n (by omega), pI_n (by omega)]
      obtain ⟨S43, o1, l43, F, st, o3, o4, o5⟩ := work_run (n := n) (b := bts A S) (z := z) hn hR hX kx hb' hwk u1 u2 u3 u4 u5 (by rw [q601 601 (by decide)]; exact r1) (by rw [q601 602 (by decide)]; exact r2) (by rw [q601 603 (by decide)]; exact r3) (by rw [eS, pI_n (by decide), pI_e]) (by rw [eS, pI_e]) wr
      have e902 : pI U 902 (A 37) = nI R := by
        rw [iS 902 37 (by decide) (by decide), eS, pI_n (by decide), pI_n (by decide)]; exact eR
      refine ⟨A 36, lU.r0_1104, A 3, lU.r0_1101, A 36, lU.r0_1104, A 37, lU.r36_600, S43, by rw [e902]; exact o1, A 36, l43.r0_1104, A 36, l43.r0_1104, ?_⟩
      refine ⟨_, F, o3, o4, fun _ => ?_, ?_⟩
      · rw [pI_n (by decide)]; simp [vp_updL]
      · have := o5.jj
        rw [eA 0 (by decide), eA 60 (by decide)] at this
        exact this
    · obtain ⟨Se, f1, rfl⟩ := x_endE (n := n) xr lr
      refine ⟨_, _, f1, ?_⟩
      rw [if_neg (kd_ne xr.2.2.2.2.1 xr.2.2.2.2.2.1)]
      have ke : FXy A S (sI (sI Sr 1113 (A 0) (nI q)) 1001 (A 1) 0) := (kS.wI (by decide)).wI (by decide)
      have le := ke.lay h.lay (by decide) (by decide)
      obtain ⟨T', w1, w2, w3, w4, w5⟩ := ref _ le (fun i => ke.W h.lay (by decide) (by decide) i) (by rw [ke.I h.lay (by decide) (by decide) (by decide)]; exact t7) (by rw [ke.I h.lay (by decide) (by decide) (by decide)]; exact cmI.1) (by rw [ke.I h.lay (by decide) (by decide) (by decide)]; exact cmI.2.1) (by rw [ke.I h.lay (by decide) (by decide) (by decide)]; exact cmI.2.2.1) (by rw [ke.I h.lay (by decide) (by decide) (by decide)]; exact hb.2.2.1)
      rcases w5 with ⟨p2, R2, x2, _⟩ | ⟨k2, q2, x2, m2⟩
      · exact absurd xr (fun q => x2.ne q)
      · obtain ⟨rfl, rfl⟩ := xr.uq x2
        refine ⟨nI k - 10, sI T' 1208 (A 60) (nI q), ?_, ?_, fun _ => by simp [vp_updL], ?_⟩
        · rw [w1]
          unfold b_X12_work_89
          rw [r_resE m2, cb_mk, pI_n (by decide), if_neg (by rw [m2.2.2.2.1]; exact nI_nm1 (by have := m2.2.2.2.2; omega))]
        · rw [pI_n (by decide)]; exact w4
        · exact (h.tx ke (w2.wI (by decide)) (by rw [pI_n (by decide), pI_e, pI_e]) (pI_e ..) (by rw [pI_n (by decide)]; exact w3)).jj
  · unfold m_X12_work
    have e0 : pI (sI (badS A S) 1200 (A 60) 0) 1202 (A 60) = nI tp := by rw [pI_n (by decide), pI_n (by decide)]; exact t7
    rw [e0]
    have fin : b_X12_work_29 n (A 60) y (A 60) (sI (badS A S) 1200 (A 60) 0) = some (0, badM A 1 (st0 (badS A S) (A 60))) := by
      unfold b_X12_work_29 b_X12_work_30
      rw [jg_bad h (by decide), cb_mk, if00]
    by_cases q1 : y < 0
    · rw [if_pos q1, fin]
    · rw [if_neg q1]
      by_cases q2 : nI tp < y
      · rw [if_pos q2, fin]
      · rw [if_neg q2]
        by_cases q3 : (150 : Int32) < y
        · rw [if_pos q3, fin]
        · exact absurd ⟨⟨Int32.not_lt.mp q1, Int32.not_lt.mp q3⟩, Int32.not_lt.mp q2⟩ hc
