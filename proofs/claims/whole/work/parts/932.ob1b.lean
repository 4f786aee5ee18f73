/-- what both hold behind a coast -/
def gC1 (g : GH) : GH := (fun k => if k < 6 then g.1 k else 0, g.2.1, stF g)
/-- the invariant, begun anew -/
theorem jg_new {A : Nat → Nat} {V : Nat → Prop} {g0 g : GH} {S U : pq_S} (h : JG A V g0 S) (hs : pL U = pL S ∧ pK U = pK S ∧ pR U = pR S ∧ pN U = pN S ∧ pQ U = pQ S) (lU : LAY A U) (hg : GB g) (cx : CX g U A) (cm : CM g U A) (sx : STX g U (A 13) (A 14) (A 16) (A 18) (A 15) (A 17) (A 19) (stF g)) (nw : ∀ i, i < 50 → pA U (A 80) i = stF g i) (a20 : pI U 203 (A 20) = 0) (a24 : pI U 203 (A 24) = 0) (c0 : pA U (A 75) 0 = 0) (c1 : pA U (A 75) 1 = 0) (b1 : pI U 1 (A 52) = 0) (b2 : pI U 1251 (A 60) = 0) (b3 : ∀ p, p < 6 → pA U (A 53) p = -1) (tp : TAPE U A) (w1 : pI U 501 (A 56) = 0) (w2 : pI U 1241 (A 60) = 0) (w3 : pI U 1112 (A 0) = 0) (w4 : pI U 1272 (A 60) = 0) (e59 : ∀ i, pA U (A 59) i = pA S (A 59) i) : JG A V (gC1 g) U := by
  have hb := stF_sb hg
  refine ⟨⟨lU, hg, hb, cx, cm, sx, nw⟩, ?_, ?_, tp, ?_⟩
  · intro w hw
    have e : gLn (gC1 g) w = 0 := if_neg (by omega)
    rw [e]
    have : w = 0 ∨ w = 1 := by omega
    rcases this with rfl | rfl
    · exact ⟨by decide, a20, c0, fun k hk => by omega, fun q => absurd rfl q⟩
    · exact ⟨by decide, a24, c1, fun k hk => by omega, fun q => absurd rfl q⟩
  · refine ⟨⟨Nat.zero_le _, (e59 0).trans h.2.2.1.1.2.1, (e59 1).trans h.2.2.1.1.2.2⟩, b1, b2, fun i hi => absurd hi (Nat.not_lt_zero i), fun i j hi => absurd hi (Nat.not_lt_zero i), fun p hp _ => b3 p hp⟩
  · have hs' : HS A V U := h.hi.hs.eqv hs.1 hs.2.1 hs.2.2.1 hs.2.2.2.1 hs.2.2.2.2
    exact hs'.mk (wk := 0) (im := 0) (ps := fun _ _ => 0) (iw := fun _ => 0) (is := fun _ _ _ => 0) ⟨by decide, by decide, w2, w3, w4, ⟨w1, by decide, fun i hi => absurd hi (Nat.not_lt_zero i)⟩, fun i j hi => absurd hi (Nat.not_lt_zero i), fun i hi => absurd hi (Nat.not_lt_zero i)⟩
theorem ob_1 (n xa ma : Nat) (hn : 20000 ≤ n) : OB_1 n xa ma (JJ xa ma) := by
  rintro S f ⟨A, V, g, rfl, rfl, h⟩ y
  have h : JG A V g S := h
  obtain ⟨_, _, _, _, tp, t5, t6, t7, t8⟩ := h.tp
  refine ⟨200, 8000, by decide, by decide, ?_⟩
  unfold wp_X11_coast
  refine ⟨_, _, x_isText h.lay t6 y (nI 600), 1, 6, by decide, by decide, wr_need _ (fun hc => ?_) (fun hc => ⟨rfl, ki_bad h (b := 0) (by decide) ?_⟩)⟩
  · obtain ⟨z, hz, hzt, rfl⟩ := i32_tx y (by decide) (by omega) hc
    obtain ⟨S13, a1, a2, a3⟩ := x_begin (n := n) h t7 t5 hzt
    have l13 := a2.lay h.lay (by decide) (by decide)
    refine ⟨A 1, h.lay.r0_1100, S13, a1, A 39, l13.r0_1105, A 1, l13.r0_1100, ?_⟩
    obtain ⟨T0, b1, b2, b3, _⟩ := r_begin (n := n) (U := S) h t7 t5 hzt h.lay (fun _ => rfl)
    have lT0 := b2.lay h.lay (by decide) (by decide)
    obtain ⟨Sr, e1, hall⟩ := sw_ap (P := fun T => MF A (bts A S) z T 0 ∧ LAY A T) (fun T hT => j_coast (n := n) hn a3 hT.1 l13 hT.2) (T0 := T0) ⟨b3, lT0⟩
    obtain ⟨kr, T0', _, _, hd⟩ := hall T0 ⟨b3, lT0⟩
    have kS : FXx A S Sr := a2.tr kr
    have lr := kS.lay h.lay (by decide) (by decide)
    refine ⟨Sr, e1, ?_⟩
    have ref : ∀ U, LAY A U → (∀ i, pA U (A 62) i = pA S (A 62) i) → pI U 1202 (A 60) = nI tp → ∃ T', m_X12_coast n (A 60) (nI z) U = b_X12_coast_237 n (A 60) T' ∧ FXn A U T' ∧ pI T' 1202 (A 60) = 0 ∧ pI T' 1200 (A 60) = 0 ∧ ((∃ p' g', XF A (bts A S) z Sr p' ∧ MF A (bts A S) z T' p' ∧ CI A g' Sr T') ∨ EE A (bts A S) z Sr T') := by
      intro U lU hU1 hU2
      have k0 : FXn A U (sI U 1200 (A 60) 0) := (FX.rf _ _ _ _ _).wI (by decide)
      obtain ⟨T, d1, d2, d3, d4, d5, d6⟩ := r_begin (n := n) (U := sI U 1200 (A 60) 0) h t7 t5 hzt (k0.lay lU (by decide) (by decide)) hU1
      have lT := (k0.tr d2).lay lU (by decide) (by decide)
      obtain ⟨_, T', w1, w2, w3⟩ := hall T ⟨d3, lT⟩
      refine ⟨T', ?_, (k0.tr d2).tr w2.n, by rw [w2.I lT (by decide) (by decide) (by decide)]; exact d4, by rw [w2.I lT (by decide) (by decide) (by decide), d6, pI_e], w3⟩
      unfold m_X12_coast
      rw [if_neg (nI_pos (by omega)), pI_n (by decide), hU2, if_neg (nI_nlt (by omega) (by omega)), b_X12_coast_23, sp_mayS1, cb_mk, if10, d1, ob_mk]
      exact w1
    rcases hd with ⟨p', g1, xr, _, hC0⟩ | ⟨k, q, xr, _⟩
    · obtain ⟨Se, f1, rfl⟩ := x_end (n := n) xr lr
      refine ⟨_, _, f1, ?_⟩
      rw [if00]
      have ke : FXy A S (sI (sI Sr 1113 (A 0) (-1)) 1001 (A 1) 0) := (kS.y.wI (by decide)).wI (by decide)
      have le := ke.lay h.lay (by decide) (by decide)
      have v1113 : pI (sI (sI Sr 1113 (A 0) (-1)) 1001 (A 1) 0) 1113 (A 0) = -1 := by rw [pI_n (by decide), pI_e]
      have v1001 : pI (sI (sI Sr 1113 (A 0) (-1)) 1001 (A 1) 0) 1001 (A 1) = 0 := pI_e ..
      have cI : ∀ g' T', CI A g' Sr T' → CI A g' (sI (sI Sr 1113 (A 0) (-1)) 1001 (A 1) 0) T' := by
        intro g' T' hC
        unfold CI at hC ⊢
        rw [pI_n (by decide), pI_n (by decide), pI_n (by decide), pI_n (by decide), pI_n (by decide), pI_n (by decide), pI_n (by decide), pI_n (by decide), pI_n (by decide), pI_n (by decide), pI_n (by decide), pI_n (by decide)]
        exact hC
      generalize sI (sI Sr 1113 (A 0) (-1)) 1001 (A 1) 0 = Se at *
      obtain ⟨S28, c1, c2, c3, c4, c5, c6⟩ := x_begin7 (n := n) (g := g1) hn le (cI _ _ hC0)
      have l28 := c2.lay le (by decide) (by decide)
      have cl := x_bclr (n := n) (S := S28) l28 (c := 52) (d := 53) l28.r52_0 l28.n53 hn
      have k32 : FX [501, 1112, 1114] [(1, 52)] [53] A S28 (sI (sI (sI (sF (sI S28 1 (A 52) 0) (A 53) (mixr 6 (fun _ => -1) (pA S28 (A 53)))) 501 (A 56) 0) 1112 (A 0) 0) 1114 (A 0) 0) := (((((FX.rf _ _ _ _ _).wP (by decide)).wF (by decide)).wI (by decide)).wI (by decide)).wI (by decide)
      have l32' : LAY A (sF (sI S28 1 (A 52) 0) (A 53) (mixr 6 (fun _ => -1) (pA S28 (A 53)))) := (((FX.rf [] [(1, 52)] [53] A S28).wP (by decide)).wF (by decide)).lay l28 (by decide) (by decide)
      have x501 : pI (sI (sI (sI (sF (sI S28 1 (A 52) 0) (A 53) (mixr 6 (fun _ => -1) (pA S28 (A 53)))) 501 (A 56) 0) 1112 (A 0) 0) 1114 (A 0) 0) 501 (A 56) = 0 := by rw [pI_n (by decide), pI_n (by decide), pI_e]
      have x1112 : pI (sI (sI (sI (sF (sI S28 1 (A 52) 0) (A 53) (mixr 6 (fun _ => -1) (pA S28 (A 53)))) 501 (A 56) 0) 1112 (A 0) 0) 1114 (A 0) 0) 1112 (A 0) = 0 := by rw [pI_n (by decide), pI_e]
      have x1114 : pI (sI (sI (sI (sF (sI S28 1 (A 52) 0) (A 53) (mixr 6 (fun _ => -1) (pA S28 (A 53)))) 501 (A 56) 0) 1112 (A 0) 0) 1114 (A 0) 0) 1114 (A 0) = 0 := pI_e ..
      have x1 : pI (sI (sI (sI (sF (sI S28 1 (A 52) 0) (A 53) (mixr 6 (fun _ => -1) (pA S28 (A 53)))) 501 (A 56) 0) 1112 (A 0) 0) 1114 (A 0) 0) 1 (A 52) = 0 := by rw [pI_n (by decide), pI_n (by decide), pI_n (by decide), pI_sF, pI_e]
      have x53 : ∀ p, p < 6 → pA (sI (sI (sI (sF (sI S28 1 (A 52) 0) (A 53) (mixr 6 (fun _ => -1) (pA S28 (A 53)))) 501 (A 56) 0) 1112 (A 0) 0) 1114 (A 0) 0) (A 53) p = -1 := fun p hp => by
        rw [pA_sI, pA_sI, pA_sI, pA_sF, if_pos rfl]; unfold mixr; rw [if_pos hp]
      refine ⟨A 3, le.r0_1101, A 39, le.r0_1105, S28, c1, A 52, l28.r0_1107, _, cl, A 56, l32'.r0_1109, ?_⟩
      generalize sI (sI (sI (sF (sI S28 1 (A 52) 0) (A 53) (mixr 6 (fun _ => -1) (pA S28 (A 53)))) 501 (A 56) 0) 1112 (A 0) 0) 1114 (A 0) 0 = Sf at *
      have lf := k32.lay l28 (by decide) (by decide)
      refine ⟨A 3, lf.r0_1101, A 4, lf.r3_700, A 5, lf.r4_100, ?_⟩
      have P5 : pI Sf 902 (A 5) = nI (gP g1) := by rw [k32.I l28 (by decide) (by decide) (by decide)]; exact c3.1.1
      rw [P5]
      -- the reference
      have e62 : ∀ i, pA Sf (A 62) i = pA S (A 62) i := fun i => by rw [k32.W l28 (by decide) (by decide), c2.W le (by decide) (by decide), ke.W h.lay (by decide) (by decide)]
      obtain ⟨T', w1, w2, w3, w4, w5⟩ := ref Sf lf e62 (by rw [k32.I l28 (by decide) (by decide) (by decide), c2.I le (by decide) (by decide) (by decide), ke.I h.lay (by decide) (by decide) (by decide)]; exact t7)
      rcases w5 with ⟨p2, g2, x2, m2, hC2⟩ | ⟨k, q, x2, _⟩
      · have lT := w2.lay lf (by decide) (by decide)
        have kq : FX [1208] [] [] A T' (sI T' 1208 (A 60) (-1)) := (FX.rf _ _ _ _ _).wI (by decide)
        have lq := kq.lay lT (by decide) (by decide)
        obtain ⟨S28', d1, _, c3', c4', _⟩ := x_begin7 (n := n) (g := g2) hn le (cI _ _ hC2)
        rw [c1] at d1
        cases d1
        have eP : nI (gP g1) = nI (gP g2) := hC0.2.1.1.symm.trans hC2.2.1.1
        have hC3 : CI A g2 Sr (sI T' 1208 (A 60) (-1)) := by
          have hq := hC2
          unfold CI at hq ⊢
          rw [pI_n (by decide), pI_n (by decide), pI_n (by decide), pI_n (by decide), pI_n (by decide), pI_n (by decide)]
          exact hq
        obtain ⟨U, u1, u2, u3, u4, ⟨u5, u6, u7, u8⟩, u9, u10⟩ := r_setsA (n := n) (g := g2) hn lq hC3
        have lU := u2.lay lq (by decide) (by decide)
        have kB : FX (fmF2 ++ FsL) [] (fmA ++ AsL) A Sf U := ((w2.mono (F2 := fmF2 ++ FsL) (P2 := []) (A2 := fmA ++ AsL) (by decide) (by decide) (by decide)).tr (kq.mono (by decide) (by decide) (by decide))).tr (u2.mono (by decide) (by decide) (by decide))
        have kAll : FX ([501, 1112, 1114] ++ (fmF2 ++ FsL)) [(1, 52)] ([53] ++ (fmA ++ AsL)) A S28 U := (k32.mono (by decide) (by decide) (by decide)).tr (kB.mono (by decide) (by decide) (by decide))
        have uw : pI U 1200 (A 60) = 0 := by rw [u2.I lq (by decide) (by decide) (by decide), pI_n (by decide)]; exact w4
        refine ⟨nI (gP g2), U, ?_, uw, fun _ => by rw [eP]; simp [vp_updL], ?_⟩
        · rw [w1]
          unfold b_X12_coast_237
          rw [r_res m2, cb_mk, pI_n (by decide), m2.2.2.2, if_pos rfl, u1, ob_mk, hC2.2.2.1.1]
        · have hG : JG A V (gC1 g2) U := by
            refine jg_new h ?_ lU hC2.1 (c3'.cg (fun e he => ?_) (fun c hc i => ?_)) u3 (c4'.cg ?_ ?_ ?_ ?_ ?_ (fun i => ?_) (fun i => ?_) (fun i => ?_)) u4 ?_ ?_ u9 u10 ?_ u5 (fun p hp => ?_) ?_ ?_ u6 ?_ u7 (fun i => by rw [kAll.W l28 (by decide) (by decide), c2.W le (by decide) (by decide), ke.W h.lay (by decide) (by decide)])
            · refine ⟨?_, ?_, ?_, ?_, ?_⟩
              · rw [kAll.1.1, c2.1.1, ke.1.1]
              · rw [kAll.1.2.1, c2.1.2.1, ke.1.2.1]
              · rw [kAll.1.2.2.1, c2.1.2.2.1, ke.1.2.2.1]
              · rw [kAll.1.2.2.2.1, c2.1.2.2.2.1, ke.1.2.2.2.1]
              · rw [kAll.1.2.2.2.2, c2.1.2.2.2.2, ke.1.2.2.2.2]
            · have : e.1 ∉ [501, 1112, 1114] ++ (fmF2 ++ FsL) ∧ e.2 < 92 ∧ ∀ x ∈ [(1, 52)], x.2 < 92 ∧ (e.1 = x.1 → e.2 ≠ x.2) := by revert e; decide
              exact kAll.I l28 this.1 this.2.1 this.2.2
            · have : c < 92 ∧ ∀ j ∈ [53] ++ (fmA ++ AsL), j < 92 ∧ c ≠ j := by revert c; decide
              exact kAll.W l28 this.1 this.2 i
            · exact kAll.I l28 (by decide) (by decide) (by decide)
            · exact kAll.I l28 (by decide) (by decide) (by decide)
            · exact kAll.I l28 (by decide) (by decide) (by decide)
            · exact kAll.I l28 (by decide) (by decide) (by decide)
            · exact kAll.I l28 (by decide) (by decide) (by decide)
            · exact kAll.W l28 (by decide) (by decide) i
            · exact kAll.W l28 (by decide) (by decide) i
            · exact kAll.W l28 (by decide) (by decide) i
            · rw [kAll.I l28 (by decide) (by decide) (by decide)]; exact c5
            · rw [kAll.I l28 (by decide) (by decide) (by decide)]; exact c6
            · rw [kB.I lf (by decide) (by decide) (by decide)]; exact x1
            · rw [kB.W lf (by decide) (by decide)]; exact x53 p hp
            · refine tape0 h.tp ?_ ?_ ?_ (fun i => ?_) ?_ ?_ ?_
              · rw [kAll.I l28 (by decide) (by decide) (by decide), c2.I le (by decide) (by decide) (by decide), v1113, u2.I lq (by decide) (by decide) (by decide), pI_e]
              · rw [kAll.I l28 (by decide) (by decide) (by decide), c2.I le (by decide) (by decide) (by decide), ke.I h.lay (by decide) (by decide) (by decide)]
              · rw [kAll.I l28 (by decide) (by decide) (by decide), c2.I le (by decide) (by decide) (by decide), ke.I h.lay (by decide) (by decide) (by decide)]
              · rw [kAll.W l28 (by decide) (by decide), c2.W le (by decide) (by decide), ke.W h.lay (by decide) (by decide)]
              · rw [kB.I lf (by decide) (by decide) (by decide), x1114, u8]
              · rw [kAll.I l28 (by decide) (by decide) (by decide), c2.I le (by decide) (by decide) (by decide), v1001]
              · rw [u2.I lq (by decide) (by decide) (by decide), pI_n (by decide)]; exact w3
            · rw [kB.I lf (by decide) (by decide) (by decide)]; exact x501
            · rw [kB.I lf (by decide) (by decide) (by decide)]; exact x1112
          exact hG.jj
      · exact absurd x2 (fun q => xr.ne q)
    · obtain ⟨Se, f1, rfl⟩ := x_endE (n := n) xr lr
      refine ⟨_, _, f1, ?_⟩
      rw [if_neg (kd_ne xr.2.2.2.2.1 xr.2.2.2.2.2.1)]
      have ke : FXy A S (sI (sI Sr 1113 (A 0) (nI q)) 1001 (A 1) 0) := (kS.y.wI (by decide)).wI (by decide)
      have le := ke.lay h.lay (by decide) (by decide)
      obtain ⟨T', w1, w2, w3, w4, w5⟩ := ref _ le (fun i => ke.W h.lay (by decide) (by decide) i) (by rw [ke.I h.lay (by decide) (by decide) (by decide)]; exact t7)
      rcases w5 with ⟨p2, _, x2, _⟩ | ⟨k2, q2, x2, m2⟩
      · exact absurd xr (fun q => x2.ne q)
      · obtain ⟨rfl, rfl⟩ := xr.uq x2
        refine ⟨nI k - 10, sI T' 1208 (A 60) (nI q), ?_, ?_, fun _ => by simp [vp_updL], ?_⟩
        · rw [w1]
          unfold b_X12_coast_237
          rw [r_resE m2, cb_mk, pI_n (by decide), if_neg (by rw [m2.2.2.2.1]; exact nI_nm1 (by have := m2.2.2.2.2; omega))]
        · rw [pI_n (by decide)]; exact w4
        · exact (h.tx ke (w2.wI (by decide)) (by rw [pI_n (by decide), pI_e, pI_e]) (pI_e ..) (by rw [pI_n (by decide)]; exact w3)).jj
  · unfold m_X12_coast
    have e0 : pI (sI (badS A S) 1200 (A 60) 0) 1202 (A 60) = nI tp := by rw [pI_n (by decide), pI_n (by decide)]; exact t7
    rw [e0]
    have fin : b_X12_coast_22 n (A 60) y (A 60) (sI (badS A S) 1200 (A 60) 0) = some (0, badM A 1 (st0 (badS A S) (A 60))) := by
      unfold b_X12_coast_22 b_X12_coast_23
      rw [jg_bad h (by decide), cb_mk, if00]
    by_cases q1 : y < 0
    · rw [if_pos q1, fin]
    · rw [if_neg q1]
      by_cases q2 : nI tp < y
      · rw [if_pos q2, fin]
      · exact absurd ⟨⟨Int32.not_lt.mp q1, Int32.le_trans (Int32.not_lt.mp q2) (nI_le (by omega) (by decide))⟩, Int32.not_lt.mp q2⟩ hc
