section
variable {A : Nat → Nat} {n : Nat} {S T : pq_S} {g : GH} {st : Nat → Int32}
theorem r_ra (h : RV g A T st) {k : Nat} {v : Int32} (hk : k < 50) : (pA T (A 81) k) = st k := h.2.2.2.2 k hk
theorem d_dig {m k : Nat} (hn : 20000 ≤ n) (hx : XV g A S st) (hr : RV g A T st) (hlS : LW g S A) (hlT : LW g T A) (hm : m < gM g) (hk : k ≤ 9) : DO A g S T (m_X7_digShafts n (A 3) (nI m) (nI k) S) (m_X12_digsNow n (A 60) (nI k) (nI m) T) := by
  have hg := hx.2.1
  have hb := hg.b
  have hs := hx.2.2.1
  obtain ⟨lf, l9, el⟩ := hs.2.2.2 m hm
  have hw0 := hg.m0 hm
  have e0 : m_X9_at n (A 18) (nI m) 0 S = some (nI lf, S) := by
    have := hx.so (n := n) hm (c := 0) (by decide)
    rw [show 42 + 3 * 0 + m = 42 + m by omega, el] at this
    exact this
  unfold m_X7_digShafts m_X12_digsNow
  rw [hx.1.r3_701, ob_mk, hx.1.r13_802, ob_mk, e0, cb_mk, hx.1.r3_701, ob_mk, show pI S 803 (A 13) = st 48 from hx.2.2.2.2.1.2.2.2.1, xv_isMineOpen hx hm, cb_mk, rv_isOpenMine hr hm, cb_mk, hr.1.r60_1247, ob_mk, hr.1.n81, show (42 : Int32) + nI m = nI (42 + m) from nI_add _ _, ck_pos (ix_nI (by omega) (by decide)), nI_clamp (by omega), hr.2.2.2.2 _ (by omega), el]
  by_cases ho : st 48 - st 48 / 12 * 12 < nI (gmi g (3 * m + 2))
  · rw [if_pos ho, if00, if00]
    exact ⟨0, S, T, st, rfl, rfl, hx, hr, FX.rf _ _ _ _ _, FX.rf _ _ _ _ _, Or.inl rfl⟩
  · rw [if_neg ho, if10, if10]
    by_cases h0 : lf = 0
    · rw [if_pos (show nI lf = 0 by rw [h0]; rfl), if_pos (show nI lf = 0 by rw [h0]; rfl)]
      exact ⟨0, S, T, st, rfl, rfl, hx, hr, FX.rf _ _ _ _ _, FX.rf _ _ _ _ _, Or.inl rfl⟩
    · rw [if_neg (nI_ne0 (by omega) (by omega)), if_neg (nI_ne0 (by omega) (by omega))]
      obtain ⟨S1, y1, y2⟩ := xv_dig (n := n) (mo := st 48) hx.1 hlS (by omega) (show k < 2 ^ 31 by omega) (show lf < 2 ^ 31 by omega)
      obtain ⟨T1, w1, w2⟩ := rv_dig (n := n) hr hlT (by omega) hm (show k < 2 ^ 31 by omega) (show lf < 2 ^ 31 by omega) el
      have hout : dgF g (st 48) k lf ≤ lf := dg_le (by omega)
      generalize dgF g (st 48) k lf = out at *
      have x1 := y2.xv hx
      have r1 := w2.rv hr
      obtain ⟨hG, hG9, eG⟩ := hs.1 (gmi g (3 * m)) hw0
      have sbA : SB g (stu st 49 (st 49 - nI k * nI (gSh g))) := hs.u hg (fun q => by omega) (fun q => by omega) (fun q => by omega)
      have xA := x1.wm (f := 804) (k := 49) (Or.inr ⟨rfl, rfl⟩) sbA
      have rA := r1.w sbA
      have eA : stu st 49 (st 49 - nI k * nI (gSh g)) (42 + 3 * 0 + m) = nI lf := by rw [stu_ne (by omega)]; exact el
      have sbB : SB g (stu (stu st 49 (st 49 - nI k * nI (gSh g))) (42 + 3 * 0 + m) (nI (lf - out))) := sbA.u hg (fun q => by omega) (fun q => by omega) (fun _ _ => ⟨_, by omega, rfl⟩)
      have xB := xA.ws hm (c := 0) (by decide) sbB
      have rB := rA.w sbB
      have sbC : SB g (stu (stu (stu st 49 (st 49 - nI k * nI (gSh g))) (42 + 3 * 0 + m) (nI (lf - out))) (42 + 3 * 1 + m) (st (45 + m) + nI out)) := sbB.u hg (fun q => by omega) (fun q => by omega) (fun q q2 => by omega)
      have xC := xB.ws hm (c := 1) (by decide) sbC
      have rC := rB.w sbC
      have eC : stu (stu (stu st 49 (st 49 - nI k * nI (gSh g))) (42 + 3 * 0 + m) (nI (lf - out))) (42 + 3 * 1 + m) (st (45 + m) + nI out) (6 * 0 + gmi g (3 * m)) = nI hG := by rw [stu_ne (by omega), stu_ne (by omega), stu_ne (by omega), show 6 * 0 + gmi g (3 * m) = gmi g (3 * m) by omega]; exact eG
      have sbD : SB g (stu (stu (stu (stu st 49 (st 49 - nI k * nI (gSh g))) (42 + 3 * 0 + m) (nI (lf - out))) (42 + 3 * 1 + m) (st (45 + m) + nI out)) (6 * 0 + gmi g (3 * m)) (nI (mn9 (hG + out)))) := sbC.u hg (fun _ => ⟨_, mn9_le _, rfl⟩) (fun q => by omega) (fun q => by omega)
      have xD := xC.wh hw0 (c := 0) (by decide) sbD
      have rD := rC.w sbD
      have a1 : m_X9_add n (A 18) (nI m) 0 (-nI out) (sI S1 804 (A 13) (st 49 - nI k * nI (gSh g))) = some (sA (sI S1 804 (A 13) (st 49 - nI k * nI (gSh g))) (A 19) (2 * m + 0) (nI (lf - out))) := by
        have := x_adds (n := n) (d := -nI out) xA hm (c := 0) (by decide)
        rw [eA, nI_negadd hout] at this
        exact this
      have a2 : m_X9_add n (A 18) (nI m) 1 (nI out) (sA (sI S1 804 (A 13) (st 49 - nI k * nI (gSh g))) (A 19) (2 * m + 0) (nI (lf - out))) = some (sA (sA (sI S1 804 (A 13) (st 49 - nI k * nI (gSh g))) (A 19) (2 * m + 0) (nI (lf - out))) (A 19) (2 * m + 1) (st (45 + m) + nI out)) := by
        have := x_adds (n := n) (d := nI out) xB hm (c := 1) (by decide)
        rw [stu_ne (by omega), stu_ne (by omega), show 42 + 3 * 1 + m = 45 + m by omega] at this
        exact this
      have a3 : m_X9_at n (A 9) (nI m) 0 (sA (sA (sI S1 804 (A 13) (st 49 - nI k * nI (gSh g))) (A 19) (2 * m + 0) (nI (lf - out))) (A 19) (2 * m + 1) (st (45 + m) + nI out)) = some (nI (gmi g (3 * m)), sA (sA (sI S1 804 (A 13) (st 49 - nI k * nI (gSh g))) (A 19) (2 * m + 0) (nI (lf - out))) (A 19) (2 * m + 1) (st (45 + m) + nI out)) := xC.mi hm (c := 0) (by decide)
      have a4 := x_bring (n := n) xC hw0 (c := 0) (by decide) eC hG9 (show out ≤ 100000 by omega)
      have p8 : pI S1 804 (A 13) = st 49 := x1.2.2.2.2.1.2.2.2.2
      have p5 : pI S1 105 (A 4) = nI (gSh g) := x1.2.2.2.1.1.2.2.2.2.2
      refine ⟨1, _, _, _, ?_, ?_, xD, rD, ((((y2.fx.wP (by decide)).wA (by decide)).wA (by decide)).wA (by decide)), ((((w2.fx.wA (by decide)).wA (by decide)).wA (by decide)).wA (by decide)), Or.inr rfl⟩
      · rw [hx.1.r3_701, ob_mk, show pI S 803 (A 13) = st 48 from hx.2.2.2.2.1.2.2.2.1, y1, cb_mk, x1.1.r3_701, ob_mk, x1.1.r3_700, ob_mk, p8, p5, xA.1.r3_701, ob_mk, xA.1.r13_802, ob_mk, a1, ob_mk, xB.1.r3_701, ob_mk, xB.1.r13_802, ob_mk, a2, ob_mk, xC.1.r3_701, ob_mk, xC.1.r3_700, ob_mk, xC.1.r4_102, ob_mk, a3, cb_mk, show m_X8_bring n (A 13) (nI (gmi g (3 * m))) 0 (nI out) _ = _ from a4, ob_mk]
      · have q1 : pI T1 1229 (A 60) = nI (gSh g) := r1.2.2.2.1.1.2.2.2.2.2
        rw [w1, cb_mk, r1.1.r60_1247, ob_mk, r1.1.n81, ck_pos (show ix 49 50 from ix_nI (k := 49) (by decide) (by decide)), ck_pos (show ix 49 50 from ix_nI (k := 49) (by decide) (by decide)), lt_mk, show Int32.toNatClampNeg 49 = 49 from rfl, r1.2.2.2.2 49 (by decide), q1, Int32.mul_comm (nI (gSh g)) (nI k), rA.1.r60_1247, ob_mk, rA.1.n81, show 42 + m = 42 + 3 * 0 + m by omega, ck_pos (ix_nI (by omega) (by decide)), ck_pos (ix_nI (by omega) (by decide)), lt_mk, rA.2.2.2.2 _ (by omega), eA, nI_sub' hout, rB.1.r60_1247, ob_mk, rB.1.n81, show (45 : Int32) + nI m = nI (42 + 3 * 1 + m) from by rw [show (45 : Int32) = nI 45 from rfl, nI_add, show 45 + m = 42 + 3 * 1 + m by omega], ck_pos (ix_nI (by omega) (by decide)), ck_pos (ix_nI (by omega) (by decide)), lt_mk, nI_clamp (by omega), rB.2.2.2.2 _ (by omega), stu_ne (by omega), stu_ne (by omega), show st (42 + 3 * 1 + m) = st (45 + m) by rw [show 42 + 3 * 1 + m = 45 + m by omega], rC.1.r60_1216, ob_mk, rC.1.n69, show (3 : Int32) * nI m = nI (3 * m) from nI_mulp 3 m, ck_pos (ix_nI (by omega) (by decide)), nI_clamp (by omega), rC.2.2.2.1.2.2.2.1 (3 * m) (by omega), z0n]
        rw [show gmi g (3 * m) = 6 * 0 + gmi g (3 * m) by omega, r_addk rC (by omega) eC hG9 (by omega), ob_mk, show 6 * 0 + (6 * 0 + gmi g (3 * m)) = 6 * 0 + gmi g (3 * m) by omega]
theorem d_sell {i : Nat} (hx : XV g A S st) (hr : RV g A T st) (hi : i < gW g) : DO A g S T (m_X7_sellWant n (A 3) (nI i) S) (m_X12_sells n (A 60) (nI i) T) := by
  have hg := hx.2.1
  have hb := hg.b
  have hs := hx.2.2.1
  have hp := hg.w0 hi
  have hL := hg.w1 hi
  have hA2 := hg.w2 hi
  obtain ⟨G, G9, eG⟩ := hs.1 (gwa g (4 * i)) hp
  obtain ⟨Wt, W9, eW⟩ := hs.2.1 (gwa g (4 * i)) hp
  have nG : nS st (gwa g (4 * i)) = G := nS_of (by omega) eG
  have nW : nS st (6 + gwa g (4 * i)) = Wt := nS_of (by omega) eW
  unfold m_X7_sellWant m_X12_sells
  rw [xv_sa hx hi, cb_mk, rv_sa hr hi, cb_mk]
  by_cases hsa : st (18 + i) = nI 1 ∧ gwa g (4 * i + 1) ≤ nS st (gwa g (4 * i)) + (if gwa g (4 * i + 2) = 1 then 0 else nS st (6 + gwa g (4 * i)))
  · rw [show saF g st i = 1 from if_pos hsa, if_neg (show ¬ nI 1 = 0 by decide), if_neg (show ¬ nI 1 = 0 by decide)]
    -- what is taken of the watered
    obtain ⟨wt, hwt⟩ : ∃ wt, wt = if gwa g (4 * i + 2) = 1 then 0 else (if Wt ≤ gwa g (4 * i + 1) then Wt else gwa g (4 * i + 1)) := ⟨_, rfl⟩
    have w1 : wt ≤ Wt ∧ wt ≤ gwa g (4 * i + 1) ∧ gwa g (4 * i + 1) - wt ≤ G := by
      have h2 := hsa.2
      rw [nG, nW] at h2
      rw [hwt]
      by_cases c : gwa g (4 * i + 2) = 1
      · rw [if_pos c] at h2 ⊢; omega
      · rw [if_neg c] at h2 ⊢
        split <;> omega
    have sbA : SB g (stu st (6 * 1 + gwa g (4 * i)) (nI (Wt - wt))) := hs.u hg (fun _ => ⟨_, by omega, rfl⟩) (fun q => by omega) (fun q => by omega)
    have xA := hx.wh hp (c := 1) (by decide) sbA
    have rA := hr.w sbA
    have eA : stu st (6 * 1 + gwa g (4 * i)) (nI (Wt - wt)) (6 * 0 + gwa g (4 * i)) = nI G := by rw [stu_ne (by omega), show 6 * 0 + gwa g (4 * i) = gwa g (4 * i) by omega]; exact eG
    have sbB : SB g (stu (stu st (6 * 1 + gwa g (4 * i)) (nI (Wt - wt))) (6 * 0 + gwa g (4 * i)) (nI (G - (gwa g (4 * i + 1) - wt)))) := sbA.u hg (fun _ => ⟨_, by omega, rfl⟩) (fun q => by omega) (fun q => by omega)
    have xB := xA.wh hp (c := 0) (by decide) sbB
    have rB := rA.w sbB
    have eB : stu (stu st (6 * 1 + gwa g (4 * i)) (nI (Wt - wt))) (6 * 0 + gwa g (4 * i)) (nI (G - (gwa g (4 * i + 1) - wt))) 49 = st 49 := by rw [stu_ne (by omega), stu_ne (by omega)]
    have sbC : SB g (stu (stu (stu st (6 * 1 + gwa g (4 * i)) (nI (Wt - wt))) (6 * 0 + gwa g (4 * i)) (nI (G - (gwa g (4 * i + 1) - wt)))) 49 (st 49 + nI (gwa g (4 * i + 3)))) := sbB.u hg (fun q => by omega) (fun q => by omega) (fun q => by omega)
    have xC := xB.wm (f := 804) (k := 49) (Or.inr ⟨rfl, rfl⟩) sbC
    have rC := rB.w sbC
    have sbD : SB g (stu (stu (stu (stu st (6 * 1 + gwa g (4 * i)) (nI (Wt - wt))) (6 * 0 + gwa g (4 * i)) (nI (G - (gwa g (4 * i + 1) - wt)))) 49 (st 49 + nI (gwa g (4 * i + 3)))) (18 + 12 * 0 + i) 0) := sbC.u hg (fun q => by omega) (fun _ _ => Or.inl rfl) (fun q => by omega)
    have xD := xC.ww hi (c := 0) (by decide) sbD
    have rD := rC.w sbD
    have eD : stu (stu (stu (stu st (6 * 1 + gwa g (4 * i)) (nI (Wt - wt))) (6 * 0 + gwa g (4 * i)) (nI (G - (gwa g (4 * i + 1) - wt)))) 49 (st 49 + nI (gwa g (4 * i + 3)))) (18 + 12 * 0 + i) 0 (18 + 12 * 1 + i) = st (30 + i) := by rw [stu_ne (by omega), stu_ne (by omega), stu_ne (by omega), stu_ne (by omega), show 18 + 12 * 1 + i = 30 + i by omega]
    have sbE : SB g (stu (stu (stu (stu (stu st (6 * 1 + gwa g (4 * i)) (nI (Wt - wt))) (6 * 0 + gwa g (4 * i)) (nI (G - (gwa g (4 * i + 1) - wt)))) 49 (st 49 + nI (gwa g (4 * i + 3)))) (18 + 12 * 0 + i) 0) (18 + 12 * 1 + i) (st (30 + i) + 1)) := sbD.u hg (fun q => by omega) (fun q q2 => by omega) (fun q => by omega)
    have xE := xD.ww hi (c := 1) (by decide) sbE
    have rE := rD.w sbE
    -- the class
    have c72 : b_X7_sellWant_72 n (A 3) (nI i) (nI (gwa g (4 * i))) (nI (gwa g (4 * i + 1))) (nI wt) S = some (1, sA (sA (sI (sA (sA S (A 15) (3 * gwa g (4 * i) + 1) (nI (Wt - wt))) (A 15) (3 * gwa g (4 * i) + 0) (nI (G - (gwa g (4 * i + 1) - wt)))) 804 (A 13) (st 49 + nI (gwa g (4 * i + 3)))) (A 17) (2 * i + 0) 0) (A 17) (2 * i + 1) (st (30 + i) + 1)) := by
      have a1 : m_X9_add n (A 14) (nI (gwa g (4 * i))) 1 (-nI wt) S = some (sA S (A 15) (3 * gwa g (4 * i) + 1) (nI (Wt - wt))) := by
        have := x_addh (n := n) (d := -nI wt) hx hp (c := 1) (by decide)
        rw [show 6 * 1 + gwa g (4 * i) = 6 + gwa g (4 * i) by omega, eW, nI_negadd w1.1] at this
        exact this
      have a2 : m_X9_add n (A 14) (nI (gwa g (4 * i))) 0 (nI wt - nI (gwa g (4 * i + 1))) (sA S (A 15) (3 * gwa g (4 * i) + 1) (nI (Wt - wt))) = some (sA (sA S (A 15) (3 * gwa g (4 * i) + 1) (nI (Wt - wt))) (A 15) (3 * gwa g (4 * i) + 0) (nI (G - (gwa g (4 * i + 1) - wt)))) := by
        have := x_addh (n := n) (d := nI wt - nI (gwa g (4 * i + 1))) xA hp (c := 0) (by decide)
        rw [eA, show nI G + (nI wt - nI (gwa g (4 * i + 1))) = nI (G - (gwa g (4 * i + 1) - wt)) from by
          rw [Int32.sub_eq_add_neg, ← Int32.add_assoc, nI_add, nI_negadd (by omega), show G + wt - gwa g (4 * i + 1) = G - (gwa g (4 * i + 1) - wt) by omega]] at this
        exact this
      have a3 : m_X9_at n (A 7) (nI i) 3 (sA (sA S (A 15) (3 * gwa g (4 * i) + 1) (nI (Wt - wt))) (A 15) (3 * gwa g (4 * i) + 0) (nI (G - (gwa g (4 * i + 1) - wt)))) = some (nI (gwa g (4 * i + 3)), _) := xB.wa hi (c := 3) (by decide)
      have a4 : m_X9_put n (A 16) (nI i) 0 0 (sI (sA (sA S (A 15) (3 * gwa g (4 * i) + 1) (nI (Wt - wt))) (A 15) (3 * gwa g (4 * i) + 0) (nI (G - (gwa g (4 * i + 1) - wt)))) 804 (A 13) (st 49 + nI (gwa g (4 * i + 3)))) = some _ := x_putN (k := 0) (w := 2) xC.1.r16_900 xC.1.n17 xC.1.w16 (by omega) (by decide)
      have a5 := x_addw (n := n) (d := 1) xD hi (c := 1) (by decide)
      rw [eD] at a5
      have p8 : pI (sA (sA S (A 15) (3 * gwa g (4 * i) + 1) (nI (Wt - wt))) (A 15) (3 * gwa g (4 * i) + 0) (nI (G - (gwa g (4 * i + 1) - wt)))) 804 (A 13) = st 49 := xB.2.2.2.2.1.2.2.2.2.trans eB
      unfold b_X7_sellWant_72
      rw [hx.1.r3_701, ob_mk, hx.1.r13_800, ob_mk, a1, ob_mk, xA.1.r3_701, ob_mk, xA.1.r13_800, ob_mk, a2, ob_mk, xB.1.r3_701, ob_mk, xB.1.r3_700, ob_mk, xB.1.r4_101, ob_mk, a3, cb_mk, p8, xC.1.r3_701, ob_mk, xC.1.r13_801, ob_mk, a4, ob_mk, xD.1.r3_701, ob_mk, xD.1.r13_801, ob_mk, show m_X9_add n (A 16) (nI i) 1 1 _ = _ from a5, ob_mk]
    -- the reference
    have r74 : b_X12_sells_74 n (A 60) (nI i) (nI (gwa g (4 * i))) (nI (gwa g (4 * i + 1))) (nI wt) T = some (1, sA (sA (sA (sA (sA T (A 81) (6 * 1 + gwa g (4 * i)) (nI (Wt - wt))) (A 81) (6 * 0 + gwa g (4 * i)) (nI (G - (gwa g (4 * i + 1) - wt)))) (A 81) 49 (st 49 + nI (gwa g (4 * i + 3)))) (A 81) (18 + 12 * 0 + i) 0) (A 81) (18 + 12 * 1 + i) (st (30 + i) + 1)) := by
      unfold b_X12_sells_74
      rw [hr.1.r60_1247, ob_mk, hr.1.n81, show (6 : Int32) + nI (gwa g (4 * i)) = nI (6 * 1 + gwa g (4 * i)) from nI_add _ _, ck_pos (ix_nI (by omega) (by decide)), ck_pos (ix_nI (by omega) (by decide)), lt_mk, nI_clamp (by omega), hr.2.2.2.2 _ (by omega), show st (6 * 1 + gwa g (4 * i)) = nI Wt from eW, nI_sub' w1.1, rA.1.r60_1247, ob_mk, rA.1.n81, show (0 : Int32) + nI (gwa g (4 * i)) = nI (6 * 0 + gwa g (4 * i)) from by rw [z0n, show 6 * 0 + gwa g (4 * i) = gwa g (4 * i) by omega], ck_pos (ix_nI (by omega) (by decide)), ck_pos (ix_nI (by omega) (by decide)), lt_mk, nI_clamp (by omega), rA.2.2.2.2 _ (by omega), eA, nI_sub' w1.2.1, nI_sub' w1.2.2, rB.1.r60_1247, ob_mk, rB.1.n81, ck_pos (show ix 49 50 from ix_nI (k := 49) (by decide) (by decide)), rB.1.r60_1215, ob_mk, rB.1.n68, show (4 : Int32) * nI i = nI (4 * i) from nI_mulp 4 i, show nI (4 * i) + (3 : Int32) = nI (4 * i + 3) from nI_add _ _, ck_pos (ix_nI (by omega) (by decide)), ck_pos (show ix 49 50 from ix_nI (k := 49) (by decide) (by decide)), lt_mk, show Int32.toNatClampNeg 49 = 49 from rfl, nI_clamp (by omega), rB.2.2.2.2 49 (by decide), eB, rB.2.2.2.1.2.2.1 (4 * i + 3) (by omega), rC.1.r60_1247, ob_mk, rC.1.n81, show (18 : Int32) + nI i = nI (18 + 12 * 0 + i) from nI_add _ _, ck_pos (ix_nI (by omega) (by decide)), nI_clamp (by omega), rD.1.r60_1247, ob_mk, rD.1.n81, show (30 : Int32) + nI i = nI (18 + 12 * 1 + i) from nI_add _ _, ck_pos (ix_nI (by omega) (by decide)), ck_pos (ix_nI (by omega) (by decide)), lt_mk, nI_clamp (by omega), rD.2.2.2.2 _ (by omega), eD]
    have k0 : m_X9_at n (A 7) (nI i) 0 S = some (nI (gwa g (4 * i)), S) := hx.wa hi (c := 0) (by decide)
    have k1 : m_X9_at n (A 7) (nI i) 1 S = some (nI (gwa g (4 * i + 1)), S) := hx.wa hi (c := 1) (by decide)
    have k2 : m_X9_at n (A 7) (nI i) 2 S = some (nI (gwa g (4 * i + 2)), S) := hx.wa hi (c := 2) (by decide)
    have k3 : m_X9_at n (A 14) (nI (gwa g (4 * i))) 1 S = some (nI Wt, S) := by
      have := hx.ho (n := n) hp (c := 1) (by decide)
      rw [show 6 * 1 + gwa g (4 * i) = 6 + gwa g (4 * i) by omega, eW] at this
      exact this
    refine ⟨1, _, _, _, ?_, ?_, xE, rE, (((((FX.rf _ _ _ _ _).wA (by decide)).wA (by decide)).wP (by decide)).wA (by decide)).wA (by decide), (((((FX.rf _ _ _ _ _).wA (by decide)).wA (by decide)).wA (by decide)).wA (by decide)).wA (by decide), Or.inr rfl⟩
    · rw [hx.1.r3_700, ob_mk, hx.1.r4_101, ob_mk, k0, cb_mk, hx.1.r3_700, ob_mk, hx.1.r4_101, ob_mk, k1, cb_mk, hx.1.r3_700, ob_mk, hx.1.r4_101, ob_mk, k2, cb_mk, hx.1.r3_701, ob_mk, hx.1.r13_800, ob_mk, k3, cb_mk, ← c72]
      by_cases c : gwa g (4 * i + 2) = 1
      · rw [if_pos (show nI (gwa g (4 * i + 2)) = 1 by rw [c]; rfl), hwt, if_pos c]; rfl
      · rw [if_neg (show ¬ nI (gwa g (4 * i + 2)) = 1 from fun q => c ((nI_eq (b := 1) (by omega) (by decide)).mp q)), hwt, if_neg c]
        congr 1
        by_cases c2 : Wt < gwa g (4 * i + 1)
        · rw [if_pos (nI_lt c2 (by omega)), if_pos (by omega)]
        · rw [if_neg (nI_nlt (by omega) (by omega))]
          by_cases c3 : Wt ≤ gwa g (4 * i + 1)
          · rw [if_pos c3, show Wt = gwa g (4 * i + 1) by omega]
          · rw [if_neg c3]
    · rw [hr.1.r60_1215, ob_mk, hr.1.n68, show (4 : Int32) * nI i = nI (4 * i) from nI_mulp 4 i, ck_pos (ix_nI (by omega) (by decide)), lt_mk, nI_clamp (by omega), hr.2.2.2.1.2.2.1 (4 * i) (by omega), ob_mk, hr.1.n68, nI_1, ck_pos (ix_nI (by omega) (by decide)), lt_mk, nI_clamp (by omega), hr.2.2.2.1.2.2.1 (4 * i + 1) (by omega), ob_mk, hr.1.n68, show nI (4 * i) + (2 : Int32) = nI (4 * i + 2) from nI_add _ _, ck_pos (ix_nI (by omega) (by decide)), nI_clamp (by omega), hr.2.2.2.1.2.2.1 (4 * i + 2) (by omega), hr.1.r60_1247, ob_mk, hr.1.n81, show (6 : Int32) + nI (gwa g (4 * i)) = nI (6 + gwa g (4 * i)) from nI_add _ _, ck_pos (ix_nI (by omega) (by decide)), nI_clamp (by omega), hr.2.2.2.2 _ (by omega), eW, ob_mk, hr.1.n81, ck_pos (ix_nI (by omega) (by decide)), hr.2.2.2.2 _ (by omega), eW, ← r74]
      by_cases c : gwa g (4 * i + 2) = 1
      · rw [if_pos (show nI (gwa g (4 * i + 2)) = 1 by rw [c]; rfl), hwt, if_pos c]; rfl
      · rw [if_neg (show ¬ nI (gwa g (4 * i + 2)) = 1 from fun q => c ((nI_eq (b := 1) (by omega) (by decide)).mp q)), hwt, if_neg c]
        by_cases c3 : Wt ≤ gwa g (4 * i + 1)
        · rw [if_pos (nI_le c3 (by omega)), if_pos c3]
        · rw [if_neg (nI_ge (by omega) (by omega)), if_neg c3]
  · rw [show saF g st i = 0 from if_neg hsa, if_pos (show nI 0 = 0 from rfl), if_pos (show nI 0 = 0 from rfl)]
    exact ⟨0, S, T, st, rfl, rfl, hx, hr, FX.rf _ _ _ _ _, FX.rf _ _ _ _ _, Or.inl rfl⟩
end
