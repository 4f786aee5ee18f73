/-! coast: the loop over clauses -/
section
variable {A b : Nat → Nat} {z n : Nat} {S T : pq_S} {g : GH}
theorem xe_rd40 {k q f : Nat} {x : Int32} (h : XE A b z S k q) (hn : 20000 ≤ n) : ∃ S', b_X1_read_40 n (f + 1) (A 39) (A 1) x S = some S' ∧ TT 1003 1006 S S' ∧ XE A b z S' k q := by
  rw [b_X1_read_40]
  by_cases h1 : (600 : Int32) < x
  · rw [if_pos h1]; exact ⟨S, rfl, TT.rf _ _ _, h⟩
  · obtain ⟨S1, a1, a2, a3⟩ := x_nextE (n := n) h hn
    rw [if_neg h1, a1, cb_mk, if_pos rfl]
    exact ⟨S1, rfl, a2, a3⟩
theorem co_loop (hn : 20000 ≤ n) : ∀ (w p f f' cl : Nat) (S T : pq_S) (g : GH), z - p ≤ w → w < f → w + 1 < f' → cl ≤ 60 → XF A b z S p → MF A b z T p → LAY A S → LAY A T → CI A g S T → ∃ S', b_X1_read_40 n f (A 39) (A 1) (nI cl) S = some S' ∧ FXx A S S' ∧ ∃ T', b_X12_coast_44 n f' (A 60) (nI cl) T = b_X12_coast_237 n (A 60) T' ∧ FXm A T T' ∧ ((∃ p' g', XF A b z S' p' ∧ MF A b z T' p' ∧ CI A g' S' T') ∨ EE A b z S' T') := by
  intro w
  induction w with
  | zero =>
    intro p f f' cl S T g h1 h2 h3 h4 hx hm lS lT hC
    obtain ⟨f, rfl⟩ : ∃ g, f = g + 1 := ⟨f - 1, by omega⟩
    obtain ⟨f', rfl⟩ : ∃ g, f' = g + 1 := ⟨f' - 1, by omega⟩
    have hpz := hx.2.1
    have e := sk_fix b (z := z) (p := p) (fun q => by omega)
    obtain ⟨S1, a1, a2, a3⟩ := x_next (n := n) hx hn
    obtain ⟨T1, c1, c2, c3⟩ := r_here (n := n) hm hn
    rw [e] at a1 a3 c1 c3
    rw [b_X1_read_40, if_neg (show ¬ (600 : Int32) < nI cl from nI_nlt (a := 600) (by omega) (by decide)), a1, cb_mk, show xv8 b z p = -1 from if_neg (by omega), if_pos rfl]
    refine ⟨S1, rfl, a2.x, T1, ?_, c2.m, Or.inl ⟨p, g, a3, c3, hC.tt a2 c2⟩⟩
    have hz := hx.1.2.2.2.1
    rw [b_X12_coast_44, r_fine hm, cb_mk, if10, m_X12_isMore, c1, cb_mk, c3.1.2.2.1, c3.2.2.1, if_pos (nI_le (by omega) (by omega)), cb_mk, if00]
  | succ w ih =>
    intro p f f' cl S T g h1 h2 h3 h4 hx hm lS lT hC
    obtain ⟨f, rfl⟩ : ∃ g, f = g + 1 := ⟨f - 1, by omega⟩
    obtain ⟨f', rfl⟩ : ∃ g, f' = g + 1 + 1 := ⟨f' - 2, by omega⟩
    have hpz := hx.2.1
    have hz := hx.1.2.2.2.1
    have hqz := sk_le b hx.2.1
    have hqg := sk_ge b z p
    have hss := sk_sk b z p
    obtain ⟨S1, a1, a2, a3⟩ := x_next (n := n) hx hn
    obtain ⟨T1, c1, c2, c3⟩ := r_here (n := n) hm hn
    rw [b_X1_read_40, if_neg (show ¬ (600 : Int32) < nI cl from nI_nlt (a := 600) (by omega) (by decide)), a1, cb_mk]
    by_cases hq : sk b z p < z
    · have hb8 := hx.1.b8 hq
      rw [show xv8 b z (sk b z p) = nI (b (sk b z p)) from if_pos hq, if_neg (nI_nm1 (by omega))]
      have e68 : (if nI cl < (60 : Int32) then b_X1_read_68 n (b_X1_read_40 n f) (A 39) (A 1) (nI cl) (A 39) (A 1) 0 S1 else b_X1_read_68 n (b_X1_read_40 n f) (A 39) (A 1) (nI cl) (A 39) (A 1) 1 S1) = b_X1_read_68 n (b_X1_read_40 n f) (A 39) (A 1) (nI cl) (A 39) (A 1) (tmc cl) S1 := by
        by_cases c : cl < 60
        · rw [if_pos (show nI cl < (60 : Int32) from nI_lt (b := 60) c (by decide)), tmc_0 c]
        · rw [if_neg (show ¬ nI cl < (60 : Int32) from nI_nlt (b := 60) (by omega) (by omega)), show tmc cl = 1 from if_neg c]
      rw [e68]
      unfold b_X1_read_68
      obtain ⟨S2, T2, q, e, eq1, ee, w1, w2, w3, w4, w5, w6, w7, w8, w9, w10⟩ := j_word (n := n) a3 c3 hn
      rw [hss] at eq1
      subst eq1
      have lS2 := (lS.tt a2 (by decide)).tt w3 (by decide)
      have lT2 := (lT.tt c2 (by decide)).tt w4 (by decide)
      have hC2 := (hC.tt a2 c2).tt w3 w4
      have kx : FXx A S S2 := a2.x.tr w3.x
      have km : FXm A T T2 := c2.m.tr w4.m
      have ref44 : b_X12_coast_44 n (f' + 1 + 1) (A 60) (nI cl) T = refK n A (b_X12_coast_44 n (f' + 1)) (nI cl) (nI (wdV b (sk b z p) e)) T2 := by
        rw [b_X12_coast_44, r_fine hm, cb_mk, if10, m_X12_isMore, c1, cb_mk, c3.1.2.2.1, c3.2.2.1, if_neg (nI_ge hq (by omega)), cb_mk, if10, w2, cb_mk]
        rfl
      rw [ref44]
      have main : ∃ S3 T3, m_X1_readClause n (A 39) (A 1) (tmc cl) S1 = some S3 ∧ FXx A S2 S3 ∧ FXm A T2 T3 ∧ LAY A S3 ∧ LAY A T3 ∧ OC A b z n f' cl (sk b z p) (nI (wdV b (sk b z p) e)) S3 T2 T3 := by
        rcases w10 with ⟨v1, x2, v3⟩ | ⟨v1, x2, v3⟩
        · have cc : m_X1_readClause n (A 39) (A 1) (tmc cl) S1 = clsK n A (tmc cl) S2 := by
            unfold m_X1_readClause
            rw [w1, ob_mk, x_well x2, cb_mk, if10]
            rfl
          rw [cc]
          by_cases k0 : wm b (sk b z p) e 0
          · exact j_cl0 (n := n) hn lS2 lT2 hC2 x2 w5 w7 w6 ee v1 h4 v3 w9 k0
          by_cases k1 : wm b (sk b z p) e 1
          · exact j_cl1 (n := n) hn lS2 lT2 hC2 x2 w5 w7 w6 ee v1 h4 v3 w9 k1
          by_cases k2 : wm b (sk b z p) e 2
          · exact j_cl2 (n := n) hn lS2 lT2 hC2 x2 w5 w7 w6 ee v1 h4 v3 w9 k2
          by_cases k3 : wm b (sk b z p) e 3
          · exact j_cl3 (n := n) hn lS2 lT2 hC2 x2 w5 w7 w6 ee v1 h4 v3 w9 k3
          by_cases k4 : wm b (sk b z p) e 4
          · exact j_cl4 (n := n) hn lS2 lT2 hC2 x2 w5 w7 w6 ee v1 h4 v3 w9 k4
          by_cases k5 : wm b (sk b z p) e 5
          · exact j_cl5 (n := n) hn lS2 lT2 hC2 x2 w5 w7 w6 ee v1 h4 v3 w9 k5
          exact j_clN (n := n) hn lS2 lT2 x2 w5 w7 w6 v3 w9 (fun j hj => by
            have : j = 0 ∨ j = 1 ∨ j = 2 ∨ j = 3 ∨ j = 4 ∨ j = 5 := by omega
            rcases this with rfl | rfl | rfl | rfl | rfl | rfl <;> assumption)
        · obtain ⟨T3, d1, d2, d3⟩ := r_wr (n := n) (k := 1) (q := sk b z p) w6 (by decide) (by omega)
          have hW : ∀ j, j < 20 → ¬ nI (wdV b (sk b z p) e) = nI (ofV j) := fun j hj x => v3 j hj ((w9 j hj).mp x)
          refine ⟨S2, T3, ?_, FX.rf _ _ _ _ _, d2.m, lS2, lT2.tt d2 (by decide), Or.inr ⟨1, sk b z p, x2, d3, ?_⟩⟩
          · unfold m_X1_readClause
            rw [w1, ob_mk, x_wellE x2, cb_mk, if00]
          · unfold refK
            rw [r_of (by decide) hn, cb_mk, if_neg (hW 0 (by decide)), r_of (by decide) hn, cb_mk, if_neg (hW 1 (by decide)), r_of (by decide) hn, cb_mk, if_neg (hW 2 (by decide)), r_of (by decide) hn, cb_mk, if_neg (hW 3 (by decide)), b_X12_coast_104, if00, r_of (by decide) hn, cb_mk, if_neg (hW 4 (by decide)), r_of (by decide) hn, cb_mk, if_neg (hW 5 (by decide)), w6.2.2.1, show m_X12_wrong n (A 60) 1 (nI (sk b z p)) T2 = some T3 from d1, ob_mk, b_X12_coast_164, r_fineE d3, cb_mk, if00, b_X12_coast_171]
      obtain ⟨S3, T3, m1, m2, m3, m4, m5, m6⟩ := main
      rw [m1, ob_mk]
      rcases m6 with ⟨p3, g3, lt3, x3, t3, C3, cl60, r3⟩ | ⟨kk, qq, x3, t3, r3⟩
      · obtain ⟨S4, T4, y1, y2, y3, y4, y5⟩ := j_sign (n := n) (c := 59) x3 t3 (by decide) hn
        rw [show (59 : Int32) = nI 59 from rfl, y1, ob_mk, r3, b_X12_coast_225, show (59 : Int32) = nI 59 from rfl, y2, ob_mk, show nI cl + 1 = nI (cl + 1) from nI_1 cl]
        rcases y5 with ⟨v1, v2, x4, t4⟩ | ⟨kk, qq, x4, t4⟩
        · have g3' := sk_ge b z p3
          obtain ⟨S5, i1, i2, T5, i3, i4, i5⟩ := ih (sk b z p3 + 1) f (f' + 1) (cl + 1) S4 T4 g3 (by omega) (by omega) (by omega) (by omega) x4 t4 (m4.tt y3 (by decide)) (m5.tt y4 (by decide)) (C3.tt y3 y4)
          exact ⟨S5, i1, ((kx.tr m2).tr y3.x).tr i2, T5, i3, ((km.tr m3).tr y4.m).tr i4, i5⟩
        · obtain ⟨f0, rfl⟩ : ∃ g, f = g + 1 := ⟨f - 1, by omega⟩
          obtain ⟨S5, i1, i2, i3⟩ := xe_rd40 (n := n) (f := f0) (x := nI (cl + 1)) x4 hn
          refine ⟨S5, i1, ((kx.tr m2).tr y3.x).tr i2.x, T4, ?_, (km.tr m3).tr y4.m, Or.inr ⟨_, _, i3, t4⟩⟩
          rw [b_X12_coast_44, r_fineE t4, cb_mk, if00]
      · obtain ⟨f0, rfl⟩ : ∃ g, f = g + 1 := ⟨f - 1, by omega⟩
        obtain ⟨S4, y1, y2, y3⟩ := x_signE (n := n) (c := 59) x3 (by decide) hn
        obtain ⟨S5, i1, i2, i3⟩ := xe_rd40 (n := n) (f := f0) (x := nI cl + 1) y3 hn
        rw [show (59 : Int32) = nI 59 from rfl, y1, ob_mk, r3]
        exact ⟨S5, i1, ((kx.tr m2).tr y2.x).tr i2.x, T3, rfl, km.tr m3, Or.inr ⟨_, _, i3, t3⟩⟩
    · rw [show xv8 b z (sk b z p) = -1 from if_neg hq, if_pos rfl]
      refine ⟨S1, rfl, a2.x, T1, ?_, c2.m, Or.inl ⟨_, g, a3, c3, hC.tt a2 c2⟩⟩
      rw [b_X12_coast_44, r_fine hm, cb_mk, if10, m_X12_isMore, c1, cb_mk, c3.1.2.2.1, c3.2.2.1, if_pos (nI_le (by omega) (by omega)), cb_mk, if00]
/-- a table is emptied -/
theorem x_clr {t c N : Nat} (h0 : pR S 900 (A t) = some (A c)) (hN : pN S (A c) = N) (hb : N < 1000) (hn : 20000 ≤ n) : m_X9_clear n (A t) S = some (sF (sI S 902 (A t) 0) (A c) (mixr N (fun _ => 0) (pA S (A c)))) := by
  unfold m_X9_clear
  rw [pR_sI, h0, ob_mk, sp_fill (S := sI S 902 (A t) 0) (N := N) hN (by omega) (by omega), ob_mk]
  rfl
def g00 : GH := (fun k => if k = 4 then 1 else if k = 5 then 3 else 0, fun _ _ => 0, fun _ => 0)
theorem g00_gb : GB g00 := ⟨by decide, fun i hi => absurd hi (by show ¬ i < 4 * 0; omega), fun i hi => absurd hi (by show ¬ i < 0; omega), fun i hi => absurd hi (by show ¬ i < 0; omega), fun i hi => absurd hi (by show ¬ i < 0; omega)⟩
/-- all of the reading of a coast -/
theorem j_coast (hn : 20000 ≤ n) (hx : XF A b z S 0) (hm : MF A b z T 0) (lS : LAY A S) (lT : LAY A T) : ∃ S', m_X1_read n (A 39) (A 1) S = some S' ∧ FXx A S S' ∧ ∃ T', (Option.bind (m_X12_clears n (A 60) T) fun S_12 => b_X12_coast_44 n n (A 60) 0 S_12) = b_X12_coast_237 n (A 60) T' ∧ FXm A T T' ∧ ((∃ p' g', XF A b z S' p' ∧ MF A b z T' p' ∧ CI A g' S' T') ∨ EE A b z S' T') := by
  have hz := hx.1.2.2.2.1
  unfold m_X1_read
  rw [lS.r39_100, ob_mk, x_clr (n := n) (A := A) (S := S) (t := 40) (c := 41) lS.r40_900 lS.n41 (by decide) hn, ob_mk]
  have k1 : FX [] fxP [41, 43, 45, 47] A S (sF (sI S 902 (A 40) 0) (A 41) (mixr 24 (fun _ => 0) (pA S (A 41)))) := ((FX.rf _ _ _ _ _).wP (by decide)).wF (by decide)
  generalize e1 : sF (sI S 902 (A 40) 0) (A 41) (mixr 24 (fun _ => 0) (pA S (A 41))) = S1 at *
  have l1 := k1.lay lS (by decide) (by decide)
  rw [l1.r39_101, ob_mk, x_clr (n := n) (A := A) (S := S1) (t := 42) (c := 43) l1.r42_900 l1.n43 (by decide) hn, ob_mk]
  have k2 : FX [] fxP [41, 43, 45, 47] A S1 (sF (sI S1 902 (A 42) 0) (A 43) (mixr 48 (fun _ => 0) (pA S1 (A 43)))) := ((FX.rf _ _ _ _ _).wP (by decide)).wF (by decide)
  generalize e2 : sF (sI S1 902 (A 42) 0) (A 43) (mixr 48 (fun _ => 0) (pA S1 (A 43))) = S2 at *
  have l2 := k2.lay l1 (by decide) (by decide)
  rw [l2.r39_102, ob_mk, x_clr (n := n) (A := A) (S := S2) (t := 44) (c := 45) l2.r44_900 l2.n45 (by decide) hn, ob_mk]
  have k3 : FX [] fxP [41, 43, 45, 47] A S2 (sF (sI S2 902 (A 44) 0) (A 45) (mixr 9 (fun _ => 0) (pA S2 (A 45)))) := ((FX.rf _ _ _ _ _).wP (by decide)).wF (by decide)
  generalize e3 : sF (sI S2 902 (A 44) 0) (A 45) (mixr 9 (fun _ => 0) (pA S2 (A 45))) = S3 at *
  have l3 := k3.lay l2 (by decide) (by decide)
  rw [l3.r39_103, ob_mk, x_clr (n := n) (A := A) (S := S3) (t := 46) (c := 47) l3.r46_900 l3.n47 (by decide) hn, ob_mk]
  have k4 : FX [] fxP [41, 43, 45, 47] A S3 (sF (sI S3 902 (A 46) 0) (A 47) (mixr 6 (fun _ => 0) (pA S3 (A 47)))) := ((FX.rf _ _ _ _ _).wP (by decide)).wF (by decide)
  generalize e4 : sF (sI S3 902 (A 46) 0) (A 47) (mixr 6 (fun _ => 0) (pA S3 (A 47))) = S4 at *
  have l4 := k4.lay l3 (by decide) (by decide)
  have k5 : FX [] fxP [41, 43, 45, 47] A S4 (sI (sI S4 104 (A 39) 1) 105 (A 39) 3) := ((FX.rf _ _ _ _ _).wP (by decide)).wP (by decide)
  have k := (((k1.tr k2).tr k3).tr k4).tr k5
  have l5 := k5.lay l4 (by decide) (by decide)
  have kT : FX [1218, 1219, 1220, 1221, 1222, 1223] [] [] A T (sI (sI (sI (sI (sI (sI T 1218 (A 60) 0) 1219 (A 60) 0) 1220 (A 60) 0) 1221 (A 60) 0) 1222 (A 60) 1) 1223 (A 60) 3) := ((((((FX.rf _ _ _ _ _).wI (by decide)).wI (by decide)).wI (by decide)).wI (by decide)).wI (by decide)).wI (by decide)
  have v40 : pI S4 902 (A 40) = 0 := by
    rw [← e4, pI_sF, pI_sI, if_neg (fun q => l3.ne (by decide) (by decide) (by decide) q.2), ← e3, pI_sF, pI_sI, if_neg (fun q => l3.ne (by decide) (by decide) (by decide) q.2), ← e2, pI_sF, pI_sI, if_neg (fun q => l3.ne (by decide) (by decide) (by decide) q.2), ← e1, pI_sF, pI_e]
  have v42 : pI S4 902 (A 42) = 0 := by
    rw [← e4, pI_sF, pI_sI, if_neg (fun q => l3.ne (by decide) (by decide) (by decide) q.2), ← e3, pI_sF, pI_sI, if_neg (fun q => l3.ne (by decide) (by decide) (by decide) q.2), ← e2, pI_sF, pI_e]
  have v44 : pI S4 902 (A 44) = 0 := by
    rw [← e4, pI_sF, pI_sI, if_neg (fun q => l3.ne (by decide) (by decide) (by decide) q.2), ← e3, pI_sF, pI_e]
  have v46 : pI S4 902 (A 46) = 0 := by rw [← e4, pI_sF, pI_e]
  have hCI : CI A g00 (sI (sI S4 104 (A 39) 1) 105 (A 39) 3) (sI (sI (sI (sI (sI (sI T 1218 (A 60) 0) 1219 (A 60) 0) 1220 (A 60) 0) 1221 (A 60) 0) 1222 (A 60) 1) 1223 (A 60) 3) := by
    refine ⟨g00_gb, ⟨?_, ?_, ?_, ?_, ?_, ?_⟩, ⟨?_, ?_, ?_, ?_, ?_, ?_⟩, ⟨fun i hi => absurd hi (by show ¬ i < 4 * 0; omega), fun i hi => absurd hi (by show ¬ i < 4 * 0; omega), fun i hi => absurd hi (by show ¬ i < 3 * 0; omega), fun i hi => absurd hi (by show ¬ i < 2 * 0; omega)⟩, fun i hi => absurd hi (by show ¬ i < 4 * 0; omega), fun i hi => absurd hi (by show ¬ i < 4 * 0; omega), fun i hi => absurd hi (by show ¬ i < 3 * 0; omega), fun i hi => absurd hi (by show ¬ i < 2 * 0; omega)⟩
    · rw [pI_n (by decide), pI_n (by decide), v40]; rfl
    · rw [pI_n (by decide), pI_n (by decide), v42]; rfl
    · rw [pI_n (by decide), pI_n (by decide), v44]; rfl
    · rw [pI_n (by decide), pI_n (by decide), v46]; rfl
    · rw [pI_n (by decide), pI_e]; rfl
    · rw [pI_e]; rfl
    · rw [pI_n (by decide), pI_n (by decide), pI_n (by decide), pI_n (by decide), pI_n (by decide), pI_e]; rfl
    · rw [pI_n (by decide), pI_n (by decide), pI_n (by decide), pI_n (by decide), pI_e]; rfl
    · rw [pI_n (by decide), pI_n (by decide), pI_n (by decide), pI_e]; rfl
    · rw [pI_n (by decide), pI_n (by decide), pI_e]; rfl
    · rw [pI_n (by decide), pI_e]; rfl
    · rw [pI_e]; rfl
  obtain ⟨S', a1, a2, T', a3, a4, a5⟩ := co_loop (n := n) (A := A) (b := b) (z := z) hn z 0 n n 0 _ _ g00 (by omega) (by omega) (by omega) (by omega) (hx.fx k lS (by decide) (by decide) (by decide)) (hm.fx kT lT (by decide) (by decide) (by decide)) l5 (kT.lay lT (by decide) (by decide)) hCI
  refine ⟨S', a1, (k.mono (by decide) (fun _ q => q) (by decide)).tr a2, T', ?_, (kT.mono (by decide) (by decide) (by decide)).tr a4, a5⟩
  unfold m_X12_clears
  rw [lt_mk, ob_mk]
  exact a3
end
