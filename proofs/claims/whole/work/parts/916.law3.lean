/-! laws: unit, product, sum -/
section
variable {A b : Nat → Nat} {z n o s : Nat} {S T : pq_S}
theorem wm_dj {q e i j : Nat} (hi : wm b q e i) (hj : wm b q e j) (hd : tln i ≠ tln j ∨ ∃ k, k < tln i ∧ k < tln j ∧ tbt i k ≠ tbt j k) : False := by
  rcases hd with h | ⟨k, k1, k2, k3⟩
  · exact h (hi.1.symm.trans hj.1)
  · exact k3 ((hi.2 k k1).symm.trans (hj.2 k k2))
theorem j_unit (hz : z ≤ 150) (hn : 20000 ≤ n) (ho6 : o ≤ 6) (hS : o < 6 → SOK A b z n (o + 1)) : UOK A b z n o := by
  intro d d' hd hd' s S T p L h cd pk hh
  obtain ⟨d, rfl⟩ : ∃ e, d = e + 3 := ⟨d - 3, by omega⟩
  obtain ⟨d', rfl⟩ : ∃ e, d' = e + 2 := ⟨d' - 2, by omega⟩
  show ∃ S' T', g_X2_readUnit n (m_lawP_d n (d + 2)) (A 48) (A 1) (nI o) S = some S' ∧ g_X12_readUnit n (m_modP_d n (d' + 1)) (A 60) T = some T' ∧ FXx A S S' ∧ FXm A T T' ∧ OUT A b z o s S' T' p (h + 1)
  obtain ⟨S1, a1, a2, a3⟩ := x_next (n := n) pk.1 hn
  obtain ⟨T1, c1, c2, c3⟩ := r_here (n := n) pk.2.1 hn
  have hqz := sk_le b pk.1.2.1
  have hqg := sk_ge b z p
  have hss := sk_sk b z p
  have h600 := pk.1.1.2.2.2.1
  have hb : sk b z p < z → b (sk b z p) ≤ 255 := fun q => pk.1.1.b8 q
  have hLs := pk.2.2.2.1
  have pk1 : PK A b z o s S1 T1 (sk b z p) L h cd := pk.tt a2 c2 a3 c3 (by omega)
  have lS1 := pk1.2.2.2.2.2.1
  have lT1 := pk1.2.2.2.2.2.2
  unfold g_X2_readUnit g_X12_readUnit
  rw [a1, cb_mk, sp_isWithin, cb_mk, ifz, r_fine pk.2.1, cb_mk, if10, c1, cb_mk]
  have e1 : ((48 : Int32) ≤ xv8 b z (sk b z p) ∧ xv8 b z (sk b z p) ≤ (57 : Int32)) ↔ (sk b z p < z ∧ 48 ≤ b (sk b z p) ∧ b (sk b z p) ≤ 57) := xv8_in (lo := 48) (hi := 57) hb (by decide) (by decide)
  have e2 : ((97 : Int32) ≤ xv8 b z (sk b z p) ∧ xv8 b z (sk b z p) ≤ (122 : Int32)) ↔ (sk b z p < z ∧ 97 ≤ b (sk b z p) ∧ b (sk b z p) ≤ 122) := xv8_in (lo := 97) (hi := 122) hb (by decide) (by decide)
  have e3 : (mv8 b z (sk b z p) = (40 : Int32)) ↔ (sk b z p < z ∧ b (sk b z p) = 40) := mv8_eq (c := 40) hb (by decide)
  have e4 : (xv8 b z (sk b z p) = (40 : Int32)) ↔ (sk b z p < z ∧ b (sk b z p) = 40) := xv8_eq (c := 40) hb (by decide)
  by_cases hbr : sk b z p < z ∧ b (sk b z p) = 40
  · -- a bracket
    rw [if_neg (fun q => by have := (e1.mp q).2; omega), sp_isWithin, cb_mk, ifz, if_neg (fun q => by have := (e2.mp q).2; omega), if_pos (e4.mpr hbr), if_pos (e3.mpr hbr)]
    have u1 : (m_lawP_d n (d + 2)).2.2.2.1 (A 48) (A 1) (nI o) S1 = g_X2_readBracket n (m_lawP_d n (d + 1)) (A 48) (A 1) (nI o) S1 := rfl
    rw [u1]
    unfold g_X2_readBracket
    by_cases h6 : o < 6
    · obtain ⟨S2, f1, f2, f3⟩ := x_sg1 (n := n) (c := 40) a3 (by rw [hss]; exact hbr.1) (by rw [hss]; exact hbr.2) hn
      rw [hss] at f3
      obtain ⟨T2, g1, g2, g3, g4⟩ := r_open (n := n) (y := 1) c3 pk1.2.2.2.2.1 h6 (by omega)
      have lT2 := g4.lay lT1 (by decide) (by decide)
      have k2 : LCI A S2 T2 L h cd := by
        have hc0 := pk1.2.2.1
        unfold LCI at hc0 ⊢
        rw [f2.2 203 _ (by decide), f2.1.2.2.2.2.2, g4.I lT1 (by decide) (by decide) (by decide), show pA T2 (A 71) = pA T1 (A 71) from funext fun i => g4.W lT1 (by decide) (by decide) i, show pA T2 (A 72) = pA T1 (A 72) from funext fun i => g4.W lT1 (by decide) (by decide) i]
        exact hc0
      have pk2 : PK A b z (o + 1) (s + 1) S2 T2 (sk b z p + 1) L h cd := ⟨f3, g2, k2, by omega, g3, lS1.tt f2 (by decide), lT2⟩
      obtain ⟨S3, T3, i1, i2, i3, i4, i5⟩ := hS h6 (d + 1) (d' + 1) (by omega) (by omega) _ S2 T2 _ _ _ _ pk2 (by omega)
      rw [if_pos (show nI o < (6 : Int32) from nI_lt (b := 6) h6 (by decide)), show (40 : Int32) = nI 40 from rfl, f1, ob_mk, nI_1, i1, ob_mk, show (1 : Int32) = nI 1 from rfl, g1, ob_mk, i2, ob_mk, show (41 : Int32) = nI 41 from rfl]
      have m2 : FXm A T T2 := c2.m.tr (g4.mono (by decide) (by decide) (by decide))
      have x2 : FXx A S S2 := a2.x.tr f2.x
      rcases i5 with ⟨p3, L3, cd3, pk3, lt3⟩ | ⟨kk, qq, x3, m3⟩
      · obtain ⟨S4, T4, y1, y2, y3, y4, y5⟩ := j_sign (n := n) (c := 41) pk3.1 pk3.2.1 (by decide) hn
        rw [y1, ob_mk, ob_mk, y2, ob_mk]
        refine ⟨S4, _, rfl, rfl, (x2.tr i3).tr y3.x, ((m2.tr i4).tr y4.m).wI (by decide), ?_⟩
        rcases y5 with ⟨v1, v2, x4, m4⟩ | ⟨kk, qq, x4, m4⟩
        · have g3' := sk_ge b z p3
          have s3 := pk3.2.2.2.1
          have pk4 := pk3.tt (s' := s + 1) y3 y4 x4 m4 (by omega)
          refine Or.inl ⟨sk b z p3 + 1, L3, cd3, ⟨pk4.1, pk4.2.1.op, ?_, by omega, ?_, pk4.2.2.2.2.2.1, pk4.2.2.2.2.2.2.eqv rfl rfl rfl rfl (fun a => pI_n (by decide))⟩, by omega⟩
          · have hc6 := pk4.2.2.1
            unfold LCI at hc6 ⊢
            rw [pI_n (by decide)]
            exact hc6
          · rw [pI_e, pk4.2.2.2.2.1]
            exact nI_pred o
        · exact Or.inr ⟨_, _, pk3.er hz y3 x4, m4.op⟩
      · obtain ⟨S4, y1, y2, y3⟩ := xl_sign (n := n) (c := 41) x3 (by decide) hn
        rw [y1, ob_mk, ob_mk, r_signE m3, ob_mk]
        exact ⟨S4, _, rfl, rfl, (x2.tr i3).tr y2, (m2.tr i4).wI (by decide), Or.inr ⟨_, _, y3, m3.op⟩⟩
    · have e6 : o = 6 := by omega
      subst e6
      obtain ⟨T2, g1, g2, g3⟩ := r_open6 (n := n) (y := 1) c3 pk1.2.2.2.2.1 (by omega)
      obtain ⟨S2, f1, f2, f3⟩ := x_ref (n := n) (k := 3) (q := sk b z p) a3 (by decide) (by omega)
      rw [if_neg (show ¬ nI 6 < (6 : Int32) by decide), a3.2.2.1, show (3 : Int32) = nI 3 from rfl, f1, ob_mk, ob_mk, g1, ob_mk, rl_sum g2 (by omega) hn, ob_mk, r_signE g2, ob_mk]
      exact ⟨S2, _, rfl, rfl, a2.x.tr f2.x, (c2.m.tr g3).wI (by decide), Or.inr ⟨_, _, pk1.er hz f2 f3, g2.op⟩⟩
  · rw [if_neg (fun q => hbr (e3.mp q))]
    obtain ⟨T2, i1, i2, i3⟩ := r_here (n := n) c3 hn
    rw [hss] at i1 i3
    have pk2 : PK A b z o s S1 T2 (sk b z p) L h cd := pk1.tt (TT.rf _ _ _) i2 a3 i3 (by omega)
    have lT2 := pk2.2.2.2.2.2.2
    have m2 : FXm A T T2 := c2.m.tr i2.m
    rw [i1, cb_mk, mv8_dig hb, cb_mk, ifz]
    by_cases hdg : sk b z p < z ∧ 48 ≤ b (sk b z p) ∧ b (sk b z p) ≤ 57
    · rw [if_pos (e1.mpr hdg), if_pos hdg]
      obtain ⟨v, u, S3, T3, y1, y2, y3, y4, y5⟩ := j_num (n := n) (lo := 0) (hi := 999) a3 i3 (by decide) hn
      rw [y1, cb_mk, y2, cb_mk]
      rcases y5 with ⟨k, e, rfl, rfl, l1, l2, l3, l4, x3, m3⟩ | ⟨kk, qq, x3, m3⟩
      · have hk : k ≤ 999 := by
          rw [show (999 : Int32) = nI 999 from rfl, nI_leI (by omega) (by decide)] at l3
          exact l3
        have pk3 := pk2.tt (s' := s + 1) y3 y4 x3 m3 (by omega)
        obtain ⟨S4, T4, f1, f2, f3, f4, f5⟩ := j_emit (n := n) (c := k) (h' := h + 1) hz (s := s) ⟨pk3.1, pk3.2.1, pk3.2.2.1, by omega, pk3.2.2.2.2⟩ (by omega) (by omega) (by rw [if_pos (by omega), if_pos (by omega)]) (by omega)
        rw [show lwWhat k = 0 from if_pos (by omega), show lwOf k = k from if_pos (by omega)] at f2
        rw [f1, ob_mk, show (0 : Int32) = nI 0 from rfl, f2, ob_mk]
        exact ⟨S4, T4, rfl, rfl, (a2.x.tr y3.x).tr f3, (m2.tr y4.m).tr f4, Or.inl ⟨_, _, _, f5, by omega⟩⟩
      · obtain ⟨S4, f1, f2, f3⟩ := xl_app (n := n) (c := v) (pk2.er hz y3 x3)
        rw [f1, ob_mk, r_emitE m3, ob_mk]
        exact ⟨S4, T3, rfl, rfl, (a2.x.tr y3.x).tr f2, m2.tr y4.m, Or.inr ⟨_, _, f3, m3⟩⟩
    · rw [if_neg (fun q => hdg (e1.mp q)), if_neg hdg, sp_isWithin, cb_mk, ifz]
      by_cases hlt : sk b z p < z ∧ 97 ≤ b (sk b z p) ∧ b (sk b z p) ≤ 122
      · rw [if_pos (e2.mpr hlt)]
        obtain ⟨S3, T3, q, e, hq, he, w1, w2, w3, w4, w5, w6, w7, w8, w9, w10⟩ := j_word (n := n) a3 i3 hn
        rw [hss] at hq
        subst hq
        rcases w10 with ⟨v1, x3, v3⟩ | ⟨v1, _, _⟩
        · have u1 : (m_lawP_d n (d + 2)).2.2.2.2.1 (A 48) (A 1) (nI o) S1 = g_X2_readWord n (m_lawP_d n (d + 1)) (A 48) (A 1) (nI o) S1 := rfl
          have ez := x3.2.1
          have lS3 := lS1.tt w3 (by decide)
          have lT3 := lT2.tt w4 (by decide)
          have c3' : LCI A S3 T3 L h cd := pk2.2.2.1.tt w3 w4
          have o3 : pI T3 1207 (A 60) = nI o := by rw [w4.2 _ _ (by decide)]; exact pk2.2.2.2.2.1
          rw [u1]
          unfold g_X2_readWord
          rw [w1, ob_mk, v3 6 (by decide), cb_mk, w2, cb_mk, r_of (by decide) hn, cb_mk]
          by_cases k6 : wm b (sk b z p) e 6
          · rw [if_pos k6, if10, if_pos ((w9 6 (by decide)).mpr k6)]
            have ey : e = sk b z p + 5 := by have := k6.1; have t6 : tln 6 = 5 := rfl; omega
            obtain ⟨S4, T4, f1, f2, f3, f4, f5⟩ := j_pair (n := n) (c := 2004) (y := 5) (d := d) (d' := d') (s := s) hz hn ho6 hS (by omega) (by omega) (by omega) (by omega) x3 w6 w5 ey (by decide) c3' (by omega) o3 lS3 lT3 hh (Or.inl rfl)
            have u2 : (m_lawP_d n (d + 1)).2.2.2.2.2 (A 48) (A 1) (nI o) 2004 S3 = some S4 := f1
            have u3 : (m_modP_d n (d' + 1)).2.2.1 (A 60) 5 6 T3 = some T4 := f2
            rw [u2, ob_mk, ob_mk, u3, ob_mk]
            refine ⟨S4, T4, rfl, rfl, (a2.x.tr w3.x).tr f3, (m2.tr w4.m).tr f4, ?_⟩
            rcases f5 with ⟨p5, L5, cd5, pk5, lt5⟩ | er
            · exact Or.inl ⟨p5, L5, cd5, pk5, by omega⟩
            · exact Or.inr er
          · rw [if_neg k6, if00, if_neg (fun x => k6 ((w9 6 (by decide)).mp x)), v3 7 (by decide), cb_mk]
            obtain ⟨T4, y1, y2, y3⟩ := r_word (n := n) w6 hn
            rw [hss, ← he] at y1
            rw [hss] at y3
            rw [y1, cb_mk, r_of (by decide) hn, cb_mk]
            have lT4 := lT3.tt y2 (by decide)
            have c4' : LCI A S3 T4 L h cd := c3'.tt (TT.rf _ _ _) y2
            have o4 : pI T4 1207 (A 60) = nI o := by rw [y2.2 _ _ (by decide)]; exact o3
            by_cases k7 : wm b (sk b z p) e 7
            · rw [if_pos k7, if10, if_pos ((w9 7 (by decide)).mpr k7)]
              have ey : e = sk b z p + 4 := by have := k7.1; have t7 : tln 7 = 4 := rfl; omega
              obtain ⟨S4, T5, f1, f2, f3, f4, f5⟩ := j_pair (n := n) (c := 2005) (y := 4) (d := d) (d' := d') (s := s) hz hn ho6 hS (by omega) (by omega) (by omega) (by omega) x3 y3 w5 ey (by decide) c4' (by omega) o4 lS3 lT4 hh (Or.inr rfl)
              have u2 : (m_lawP_d n (d + 1)).2.2.2.2.2 (A 48) (A 1) (nI o) 2005 S3 = some S4 := f1
              have u3 : (m_modP_d n (d' + 1)).2.2.1 (A 60) 4 7 T4 = some T5 := f2
              rw [u2, ob_mk, ob_mk, u3, ob_mk]
              refine ⟨S4, T5, rfl, rfl, (a2.x.tr w3.x).tr f3, ((m2.tr w4.m).tr y2.m).tr f4, ?_⟩
              rcases f5 with ⟨p5, L5, cd5, pk5, lt5⟩ | er
              · exact Or.inl ⟨p5, L5, cd5, pk5, by omega⟩
              · exact Or.inr er
            · rw [if_neg k7, if00, if_neg (fun x => k7 ((w9 7 (by decide)).mp x))]
              obtain ⟨T5, r1, r2, r3⟩ := r_word (n := n) y3 hn
              rw [hss, ← he] at r1
              rw [hss] at r3
              obtain ⟨v, f1, f2, f3⟩ := j_fact (n := n) (S := S3) (T := T4) (T' := T5) hn v3 w9 r1
              rw [f1, cb_mk, f2, cb_mk]
              have mm : FXm A T T5 := ((m2.tr w4.m).tr y2.m).tr r2.m
              rcases f3 with ⟨i, hi, rfl⟩ | rfl
              · obtain ⟨T6, g1, g2, g3⟩ := r_pass (n := n) r3 hn
                rw [← he] at g3
                rw [if_neg (nI_nm1 (by omega)), if_neg (nI_nm1 (by omega)), b_X2_readWord_65, b_X12_readUnit_136, r_fine r3, cb_mk, if10, g1, ob_mk]
                have pk6 : PK A b z o s S3 T6 e L h cd := ⟨x3, g3, (c4'.tt (TT.rf _ _ _) r2).tt (TT.rf _ _ _) g2, by omega, by rw [g2.2 _ _ (by decide), r2.2 _ _ (by decide)]; exact o4, lS3, (lT4.tt r2 (by decide)).tt g2 (by decide)⟩
                obtain ⟨S7, T7, z1, z2, z3, z4, z5⟩ := j_emit (n := n) (c := 1000 + i) (h' := h + 1) hz pk6 (by omega) (by omega) (by rw [if_pos (by omega), if_pos (by omega)]) (by omega)
                rw [show lwWhat (1000 + i) = 1 from by unfold lwWhat; rw [if_neg (by omega), if_pos (by omega)], show lwOf (1000 + i) = i from by unfold lwOf; rw [if_neg (by omega), if_pos (by omega)]; omega] at z2
                rw [show (1000 : Int32) = nI 1000 from rfl, nI_add, z1, ob_mk, ob_mk, show (1 : Int32) = nI 1 from rfl, z2, ob_mk]
                exact ⟨S7, T7, rfl, rfl, (a2.x.tr w3.x).tr z3, (mm.tr g2.m).tr z4, Or.inl ⟨_, _, _, z5, by omega⟩⟩
              · obtain ⟨S4, g1, g2, g3⟩ := x_ref (n := n) (k := 1) (q := sk b z p) x3 (by decide) (by omega)
                obtain ⟨T6, g4, g5, g6⟩ := r_wr (n := n) (k := 1) (q := sk b z p) r3 (by decide) (by omega)
                have xl4 : XLw A b z S4 1 (sk b z p) := ⟨g3, lS3.tt g2 (by decide), L, by omega, by rw [g2.2 _ _ (by decide)]; exact c3'.1⟩
                obtain ⟨S5, g7, g8, g9⟩ := xl_app (n := n) (c := (1000 : Int32) + -1) xl4
                rw [if_pos rfl, if_pos rfl, w5, r3.2.2.1, show m_X10_refuse n (A 1) 1 (nI (sk b z p)) S3 = some S4 from g1, ob_mk, b_X2_readWord_65, g7, ob_mk, ob_mk, show m_X12_wrong n (A 60) 1 (nI (sk b z p)) T5 = some T6 from g4, ob_mk, b_X12_readUnit_136, r_fineE g6, cb_mk, if00]
                exact ⟨S5, T6, rfl, rfl, ((a2.x.tr w3.x).tr g2.x).tr g8, mm.tr g5.m, Or.inr ⟨_, _, g9, g6⟩⟩
        · exfalso
          rw [he, we_s hlt.1 hlt.2] at v1
          have := we_ge b z (sk b z p + 1)
          omega
      · -- nothing that a unit begins with
        rw [if_neg (fun q => hlt (e2.mp q)), if_neg (fun q => hbr (e4.mp q))]
        obtain ⟨S2, f1, f2, f3⟩ := x_ref (n := n) (k := 1) (q := sk b z p) a3 (by decide) (by omega)
        have hw : we b z (sk b z p) = sk b z p := we_n (fun x y => hlt ⟨x, y⟩)
        have hnw : ∀ j, j < 20 → ¬ nI (wdV b (sk b z p) (sk b z p)) = nI (ofV j) := fun j hj x => by
          have := (wd_iff (b := b) (q := sk b z p) (e := sk b z p) hj (Nat.le_refl _) (fun i h1 h2 => by omega)).mp x
          have := (tx_l j hj).2.2
          have := this
          have h3 := ‹wm b (sk b z p) (sk b z p) j›.1
          omega
        obtain ⟨T3, w1, w2, w3⟩ := r_word (n := n) i3 hn
        rw [hss, hw] at w1
        rw [hss] at w3
        obtain ⟨T4, y1, y2, y3⟩ := r_word (n := n) w3 hn
        rw [hss, hw] at y1
        rw [hss] at y3
        obtain ⟨T5, r1, r2, r3⟩ := r_word (n := n) y3 hn
        rw [hss, hw] at r1
        rw [hss] at r3
        obtain ⟨T6, g4, g5, g6⟩ := r_wr (n := n) (k := 1) (q := sk b z p) r3 (by decide) (by omega)
        have ff : m_X12_factHere n (A 60) T4 = some (-1, T5) := by
          unfold m_X12_factHere
          rw [r1, cb_mk, r_of (by decide) hn, cb_mk, if_neg (hnw 8 (by decide)), r_of (by decide) hn, cb_mk, if_neg (hnw 9 (by decide)), r_of (by decide) hn, cb_mk, if_neg (hnw 10 (by decide)), r_of (by decide) hn, cb_mk, if_neg (hnw 11 (by decide)), r_of (by decide) hn, cb_mk, if_neg (hnw 12 (by decide)), r_of (by decide) hn, cb_mk, if_neg (hnw 13 (by decide)), r_of (by decide) hn, cb_mk, if_neg (hnw 14 (by decide))]
        rw [a3.2.2.1, show m_X10_refuse n (A 1) 1 (nI (sk b z p)) S1 = some S2 from f1, ob_mk, w1, cb_mk, r_of (by decide) hn, cb_mk, if_neg (hnw 6 (by decide)), y1, cb_mk, r_of (by decide) hn, cb_mk, if_neg (hnw 7 (by decide)), ff, cb_mk, if_pos rfl, r3.2.2.1, show m_X12_wrong n (A 60) 1 (nI (sk b z p)) T5 = some T6 from g4, ob_mk, b_X12_readUnit_136, r_fineE g6, cb_mk, if00]
        exact ⟨S2, T6, rfl, rfl, a2.x.tr f2.x, (((m2.tr w2.m).tr y2.m).tr r2.m).tr g5.m, Or.inr ⟨_, _, pk1.er hz f2 f3, g6⟩⟩

theorem j_lProduct (hz : z ≤ 150) (hn : 20000 ≤ n) (ho6 : o ≤ 6) (hU : UOK A b z n o) {d d' : Nat} (hd : 5 * (8 - o) - 2 ≤ d) (hd' : 5 * (8 - o) - 2 ≤ d') : ∀ (w p f f' i s : Nat) (S T : pq_S) (L h : Nat) (cd : Nat → Nat), z - p ≤ w → w < f → w < f' → i ≤ p → PK A b z o s S T p L (h + 1) cd → h ≤ 3 * o + 1 → ∃ S' T', b_X2_readProduct_8 n (m_lawP_d n d) f (A 48) (A 1) (nI o) (nI i) S = some S' ∧ b_X12_readProduct_4 n (m_modP_d n d') f' (A 60) T = some T' ∧ FXx A S S' ∧ FXm A T T' ∧ ((∃ p' L' cd', PK A b z o s S' T' p' L' (h + 1) cd' ∧ p ≤ p') ∨ ∃ k q, XLw A b z S' k q ∧ ME A b z T' k q) := by
  intro w
  induction w with
  | zero =>
    intro p f f' i s S T L h cd h1 h2 h3 h4 pk hh
    obtain ⟨f, rfl⟩ : ∃ g, f = g + 1 := ⟨f - 1, by omega⟩
    obtain ⟨f', rfl⟩ : ∃ g, f' = g + 1 := ⟨f' - 1, by omega⟩
    have hpz := pk.1.2.1
    have hp : p = z := by omega
    have e := sk_fix b (z := z) (p := p) (fun q => by omega)
    obtain ⟨T1, c1, c2, c3⟩ := r_here (n := n) pk.2.1 hn
    rw [e] at c1 c3
    obtain ⟨T2, d1, d2, d3⟩ := r_here (n := n) c3 hn
    rw [e] at d1 d3
    have mv : mv8 b z p = 0 := if_neg (by omega)
    have xv : xv8 b z p = -1 := if_neg (by omega)
    have hr : b_X12_readProduct_4 n (m_modP_d n d') (f' + 1) (A 60) T = some T2 := by
      rw [b_X12_readProduct_4, r_fine pk.2.1, cb_mk, if10, c1, cb_mk, mv, if_neg (by decide), d1, cb_mk, mv, if_neg (by decide)]
    rw [b_X2_readProduct_8]
    by_cases hi : 150 ≤ i
    · rw [if_pos (show (150 : Int32) ≤ nI i from nI_le (a := 150) hi (by omega))]
      exact ⟨S, T2, rfl, hr, FX.rf _ _ _ _ _, c2.m.tr d2.m, Or.inl ⟨p, L, cd, pk.tt (TT.rf _ _ _) (c2.tr d2) pk.1 d3 pk.2.2.2.1, Nat.le_refl _⟩⟩
    · obtain ⟨S1, a1, a2, a3⟩ := x_next (n := n) pk.1 hn
      rw [e] at a1 a3
      obtain ⟨S2, b1, b2, b3⟩ := x_next (n := n) a3 hn
      rw [e] at b1 b3
      rw [if_neg (show ¬ (150 : Int32) ≤ nI i from nI_ge (b := 150) (by omega) (by decide)), a1, cb_mk, xv, if_neg (by decide), b1, cb_mk, xv, if_neg (by decide)]
      exact ⟨S2, T2, rfl, hr, a2.x.tr b2.x, c2.m.tr d2.m, Or.inl ⟨p, L, cd, pk.tt (a2.tr b2) (c2.tr d2) b3 d3 pk.2.2.2.1, Nat.le_refl _⟩⟩
  | succ w ih =>
    intro p f f' i s S T L h cd h1 h2 h3 h4 pk hh
    obtain ⟨f, rfl⟩ : ∃ g, f = g + 1 := ⟨f - 1, by omega⟩
    obtain ⟨f', rfl⟩ : ∃ g, f' = g + 1 := ⟨f' - 1, by omega⟩
    have hpz := pk.1.2.1
    by_cases hp : p = z
    · exact ih p (f + 1) (f' + 1) i s S T L h cd (by omega) (by omega) (by omega) h4 pk hh
    have hqz := sk_le b pk.1.2.1
    have hqg := sk_ge b z p
    have hss := sk_sk b z p
    have hb : sk b z p < z → b (sk b z p) ≤ 255 := fun q => pk.1.1.b8 q
    have hLs := pk.2.2.2.1
    obtain ⟨T1, c1, c2, c3⟩ := r_here (n := n) pk.2.1 hn
    obtain ⟨S1, a1, a2, a3⟩ := x_next (n := n) pk.1 hn
    rw [b_X2_readProduct_8, b_X12_readProduct_4, if_neg (show ¬ (150 : Int32) ≤ nI i from nI_ge (b := 150) (by omega) (by decide)), a1, cb_mk, r_fine pk.2.1, cb_mk, if10, c1, cb_mk]
    have q1 : (xv8 b z (sk b z p) = (42 : Int32)) ↔ (sk b z p < z ∧ b (sk b z p) = 42) := xv8_eq (c := 42) hb (by decide)
    have q2 : (xv8 b z (sk b z p) = (47 : Int32)) ↔ (sk b z p < z ∧ b (sk b z p) = 47) := xv8_eq (c := 47) hb (by decide)
    have r1 : (mv8 b z (sk b z p) = (42 : Int32)) ↔ (sk b z p < z ∧ b (sk b z p) = 42) := mv8_eq (c := 42) hb (by decide)
    have r2 : (mv8 b z (sk b z p) = (47 : Int32)) ↔ (sk b z p < z ∧ b (sk b z p) = 47) := mv8_eq (c := 47) hb (by decide)
    -- an operator stands there
    have step : ∀ (S3 T3 : pq_S) (op c wh : Nat), TT 1003 1006 S S3 → TT 1204 1206 T T3 → XF A b z S3 (sk b z p) → MF A b z T3 (sk b z p) → sk b z p < z → b (sk b z p) = op → op ≤ 255 → (2000 ≤ c ∧ c ≤ 2005) → lwWhat c = wh → ∃ S' T', b_X2_readProduct_51 n (m_lawP_d n d) (b_X2_readProduct_8 n (m_lawP_d n d) f) (A 48) (A 1) (nI o) (nI i) (nI c) S3 = some S' ∧ b_X12_readProduct_43 n (m_modP_d n d') (b_X12_readProduct_4 n (m_modP_d n d') f') (A 60) (nI wh) T3 = some T' ∧ FXx A S S' ∧ FXm A T T' ∧ ((∃ p' L' cd', PK A b z o s S' T' p' L' (h + 1) cd' ∧ p ≤ p') ∨ ∃ k q, XLw A b z S' k q ∧ ME A b z T' k q) := by
      intro S3 T3 op c wh t1 t2 x3 m3 hlt hop hop2 hc hwh
      obtain ⟨S4, e1, e2, e3⟩ := x_next (n := n) x3 hn
      rw [hss] at e1 e3
      obtain ⟨S5, g1, g2, g3⟩ := x_sg1 (n := n) (c := op) e3 (by rw [hss]; exact hlt) (by rw [hss]; exact hop) hn
      rw [hss] at g3
      have m4 := m3.mv (q := sk b z p + 1) (by omega)
      have tm : TT 1204 1206 T3 (sI T3 1204 (A 60) (nI (sk b z p + 1))) := (TT.rf _ _ _).wI (by decide) (by decide)
      have pk5 : PK A b z o (s + 1) S5 (sI T3 1204 (A 60) (nI (sk b z p + 1))) (sk b z p + 1) L (h + 1) cd := pk.tt ((t1.tr e2).tr g2) (t2.tr tm) g3 m4 (by omega)
      obtain ⟨S6, T6, y1, y2, y3, y4, y5⟩ := hU d d' hd hd' _ _ _ _ _ _ _ pk5 (by omega)
      unfold b_X2_readProduct_51 b_X12_readProduct_43
      rw [e1, cb_mk, show xv8 b z (sk b z p) = nI op by unfold xv8; rw [if_pos hlt, hop], g1, ob_mk, m3.2.2.1, nI_1 (sk b z p)]
      rw [show (m_lawP_d n d).2.2.1 (A 48) (A 1) (nI o) S5 = some S6 from y1, ob_mk, show (m_modP_d n d').2.2.2 (A 60) (sI T3 1204 (A 60) (nI (sk b z p + 1))) = some T6 from y2, ob_mk]
      have xx : FXx A S S6 := ((t1.tr e2).tr g2).x.tr y3
      have mm : FXm A T T6 := (t2.tr tm).m.tr y4
      rcases y5 with ⟨p6, L6, cd6, pk6, lt6⟩ | ⟨kk, qq, x6, m6⟩
      · have s6 := pk6.2.2.2.1
        obtain ⟨S7, T7, z1, z2, z3, z4, z5⟩ := j_emit (n := n) (c := c) (h' := h + 1) (s := s) hz ⟨pk6.1, pk6.2.1, pk6.2.2.1, by omega, pk6.2.2.2.2⟩ (by omega) (by omega) (by rw [if_neg (by omega), if_pos (by omega)]; rfl) (by omega)
        rw [hwh, show lwOf c = 0 from by unfold lwOf; rw [if_neg (by omega), if_neg (by omega)]] at z2
        rw [z1, ob_mk, show (0 : Int32) = nI 0 from rfl, z2, ob_mk]
        obtain ⟨S8, T8, i1, i2, i3, i4, i5⟩ := ih p6 f f' (i + 1) s S7 T7 _ h _ (by omega) (by omega) (by omega) (by omega) z5 hh
        refine ⟨S8, T8, ?_, i2, (xx.tr z3).tr i3, (mm.tr z4).tr i4, ?_⟩
        · rw [show nI i + 1 = nI (i + 1) from nI_1 i]; exact i1
        · rcases i5 with ⟨p8, L8, cd8, pk8, lt8⟩ | er
          · exact Or.inl ⟨p8, L8, cd8, pk8, by omega⟩
          · exact Or.inr er
      · obtain ⟨S7, z1, z2, z3⟩ := xl_app (n := n) (c := nI c) x6
        obtain ⟨f0, ef⟩ : ∃ g, f = g + 1 := ⟨f - 1, by omega⟩
        obtain ⟨f0', ef'⟩ : ∃ g, f' = g + 1 := ⟨f' - 1, by omega⟩
        subst ef
        subst ef'
        obtain ⟨S8, i1, i2, i3⟩ := xl_ploop (n := n) (f := f0) (i := 0) (r := m_lawP_d n d) (o := nI o) (x := nI i + 1) z3 hn
        rw [z1, ob_mk, r_emitE m6, ob_mk, i1, rl_ploop m6]
        exact ⟨S8, T6, rfl, rfl, (xx.tr z2).tr i2, mm, Or.inr ⟨_, _, i3, m6⟩⟩
    by_cases k1 : sk b z p < z ∧ b (sk b z p) = 42
    · rw [if_pos (q1.mpr k1), if_pos (r1.mpr k1)]
      unfold b_X2_readProduct_33 b_X12_readProduct_29
      obtain ⟨S2, b1, b2, b3⟩ := x_next (n := n) a3 hn
      rw [hss] at b1 b3
      obtain ⟨T2, d1, d2, d3⟩ := r_here (n := n) c3 hn
      rw [hss] at d1 d3
      rw [b1, cb_mk, if_pos (q1.mpr k1), d1, cb_mk, if_pos (r1.mpr k1)]
      exact step S2 T2 42 2002 4 (a2.tr b2) (c2.tr d2) b3 d3 k1.1 k1.2 (by decide) (by decide) rfl
    · rw [if_neg (fun q => k1 (q1.mp q)), if_neg (fun q => k1 (r1.mp q))]
      obtain ⟨S2, b1, b2, b3⟩ := x_next (n := n) a3 hn
      rw [hss] at b1 b3
      obtain ⟨T2, d1, d2, d3⟩ := r_here (n := n) c3 hn
      rw [hss] at d1 d3
      rw [b1, cb_mk, d1, cb_mk]
      by_cases k2 : sk b z p < z ∧ b (sk b z p) = 47
      · rw [if_pos (q2.mpr k2), if_pos (r2.mpr k2)]
        unfold b_X2_readProduct_33 b_X12_readProduct_29
        obtain ⟨S3, e1, e2, e3⟩ := x_next (n := n) b3 hn
        rw [hss] at e1 e3
        obtain ⟨T3, g1, g2, g3⟩ := r_here (n := n) d3 hn
        rw [hss] at g1 g3
        rw [e1, cb_mk, if_neg (fun q => k1 (q1.mp q)), g1, cb_mk, if_neg (fun q => k1 (r1.mp q))]
        exact step S3 T3 47 2003 5 ((a2.tr b2).tr e2) ((c2.tr d2).tr g2) e3 g3 k2.1 k2.2 (by decide) (by decide) rfl
      · rw [if_neg (fun q => k2 (q2.mp q)), if_neg (fun q => k2 (r2.mp q))]
        exact ⟨S2, T2, rfl, rfl, a2.x.tr b2.x, c2.m.tr d2.m, Or.inl ⟨sk b z p, L, cd, pk.tt (a2.tr b2) (c2.tr d2) b3 d3 (by omega), hqg⟩⟩
theorem j_prod (hz : z ≤ 150) (hn : 20000 ≤ n) (ho6 : o ≤ 6) (hU : UOK A b z n o) : POK A b z n o := by
  intro d d' hd hd' s S T p L h cd pk hh
  obtain ⟨d, rfl⟩ : ∃ e, d = e + 1 := ⟨d - 1, by omega⟩
  obtain ⟨d', rfl⟩ : ∃ e, d' = e + 1 := ⟨d' - 1, by omega⟩
  show ∃ S' T', g_X2_readProduct n (m_lawP_d n d) (A 48) (A 1) (nI o) S = some S' ∧ g_X12_readProduct n (m_modP_d n d') (A 60) T = some T' ∧ FXx A S S' ∧ FXm A T T' ∧ OUT A b z o s S' T' p (h + 1)
  obtain ⟨S1, T1, a1, a2, a3, a4, a5⟩ := hU d d' (by omega) (by omega) s S T p L h cd pk (by omega)
  unfold g_X2_readProduct g_X12_readProduct
  rw [show (m_lawP_d n d).2.2.1 (A 48) (A 1) (nI o) S = some S1 from a1, ob_mk, show (m_modP_d n d').2.2.2 (A 60) T = some T1 from a2, ob_mk]
  rcases a5 with ⟨p1, L1, cd1, pk1, lt1⟩ | ⟨kk, qq, x1, m1⟩
  · obtain ⟨S2, T2, c1, c2, c3, c4, c5⟩ := j_lProduct (n := n) hz hn ho6 hU (d := d) (d' := d') (by omega) (by omega) z p1 n n 0 s S1 T1 L1 h cd1 (by omega) (by have := pk1.1.1.2.2.2.1; omega) (by have := pk1.1.1.2.2.2.1; omega) (Nat.zero_le _) pk1 hh
    refine ⟨S2, T2, c1, c2, a3.tr c3, a4.tr c4, ?_⟩
    rcases c5 with ⟨p2, L2, cd2, pk2, lt2⟩ | er
    · exact Or.inl ⟨p2, L2, cd2, pk2, by omega⟩
    · exact Or.inr er
  · obtain ⟨n', rfl⟩ : ∃ n', n = n' + 1 := ⟨n - 1, by omega⟩
    obtain ⟨S2, c1, c2, c3⟩ := xl_ploop (n := n' + 1) (f := n') (i := 0) (r := m_lawP_d (n' + 1) d) (o := nI o) (x := 0) x1 hn
    rw [c1, rl_ploop m1]
    exact ⟨S2, T1, rfl, rfl, a3.tr c2, a4, Or.inr ⟨_, _, c3, m1⟩⟩
theorem j_lSum (hz : z ≤ 150) (hn : 20000 ≤ n) (ho6 : o ≤ 6) (hU : POK A b z n o) {d d' : Nat} (hd : 5 * (8 - o) - 1 ≤ d) (hd' : 5 * (8 - o) - 1 ≤ d') : ∀ (w p f f' i s : Nat) (S T : pq_S) (L h : Nat) (cd : Nat → Nat), z - p ≤ w → w < f → w < f' → i ≤ p → PK A b z o s S T p L (h + 1) cd → h ≤ 3 * o + 0 → ∃ S' T', b_X2_readSum_8 n (m_lawP_d n d) f (A 48) (A 1) (nI o) (nI i) S = some S' ∧ b_X12_readSum_4 n (m_modP_d n d') f' (A 60) T = some T' ∧ FXx A S S' ∧ FXm A T T' ∧ ((∃ p' L' cd', PK A b z o s S' T' p' L' (h + 1) cd' ∧ p ≤ p') ∨ ∃ k q, XLw A b z S' k q ∧ ME A b z T' k q) := by
  intro w
  induction w with
  | zero =>
    intro p f f' i s S T L h cd h1 h2 h3 h4 pk hh
    obtain ⟨f, rfl⟩ : ∃ g, f = g + 1 := ⟨f - 1, by omega⟩
    obtain ⟨f', rfl⟩ : ∃ g, f' = g + 1 := ⟨f' - 1, by omega⟩
    have hpz := pk.1.2.1
    have hp : p = z := by omega
    have e := sk_fix b (z := z) (p := p) (fun q => by omega)
    obtain ⟨T1, c1, c2, c3⟩ := r_here (n := n) pk.2.1 hn
    rw [e] at c1 c3
    obtain ⟨T2, d1, d2, d3⟩ := r_here (n := n) c3 hn
    rw [e] at d1 d3
    have mv : mv8 b z p = 0 := if_neg (by omega)
    have xv : xv8 b z p = -1 := if_neg (by omega)
    have hr : b_X12_readSum_4 n (m_modP_d n d') (f' + 1) (A 60) T = some T2 := by
      rw [b_X12_readSum_4, r_fine pk.2.1, cb_mk, if10, c1, cb_mk, mv, if_neg (by decide), d1, cb_mk, mv, if_neg (by decide)]
    rw [b_X2_readSum_8]
    by_cases hi : 150 ≤ i
    · rw [if_pos (show (150 : Int32) ≤ nI i from nI_le (a := 150) hi (by omega))]
      exact ⟨S, T2, rfl, hr, FX.rf _ _ _ _ _, c2.m.tr d2.m, Or.inl ⟨p, L, cd, pk.tt (TT.rf _ _ _) (c2.tr d2) pk.1 d3 pk.2.2.2.1, Nat.le_refl _⟩⟩
    · obtain ⟨S1, a1, a2, a3⟩ := x_next (n := n) pk.1 hn
      rw [e] at a1 a3
      obtain ⟨S2, b1, b2, b3⟩ := x_next (n := n) a3 hn
      rw [e] at b1 b3
      rw [if_neg (show ¬ (150 : Int32) ≤ nI i from nI_ge (b := 150) (by omega) (by decide)), a1, cb_mk, xv, if_neg (by decide), b1, cb_mk, xv, if_neg (by decide)]
      exact ⟨S2, T2, rfl, hr, a2.x.tr b2.x, c2.m.tr d2.m, Or.inl ⟨p, L, cd, pk.tt (a2.tr b2) (c2.tr d2) b3 d3 pk.2.2.2.1, Nat.le_refl _⟩⟩
  | succ w ih =>
    intro p f f' i s S T L h cd h1 h2 h3 h4 pk hh
    obtain ⟨f, rfl⟩ : ∃ g, f = g + 1 := ⟨f - 1, by omega⟩
    obtain ⟨f', rfl⟩ : ∃ g, f' = g + 1 := ⟨f' - 1, by omega⟩
    have hpz := pk.1.2.1
    by_cases hp : p = z
    · exact ih p (f + 1) (f' + 1) i s S T L h cd (by omega) (by omega) (by omega) h4 pk hh
    have hqz := sk_le b pk.1.2.1
    have hqg := sk_ge b z p
    have hss := sk_sk b z p
    have hb : sk b z p < z → b (sk b z p) ≤ 255 := fun q => pk.1.1.b8 q
    have hLs := pk.2.2.2.1
    obtain ⟨T1, c1, c2, c3⟩ := r_here (n := n) pk.2.1 hn
    obtain ⟨S1, a1, a2, a3⟩ := x_next (n := n) pk.1 hn
    rw [b_X2_readSum_8, b_X12_readSum_4, if_neg (show ¬ (150 : Int32) ≤ nI i from nI_ge (b := 150) (by omega) (by decide)), a1, cb_mk, r_fine pk.2.1, cb_mk, if10, c1, cb_mk]
    have q1 : (xv8 b z (sk b z p) = (43 : Int32)) ↔ (sk b z p < z ∧ b (sk b z p) = 43) := xv8_eq (c := 43) hb (by decide)
    have q2 : (xv8 b z (sk b z p) = (45 : Int32)) ↔ (sk b z p < z ∧ b (sk b z p) = 45) := xv8_eq (c := 45) hb (by decide)
    have r1 : (mv8 b z (sk b z p) = (43 : Int32)) ↔ (sk b z p < z ∧ b (sk b z p) = 43) := mv8_eq (c := 43) hb (by decide)
    have r2 : (mv8 b z (sk b z p) = (45 : Int32)) ↔ (sk b z p < z ∧ b (sk b z p) = 45) := mv8_eq (c := 45) hb (by decide)
    -- an operator stands there
    have step : ∀ (S3 T3 : pq_S) (op c wh : Nat), TT 1003 1006 S S3 → TT 1204 1206 T T3 → XF A b z S3 (sk b z p) → MF A b z T3 (sk b z p) → sk b z p < z → b (sk b z p) = op → op ≤ 255 → (2000 ≤ c ∧ c ≤ 2005) → lwWhat c = wh → ∃ S' T', b_X2_readSum_51 n (m_lawP_d n d) (b_X2_readSum_8 n (m_lawP_d n d) f) (A 48) (A 1) (nI o) (nI i) (nI c) S3 = some S' ∧ b_X12_readSum_43 n (m_modP_d n d') (b_X12_readSum_4 n (m_modP_d n d') f') (A 60) (nI wh) T3 = some T' ∧ FXx A S S' ∧ FXm A T T' ∧ ((∃ p' L' cd', PK A b z o s S' T' p' L' (h + 1) cd' ∧ p ≤ p') ∨ ∃ k q, XLw A b z S' k q ∧ ME A b z T' k q) := by
      intro S3 T3 op c wh t1 t2 x3 m3 hlt hop hop2 hc hwh
      obtain ⟨S4, e1, e2, e3⟩ := x_next (n := n) x3 hn
      rw [hss] at e1 e3
      obtain ⟨S5, g1, g2, g3⟩ := x_sg1 (n := n) (c := op) e3 (by rw [hss]; exact hlt) (by rw [hss]; exact hop) hn
      rw [hss] at g3
      have m4 := m3.mv (q := sk b z p + 1) (by omega)
      have tm : TT 1204 1206 T3 (sI T3 1204 (A 60) (nI (sk b z p + 1))) := (TT.rf _ _ _).wI (by decide) (by decide)
      have pk5 : PK A b z o (s + 1) S5 (sI T3 1204 (A 60) (nI (sk b z p + 1))) (sk b z p + 1) L (h + 1) cd := pk.tt ((t1.tr e2).tr g2) (t2.tr tm) g3 m4 (by omega)
      obtain ⟨S6, T6, y1, y2, y3, y4, y5⟩ := hU d d' hd hd' _ _ _ _ _ _ _ pk5 (by omega)
      unfold b_X2_readSum_51 b_X12_readSum_43
      rw [e1, cb_mk, show xv8 b z (sk b z p) = nI op by unfold xv8; rw [if_pos hlt, hop], g1, ob_mk, m3.2.2.1, nI_1 (sk b z p)]
      rw [show (m_lawP_d n d).2.1 (A 48) (A 1) (nI o) S5 = some S6 from y1, ob_mk, show (m_modP_d n d').2.1 (A 60) (sI T3 1204 (A 60) (nI (sk b z p + 1))) = some T6 from y2, ob_mk]
      have xx : FXx A S S6 := ((t1.tr e2).tr g2).x.tr y3
      have mm : FXm A T T6 := (t2.tr tm).m.tr y4
      rcases y5 with ⟨p6, L6, cd6, pk6, lt6⟩ | ⟨kk, qq, x6, m6⟩
      · have s6 := pk6.2.2.2.1
        obtain ⟨S7, T7, z1, z2, z3, z4, z5⟩ := j_emit (n := n) (c := c) (h' := h + 1) (s := s) hz ⟨pk6.1, pk6.2.1, pk6.2.2.1, by omega, pk6.2.2.2.2⟩ (by omega) (by omega) (by rw [if_neg (by omega), if_pos (by omega)]; rfl) (by omega)
        rw [hwh, show lwOf c = 0 from by unfold lwOf; rw [if_neg (by omega), if_neg (by omega)]] at z2
        rw [z1, ob_mk, show (0 : Int32) = nI 0 from rfl, z2, ob_mk]
        obtain ⟨S8, T8, i1, i2, i3, i4, i5⟩ := ih p6 f f' (i + 1) s S7 T7 _ h _ (by omega) (by omega) (by omega) (by omega) z5 hh
        refine ⟨S8, T8, ?_, i2, (xx.tr z3).tr i3, (mm.tr z4).tr i4, ?_⟩
        · rw [show nI i + 1 = nI (i + 1) from nI_1 i]; exact i1
        · rcases i5 with ⟨p8, L8, cd8, pk8, lt8⟩ | er
          · exact Or.inl ⟨p8, L8, cd8, pk8, by omega⟩
          · exact Or.inr er
      · obtain ⟨S7, z1, z2, z3⟩ := xl_app (n := n) (c := nI c) x6
        obtain ⟨f0, ef⟩ : ∃ g, f = g + 1 := ⟨f - 1, by omega⟩
        obtain ⟨f0', ef'⟩ : ∃ g, f' = g + 1 := ⟨f' - 1, by omega⟩
        subst ef
        subst ef'
        obtain ⟨S8, i1, i2, i3⟩ := xl_sloop (n := n) (f := f0) (i := 0) (r := m_lawP_d n d) (o := nI o) (x := nI i + 1) z3 hn
        rw [z1, ob_mk, r_emitE m6, ob_mk, i1, rl_sloop m6]
        exact ⟨S8, T6, rfl, rfl, (xx.tr z2).tr i2, mm, Or.inr ⟨_, _, i3, m6⟩⟩
    by_cases k1 : sk b z p < z ∧ b (sk b z p) = 43
    · rw [if_pos (q1.mpr k1), if_pos (r1.mpr k1)]
      unfold b_X2_readSum_33 b_X12_readSum_29
      obtain ⟨S2, b1, b2, b3⟩ := x_next (n := n) a3 hn
      rw [hss] at b1 b3
      obtain ⟨T2, d1, d2, d3⟩ := r_here (n := n) c3 hn
      rw [hss] at d1 d3
      rw [b1, cb_mk, if_pos (q1.mpr k1), d1, cb_mk, if_pos (r1.mpr k1)]
      exact step S2 T2 43 2000 2 (a2.tr b2) (c2.tr d2) b3 d3 k1.1 k1.2 (by decide) (by decide) rfl
    · rw [if_neg (fun q => k1 (q1.mp q)), if_neg (fun q => k1 (r1.mp q))]
      obtain ⟨S2, b1, b2, b3⟩ := x_next (n := n) a3 hn
      rw [hss] at b1 b3
      obtain ⟨T2, d1, d2, d3⟩ := r_here (n := n) c3 hn
      rw [hss] at d1 d3
      rw [b1, cb_mk, d1, cb_mk]
      by_cases k2 : sk b z p < z ∧ b (sk b z p) = 45
      · rw [if_pos (q2.mpr k2), if_pos (r2.mpr k2)]
        unfold b_X2_readSum_33 b_X12_readSum_29
        obtain ⟨S3, e1, e2, e3⟩ := x_next (n := n) b3 hn
        rw [hss] at e1 e3
        obtain ⟨T3, g1, g2, g3⟩ := r_here (n := n) d3 hn
        rw [hss] at g1 g3
        rw [e1, cb_mk, if_neg (fun q => k1 (q1.mp q)), g1, cb_mk, if_neg (fun q => k1 (r1.mp q))]
        exact step S3 T3 45 2001 3 ((a2.tr b2).tr e2) ((c2.tr d2).tr g2) e3 g3 k2.1 k2.2 (by decide) (by decide) rfl
      · rw [if_neg (fun q => k2 (q2.mp q)), if_neg (fun q => k2 (r2.mp q))]
        exact ⟨S2, T2, rfl, rfl, a2.x.tr b2.x, c2.m.tr d2.m, Or.inl ⟨sk b z p, L, cd, pk.tt (a2.tr b2) (c2.tr d2) b3 d3 (by omega), hqg⟩⟩
theorem j_sum (hz : z ≤ 150) (hn : 20000 ≤ n) (ho6 : o ≤ 6) (hP : POK A b z n o) : SOK A b z n o := by
  intro d d' hd hd' s S T p L h cd pk hh
  obtain ⟨d, rfl⟩ : ∃ e, d = e + 1 := ⟨d - 1, by omega⟩
  obtain ⟨d', rfl⟩ : ∃ e, d' = e + 1 := ⟨d' - 1, by omega⟩
  show ∃ S' T', g_X2_readSum n (m_lawP_d n d) (A 48) (A 1) (nI o) S = some S' ∧ g_X12_readSum n (m_modP_d n d') (A 60) T = some T' ∧ FXx A S S' ∧ FXm A T T' ∧ OUT A b z o s S' T' p (h + 1)
  obtain ⟨S1, T1, a1, a2, a3, a4, a5⟩ := hP d d' (by omega) (by omega) s S T p L h cd pk (by omega)
  unfold g_X2_readSum g_X12_readSum
  rw [show (m_lawP_d n d).2.1 (A 48) (A 1) (nI o) S = some S1 from a1, ob_mk, show (m_modP_d n d').2.1 (A 60) T = some T1 from a2, ob_mk]
  rcases a5 with ⟨p1, L1, cd1, pk1, lt1⟩ | ⟨kk, qq, x1, m1⟩
  · obtain ⟨S2, T2, c1, c2, c3, c4, c5⟩ := j_lSum (n := n) hz hn ho6 hP (d := d) (d' := d') (by omega) (by omega) z p1 n n 0 s S1 T1 L1 h cd1 (by omega) (by have := pk1.1.1.2.2.2.1; omega) (by have := pk1.1.1.2.2.2.1; omega) (Nat.zero_le _) pk1 hh
    refine ⟨S2, T2, c1, c2, a3.tr c3, a4.tr c4, ?_⟩
    rcases c5 with ⟨p2, L2, cd2, pk2, lt2⟩ | er
    · exact Or.inl ⟨p2, L2, cd2, pk2, by omega⟩
    · exact Or.inr er
  · obtain ⟨n', rfl⟩ : ∃ n', n = n' + 1 := ⟨n - 1, by omega⟩
    obtain ⟨S2, c1, c2, c3⟩ := xl_sloop (n := n' + 1) (f := n') (i := 0) (r := m_lawP_d (n' + 1) d) (o := nI o) (x := 0) x1 hn
    rw [c1, rl_sloop m1]
    exact ⟨S2, T1, rfl, rfl, a3.tr c2, a4, Or.inr ⟨_, _, c3, m1⟩⟩
theorem s_all (hz : z ≤ 150) (hn : 20000 ≤ n) : ∀ k o, o + k = 6 → SOK A b z n o := by
  intro k
  induction k with
  | zero => intro o ho; exact j_sum hz hn (by omega) (j_prod hz hn (by omega) (j_unit hz hn (by omega) (fun q => by omega)))
  | succ k ih => intro o ho; exact j_sum hz hn (by omega) (j_prod hz hn (by omega) (j_unit hz hn (by omega) (fun _ => ih (o + 1) (by omega))))
end
