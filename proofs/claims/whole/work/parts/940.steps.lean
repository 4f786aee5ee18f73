section
variable {A b : Nat → Nat} {z n P W M o : Nat} {S T : pq_S}
theorem r_sg1 {p c : Nat} (hm : MF A b z T p) (hq : sk b z p < z) (hc : b (sk b z p) = c) (hn : 20000 ≤ n) : ∃ T', m_X12_sign n (A 60) (nI c) T = some T' ∧ TT 1204 1206 T T' ∧ MF A b z T' (sk b z p + 1) := by
  obtain ⟨T1, a1, a2, a3⟩ := r_here (n := n) hm hn
  unfold m_X12_sign
  rw [r_fine hm, cb_mk, if10, a1, cb_mk, if_pos (show mv8 b z (sk b z p) = nI c by unfold mv8; rw [if_pos hq, hc]), b_X12_sign_24, r_fine a3, cb_mk, if10, a3.2.2.1, nI_1]
  exact ⟨_, rfl, a2.wI (by decide) (by decide), a3.mv hq⟩
/-- no word begins here: the reference's step is at fault -/
theorem r_stepN {q d' : Nat} (hn : 20000 ≤ n) (hm : MF A b z T q) (hsk : sk b z q = q) (hl : q < z → ¬ isL (b q)) : ∃ T', (m_modS_d n (d' + 1)) (A 60) T = some T' ∧ TT 1204 1206 T T' ∧ ME A b z T' 1 q := by
  obtain ⟨T3, w1, w2, w3⟩ := r_word (n := n) hm hn
  have hw : we b z q = q := we_n hl
  rw [hsk, hw] at w1
  rw [hsk] at w3
  have hnw : ∀ j, j < 20 → ¬ nI (wdV b q q) = nI (ofV j) := fun j hj x => by
    have h1 := (wd_iff (b := b) (q := q) (e := q) hj (Nat.le_refl _) (fun i h1 h2 => by omega)).mp x
    have h2 := (tx_l j hj).2.2
    have h3 := h1.1
    omega
  have h600 : q ≤ 600 := by have := hm.2.1; have := hm.1.2.2.2.1; omega
  obtain ⟨T4, c1, c2, c3⟩ := r_wr (n := n) (k := 1) (q := q) w3 (by decide) h600
  refine ⟨T4, ?_, w2.tr c2, c3⟩
  show g_X12_readStep n (m_modS_d n d') (A 60) T = _
  unfold g_X12_readStep
  rw [w1, cb_mk, r_of (by decide) hn, cb_mk, if_neg (hnw 15 (by decide)), r_of (by decide) hn, cb_mk, if_neg (hnw 16 (by decide)), r_of (by decide) hn, cb_mk, if_neg (hnw 17 (by decide)), r_of (by decide) hn, cb_mk, if_neg (hnw 18 (by decide)), r_of (by decide) hn, cb_mk, if_neg (hnw 13 (by decide)), r_of (by decide) hn, cb_mk, if_neg (hnw 19 (by decide)), w3.2.2.1, show m_X12_wrong n (A 60) 1 (nI q) T3 = some T4 from c1, ob_mk, b_X12_readStep_289, r_signE c3, ob_mk]
theorem xe_sl {k q f d : Nat} {o x : Int32} (h : XE A b z S k q) (hn : 20000 ≤ n) : ∃ S', b_X6_readSteps_3 n (m_proP_d n d) (f + 1) (A 36) (A 1) (A 4) o x S = some S' ∧ TT 1003 1006 S S' ∧ XE A b z S' k q := by
  rw [b_X6_readSteps_3]
  by_cases h1 : (150 : Int32) < x
  · rw [if_pos h1]; exact ⟨S, rfl, TT.rf _ _ _, h⟩
  · obtain ⟨S1, a1, a2, a3⟩ := x_nextE (n := n) h hn
    rw [if_neg h1, a1, cb_mk, if_pos rfl]
    exact ⟨S1, rfl, a2, a3⟩
/-- a step ahead of more: what both loops come to -/
theorem po_cat {S1 T1 S2 T2 : pq_S} {p q p1 R R1 : Nat} (hRR : R ≤ R1) (c1 : ∀ i, i < 5 * R → pA S1 (A 38) i = pA S (A 38) i ∧ pA T1 (A 78) i = pA T (A 78) i) (b1 : BL (pA S1 (A 38)) (pA T1 (A 78)) P W M (6 - o) R R1) (hp : p ≤ p1) (h : PO A b z P W M o S1 T1 S2 T2 p1 R1) : PO A b z P W M o S T S2 T2 p R := by
  rcases h with ⟨p', R', j1, j2, j3, j4, j5, j6, j7, j8, j9, j10⟩ | er
  · refine Or.inl ⟨p', R', by omega, j2, j3, j4, by omega, j6, j7, j8, fun i hi => ⟨by rw [(j9 i (by omega)).1, (c1 i hi).1], by rw [(j9 i (by omega)).2, (c1 i hi).2]⟩, ?_⟩
    exact (BL.cg _ _ _ b1 (fun i h1 h2 => j9 i (by omega))).cat j10 j5
  · exact Or.inr er
theorem j_nl {d d' : Nat} {x3 : Int32} (hn : 20000 ≤ n) (hz : z ≤ 150) (ho : o ≤ 6) (hd : 3 * (8 - o) - 1 ≤ d) (hd' : 8 - o ≤ d') (hNL : o < 6 → NOK A b z n P W M (o + 1)) : ∀ (w p f f' i R : Nat) (S T : pq_S), z - p ≤ w → w < f → w + 1 < f' → i ≤ p → XF A b z S p → MF A b z T p → LAY A S → LAY A T → CN A P W M S T → pI S 902 (A 37) = nI R → pI T 1240 (A 60) = nI (5 * R) → pI T 1207 (A 60) = nI o → 6 * R ≤ p → ∃ Sm S' T', b_X6_readSteps_3 n (m_proP_d n d) f (A 36) (A 1) (A 4) (nI o) (nI i) S = some Sm ∧ m_X10_takeSign n (A 1) 93 Sm = some S' ∧ b_X12_readStep_219 n (m_modS_d n d') f' (A 60) x3 T = K242 n A (m_modS_d n d') x3 T' ∧ FXx A S S' ∧ FXm A T T' ∧ PO A b z P W M o S T S' T' p R := by
  obtain ⟨e', ed'⟩ : ∃ x, d' = x + 1 := ⟨d' - 1, by omega⟩
  intro w
  induction w with
  | zero =>
    intro p f f' i R S T h1 h2 h3 h4 hx hm lS lT hN r37 t40 t07 h6
    obtain ⟨f, rfl⟩ : ∃ g, f = g + 1 := ⟨f - 1, by omega⟩
    obtain ⟨f', rfl⟩ : ∃ g, f' = g + 1 + 1 := ⟨f' - 2, by omega⟩
    have hpz := hx.2.1
    have hz6 := hx.1.2.2.2.1
    have e := sk_fix b (z := z) (p := p) (fun q => by omega)
    obtain ⟨S1, a1, a2, a3⟩ := x_next (n := n) hx hn
    obtain ⟨T1, c1, c2, c3⟩ := r_here (n := n) hm hn
    rw [e] at a1 a3 c1 c3
    obtain ⟨T2, s1, s2, s3⟩ := r_stepN (n := n) (d' := e') hn c3 e (fun q => by omega)
    obtain ⟨S2, y1, y2, y3⟩ := x_ref (n := n) (k := 1) (q := p) a3 (by decide) (by omega)
    obtain ⟨S3, v1, v2, v3⟩ := x_next (n := n) a3 hn
    rw [e] at v1 v3
    obtain ⟨S4, y1, y2, y3⟩ := x_ref (n := n) (k := 1) (q := p) v3 (by decide) (by omega)
    refine ⟨S1, S4, T2, ?_, ?_, ?_, (a2.x.tr v2.x).tr y2.x, c2.m.tr s2.m, Or.inr ⟨_, _, y3, s3⟩⟩
    · rw [b_X6_readSteps_3, if_neg (show ¬ (150 : Int32) < nI i from nI_nlt (a := 150) (by omega) (by decide)), a1, cb_mk, show xv8 b z p = -1 from if_neg (by omega), if_pos rfl]
    · unfold m_X10_takeSign
      rw [v1, cb_mk, show xv8 b z p = -1 from if_neg (by omega), if_neg (by decide), v3.2.2.1, show m_X10_refuse n (A 1) 1 (nI p) S3 = some S4 from y1, ob_mk]
    · rw [b_X12_readStep_219, r_fine hm, cb_mk, if10, c1, cb_mk, show mv8 b z p = 0 from if_neg (by omega), if_neg (by decide), ed', s1, ob_mk, r219E s3]
  | succ w ih =>
    intro p f f' i R S T h1 h2 h3 h4 hx hm lS lT hN r37 t40 t07 h6
    obtain ⟨f, rfl⟩ : ∃ g, f = g + 1 := ⟨f - 1, by omega⟩
    obtain ⟨f', rfl⟩ : ∃ g, f' = g + 1 + 1 := ⟨f' - 2, by omega⟩
    have hpz := hx.2.1
    by_cases hpe : p = z
    · exact ih p (f + 1) (f' + 1 + 1) i R S T (by omega) (by omega) (by omega) h4 hx hm lS lT hN r37 t40 t07 h6
    have hz6 := hx.1.2.2.2.1
    have hqz := sk_le b hx.2.1
    have hqg := sk_ge b z p
    have hss := sk_sk b z p
    have hb : sk b z p < z → b (sk b z p) ≤ 255 := fun q => hx.1.b8 q
    obtain ⟨S1, a1, a2, a3⟩ := x_next (n := n) hx hn
    obtain ⟨T1, c1, c2, c3⟩ := r_here (n := n) hm hn
    obtain ⟨S2, b1, b2, b3⟩ := x_next (n := n) a3 hn
    rw [hss] at b1 b3
    by_cases hq : sk b z p < z
    · have hx1 : ¬ xv8 b z (sk b z p) = -1 := by rw [show xv8 b z (sk b z p) = nI (b (sk b z p)) from if_pos hq]; exact nI_nm1 (by have := hb hq; omega)
      have q1 : (xv8 b z (sk b z p) = (93 : Int32)) ↔ (sk b z p < z ∧ b (sk b z p) = 93) := xv8_eq (c := 93) hb (by decide)
      have q2 : (mv8 b z (sk b z p) = (93 : Int32)) ↔ (sk b z p < z ∧ b (sk b z p) = 93) := mv8_eq (c := 93) hb (by decide)
      by_cases h93 : b (sk b z p) = 93
      · obtain ⟨S3, y1, y2, y3⟩ := x_sg1 (n := n) (c := 93) b3 (by rw [hss]; exact hq) (by rw [hss]; exact h93) hn
        rw [hss] at y3
        obtain ⟨T3, g1, g2, g3⟩ := r_sg1 (n := n) (c := 93) c3 (by rw [hss]; exact hq) (by rw [hss]; exact h93) hn
        rw [hss] at g3
        refine ⟨S2, S3, T3, ?_, y1, ?_, (a2.x.tr b2.x).tr y2.x, c2.m.tr g2.m, Or.inl ⟨_, R, by omega, y3, g3, by omega, Nat.le_refl _, by rw [y2.2 _ _ (by decide), b2.2 _ _ (by decide), a2.2 _ _ (by decide)]; exact r37, by rw [g2.2 _ _ (by decide), c2.2 _ _ (by decide)]; exact t40, by rw [g2.2 _ _ (by decide), c2.2 _ _ (by decide)]; exact t07, fun i _ => ⟨by rw [y2.1.2.2.2.2.2, b2.1.2.2.2.2.2, a2.1.2.2.2.2.2], by rw [g2.1.2.2.2.2.2, c2.1.2.2.2.2.2]⟩, BL.nil _ _⟩⟩
        · rw [b_X6_readSteps_3, if_neg (show ¬ (150 : Int32) < nI i from nI_nlt (a := 150) (by omega) (by decide)), a1, cb_mk, if_neg hx1, b1, cb_mk, if_pos (q1.mpr ⟨hq, h93⟩)]
        · rw [b_X12_readStep_219, r_fine hm, cb_mk, if10, c1, cb_mk, if_pos (q2.mpr ⟨hq, h93⟩), r_242, show m_X12_sign n (A 60) 93 T1 = some T3 from g1, ob_mk]
      · obtain ⟨Sw, S', T', j1, j2, j3, j4, j5, j6⟩ := j_step (n := n) (S := S2) (T := T1) hn hz b3 c3 hq hss ((lS.tt a2 (by decide)).tt b2 (by decide)) (lT.tt c2 (by decide)) (hN.fx lS lT (a2.x.tr b2.x) c2.m) (by rw [b2.2 _ _ (by decide), a2.2 _ _ (by decide)]; exact r37) (by rw [c2.2 _ _ (by decide)]; exact t40) (by rw [c2.2 _ _ (by decide)]; exact t07) (by omega) ho hd hd' hNL
        have kx : FXx A S S' := (a2.x.tr b2.x).tr j4
        have km : FXm A T T' := c2.m.tr j5
        have cls : ∀ X, b_X6_readSteps_3 n (m_proP_d n d) f (A 36) (A 1) (A 4) (nI o) (nI i + 1) S' = X → b_X6_readSteps_3 n (m_proP_d n d) (f + 1) (A 36) (A 1) (A 4) (nI o) (nI i) S = X := by
          intro X hX
          rw [b_X6_readSteps_3, if_neg (show ¬ (150 : Int32) < nI i from nI_nlt (a := 150) (by omega) (by decide)), a1, cb_mk, if_neg hx1, b1, cb_mk, if_neg (fun q => h93 (q1.mp q).2), j1, ob_mk]
          rcases j2 with ⟨g1, g2⟩ | ⟨g1, Sm, g2, g3⟩
          · rw [g1, cb_mk, if00, b_X6_readSteps_46, g2, ob_mk]; exact hX
          · rw [g1, cb_mk, if10, g2, ob_mk, b_X6_readSteps_46, g3, ob_mk]; exact hX
        have rf : ∀ X, b_X12_readStep_219 n (m_modS_d n d') (f' + 1) (A 60) x3 T' = X → b_X12_readStep_219 n (m_modS_d n d') (f' + 1 + 1) (A 60) x3 T = X := by
          intro X hX
          rw [b_X12_readStep_219, r_fine hm, cb_mk, if10, c1, cb_mk, if_neg (fun q => h93 (q2.mp q).2), j3, ob_mk]
          exact hX
        rcases j6 with ⟨p', R', g1, g2, g3, g4, g5, g6, g7, g8, g9, g10⟩ | ⟨kk, qq, g1, g2⟩
        · obtain ⟨Sm, Sn, Tn, i1, i2, i3, i4, i5, i6⟩ := ih p' f (f' + 1) (i + 1) R' S' T' (by omega) (by omega) (by omega) (by omega) g2 g3 (kx.lay lS (by decide) (by decide)) (km.lay lT (by decide) (by decide)) (hN.fx lS lT kx km) g6 g7 g8 g4
          refine ⟨Sm, Sn, Tn, cls _ (by rw [show nI i + 1 = nI (i + 1) from nI_1 i]; exact i1), i2, rf _ i3, kx.tr i4, km.tr i5, po_cat (p1 := p') (q := 0) g5 (fun i hi => ⟨by rw [(g9 i hi).1, b2.1.2.2.2.2.2, a2.1.2.2.2.2.2], by rw [(g9 i hi).2, c2.1.2.2.2.2.2]⟩) g10 (by omega) i6⟩
        · obtain ⟨f0, ef⟩ : ∃ g, f = g + 1 := ⟨f - 1, by omega⟩
          subst ef
          obtain ⟨Sm, i1, i2, i3⟩ := xe_sl (n := n) (f := f0) (d := d) (o := nI o) (x := nI i + 1) g1 hn
          obtain ⟨Sn, y1, y2, y3⟩ := x_signE (n := n) (c := 93) i3 (by decide) hn
          exact ⟨Sm, Sn, T', cls _ i1, y1, rf _ (r219E g2), (kx.tr i2.x).tr y2.x, km, Or.inr ⟨_, _, y3, g2⟩⟩
    · have hqe : sk b z p = z := by omega
      obtain ⟨T2, s1, s2, s3⟩ := r_stepN (n := n) (d' := e') hn c3 hss (fun q => by omega)
      obtain ⟨S4, y1, y2, y3⟩ := x_ref (n := n) (k := 1) (q := sk b z p) b3 (by decide) (by omega)
      refine ⟨S1, S4, T2, ?_, ?_, ?_, (a2.x.tr b2.x).tr y2.x, c2.m.tr s2.m, Or.inr ⟨_, _, y3, s3⟩⟩
      · rw [b_X6_readSteps_3, if_neg (show ¬ (150 : Int32) < nI i from nI_nlt (a := 150) (by omega) (by decide)), a1, cb_mk, show xv8 b z (sk b z p) = -1 from if_neg hq, if_pos rfl]
      · unfold m_X10_takeSign
        rw [b1, cb_mk, show xv8 b z (sk b z p) = -1 from if_neg hq, if_neg (by decide), b3.2.2.1, show m_X10_refuse n (A 1) 1 (nI (sk b z p)) S2 = some S4 from y1, ob_mk]
      · rw [b_X12_readStep_219, r_fine hm, cb_mk, if10, c1, cb_mk, show mv8 b z (sk b z p) = 0 from if_neg hq, if_neg (by decide), ed', s1, ob_mk, r219E s3]
theorem j_nok (hn : 20000 ≤ n) (hz : z ≤ 150) : ∀ k o, o + k = 6 → NOK A b z n P W M o := by
  have st : ∀ o, o ≤ 6 → (o < 6 → NOK A b z n P W M (o + 1)) → NOK A b z n P W M o := by
    intro o ho hNL d d' hd hd' S T p R x3 hx hm lS lT hN r37 t40 t07 h6
    obtain ⟨d, rfl⟩ : ∃ x, d = x + 1 := ⟨d - 1, by omega⟩
    have hz6 := hx.1.2.2.2.1
    exact j_nl (n := n) (x3 := x3) hn hz ho (by omega) hd' hNL z p n n 0 R S T (by omega) (by omega) (by omega) (by omega) hx hm lS lT hN r37 t40 t07 h6
  intro k
  induction k with
  | zero => intro o ho; exact st o (by omega) (fun q => by omega)
  | succ k ih => intro o ho; exact st o (by omega) (fun _ => ih (o + 1) (by omega))
/-- the end of the class's reading -/
def clsE (n : Nat) (A : Nat → Nat) (S : pq_S) : Option pq_S := cb (m_X10_next n (A 1) S) fun r10 S_8 => if r10 = (-1) then some S_8 else Option.bind (m_X10_refuse n (A 1) 1 (pI S_8 1003 (A 1)) S_8) fun S_13 => some S_13
theorem j_tl {d : Nat} (hn : 20000 ≤ n) (hz : z ≤ 150) (hd : 23 ≤ d) : ∀ (w p f f' i R : Nat) (S T : pq_S), z - p ≤ w → w < f → w + 1 < f' → i ≤ p → XF A b z S p → MF A b z T p → LAY A S → LAY A T → CN A P W M S T → pI S 902 (A 37) = nI R → pI T 1240 (A 60) = nI (5 * R) → pI T 1207 (A 60) = nI 0 → 6 * R ≤ p → ∃ Sm S' T', b_X6_readSteps_3 n (m_proP_d n d) f (A 36) (A 1) (A 4) (nI 0) (nI i) S = some Sm ∧ clsE n A Sm = some S' ∧ b_X12_work_68 n f' (A 60) T = b_X12_work_89 n (A 60) T' ∧ FXx A S S' ∧ FXm A T T' ∧ PO A b z P W M 0 S T S' T' p R := by
  have hNL : (0 : Nat) < 6 → NOK A b z n P W M (0 + 1) := fun _ => j_nok hn hz 5 1 (by omega)
  intro w
  induction w with
  | zero =>
    intro p f f' i R S T h1 h2 h3 h4 hx hm lS lT hN r37 t40 t07 h6
    obtain ⟨f, rfl⟩ : ∃ g, f = g + 1 := ⟨f - 1, by omega⟩
    obtain ⟨f', rfl⟩ : ∃ g, f' = g + 1 + 1 := ⟨f' - 2, by omega⟩
    have hpz := hx.2.1
    have hz6 := hx.1.2.2.2.1
    have e := sk_fix b (z := z) (p := p) (fun q => by omega)
    obtain ⟨S1, a1, a2, a3⟩ := x_next (n := n) hx hn
    obtain ⟨T1, c1, c2, c3⟩ := r_here (n := n) hm hn
    rw [e] at a1 a3 c1 c3
    obtain ⟨S3, v1, v2, v3⟩ := x_next (n := n) a3 hn
    rw [e] at v1 v3
    refine ⟨S1, S3, T1, ?_, ?_, ?_, a2.x.tr v2.x, c2.m, Or.inl ⟨p, R, Nat.le_refl _, v3, c3, h6, Nat.le_refl _, by rw [v2.2 _ _ (by decide), a2.2 _ _ (by decide)]; exact r37, by rw [c2.2 _ _ (by decide)]; exact t40, by rw [c2.2 _ _ (by decide)]; exact t07, fun i _ => ⟨by rw [v2.1.2.2.2.2.2, a2.1.2.2.2.2.2], by rw [c2.1.2.2.2.2.2]⟩, BL.nil _ _⟩⟩
    · rw [b_X6_readSteps_3, if_neg (show ¬ (150 : Int32) < nI i from nI_nlt (a := 150) (by omega) (by decide)), a1, cb_mk, show xv8 b z p = -1 from if_neg (by omega), if_pos rfl]
    · unfold clsE
      rw [v1, cb_mk, show xv8 b z p = -1 from if_neg (by omega), if_pos rfl]
    · rw [b_X12_work_68, r_fine hm, cb_mk, if10, m_X12_isMore, c1, cb_mk, c3.1.2.2.1, c3.2.2.1, if_pos (nI_le (by omega) (by omega)), cb_mk, if00]
  | succ w ih =>
    intro p f f' i R S T h1 h2 h3 h4 hx hm lS lT hN r37 t40 t07 h6
    obtain ⟨f, rfl⟩ : ∃ g, f = g + 1 := ⟨f - 1, by omega⟩
    obtain ⟨f', rfl⟩ : ∃ g, f' = g + 1 + 1 := ⟨f' - 2, by omega⟩
    have hpz := hx.2.1
    by_cases hpe : p = z
    · exact ih p (f + 1) (f' + 1 + 1) i R S T (by omega) (by omega) (by omega) h4 hx hm lS lT hN r37 t40 t07 h6
    have hz6 := hx.1.2.2.2.1
    have hqz := sk_le b hx.2.1
    have hqg := sk_ge b z p
    have hss := sk_sk b z p
    have hb : sk b z p < z → b (sk b z p) ≤ 255 := fun q => hx.1.b8 q
    obtain ⟨S1, a1, a2, a3⟩ := x_next (n := n) hx hn
    obtain ⟨T1, c1, c2, c3⟩ := r_here (n := n) hm hn
    obtain ⟨S2, b1, b2, b3⟩ := x_next (n := n) a3 hn
    rw [hss] at b1 b3
    have em : ∀ (K : Int32 → pq_S → Option (Int32 × pq_S)), cb (m_X12_isMore n (A 60) T) K = K (if sk b z p < z then 1 else 0) T1 := by
      intro K
      rw [m_X12_isMore, c1, cb_mk, c3.1.2.2.1, c3.2.2.1]
      by_cases hq : sk b z p < z
      · rw [if_neg (nI_ge hq (by omega)), cb_mk, if_pos hq]
      · rw [if_pos (nI_le (by omega) (by omega)), cb_mk, if_neg hq]
    by_cases hq : sk b z p < z
    · have hx1 : ¬ xv8 b z (sk b z p) = -1 := by rw [show xv8 b z (sk b z p) = nI (b (sk b z p)) from if_pos hq]; exact nI_nm1 (by have := hb hq; omega)
      have q1 : (xv8 b z (sk b z p) = (93 : Int32)) ↔ (sk b z p < z ∧ b (sk b z p) = 93) := xv8_eq (c := 93) hb (by decide)
      by_cases h93 : b (sk b z p) = 93
      · obtain ⟨T2, s1, s2, s3⟩ := r_stepN (n := n) (d' := 63) hn c3 hss (fun _ x => by unfold isL at x; omega)
        obtain ⟨S3, v1, v2, v3⟩ := x_next (n := n) b3 hn
        rw [hss] at v1 v3
        obtain ⟨S4, y1, y2, y3⟩ := x_ref (n := n) (k := 1) (q := sk b z p) v3 (by decide) (by omega)
        refine ⟨S2, S4, T2, ?_, ?_, ?_, ((a2.x.tr b2.x).tr v2.x).tr y2.x, c2.m.tr s2.m, Or.inr ⟨_, _, y3, s3⟩⟩
        · rw [b_X6_readSteps_3, if_neg (show ¬ (150 : Int32) < nI i from nI_nlt (a := 150) (by omega) (by decide)), a1, cb_mk, if_neg hx1, b1, cb_mk, if_pos (q1.mpr ⟨hq, h93⟩)]
        · unfold clsE
          rw [v1, cb_mk, if_neg hx1, v3.2.2.1, show m_X10_refuse n (A 1) 1 (nI (sk b z p)) S3 = some S4 from y1, ob_mk]
        · rw [b_X12_work_68, r_fine hm, cb_mk, if10, em, if_pos hq, if10, show m_X12_readStep n (A 60) T1 = some T2 from s1, ob_mk, b_X12_work_68, r_fineE s3, cb_mk, if00]
      · obtain ⟨Sw, S', T', j1, j2, j3, j4, j5, j6⟩ := j_step (n := n) (S := S2) (T := T1) (o := 0) (d := d) (d' := 64) hn hz b3 c3 hq hss ((lS.tt a2 (by decide)).tt b2 (by decide)) (lT.tt c2 (by decide)) (hN.fx lS lT (a2.x.tr b2.x) c2.m) (by rw [b2.2 _ _ (by decide), a2.2 _ _ (by decide)]; exact r37) (by rw [c2.2 _ _ (by decide)]; exact t40) (by rw [c2.2 _ _ (by decide)]; exact t07) (by omega) (by omega) (by omega) (by omega) hNL
        have kx : FXx A S S' := (a2.x.tr b2.x).tr j4
        have km : FXm A T T' := c2.m.tr j5
        have cls : ∀ X, b_X6_readSteps_3 n (m_proP_d n d) f (A 36) (A 1) (A 4) (nI 0) (nI i + 1) S' = X → b_X6_readSteps_3 n (m_proP_d n d) (f + 1) (A 36) (A 1) (A 4) (nI 0) (nI i) S = X := by
          intro X hX
          rw [b_X6_readSteps_3, if_neg (show ¬ (150 : Int32) < nI i from nI_nlt (a := 150) (by omega) (by decide)), a1, cb_mk, if_neg hx1, b1, cb_mk, if_neg (fun q => h93 (q1.mp q).2), j1, ob_mk]
          rcases j2 with ⟨g1, g2⟩ | ⟨g1, Sm, g2, g3⟩
          · rw [g1, cb_mk, if00, b_X6_readSteps_46, g2, ob_mk]; exact hX
          · rw [g1, cb_mk, if10, g2, ob_mk, b_X6_readSteps_46, g3, ob_mk]; exact hX
        have rf : ∀ X, b_X12_work_68 n (f' + 1) (A 60) T' = X → b_X12_work_68 n (f' + 1 + 1) (A 60) T = X := by
          intro X hX
          rw [b_X12_work_68, r_fine hm, cb_mk, if10, em, if_pos hq, if10, show m_X12_readStep n (A 60) T1 = some T' from j3, ob_mk]
          exact hX
        rcases j6 with ⟨p', R', g1, g2, g3, g4, g5, g6, g7, g8, g9, g10⟩ | ⟨kk, qq, g1, g2⟩
        · obtain ⟨Sm, Sn, Tn, i1, i2, i3, i4, i5, i6⟩ := ih p' f (f' + 1) (i + 1) R' S' T' (by omega) (by omega) (by omega) (by omega) g2 g3 (kx.lay lS (by decide) (by decide)) (km.lay lT (by decide) (by decide)) (hN.fx lS lT kx km) g6 g7 g8 g4
          refine ⟨Sm, Sn, Tn, cls _ (by rw [show nI i + 1 = nI (i + 1) from nI_1 i]; exact i1), i2, rf _ i3, kx.tr i4, km.tr i5, po_cat (p1 := p') (q := 0) g5 (fun i hi => ⟨by rw [(g9 i hi).1, b2.1.2.2.2.2.2, a2.1.2.2.2.2.2], by rw [(g9 i hi).2, c2.1.2.2.2.2.2]⟩) g10 (by omega) i6⟩
        · obtain ⟨f0, ef⟩ : ∃ g, f = g + 1 := ⟨f - 1, by omega⟩
          subst ef
          obtain ⟨Sm, i1, i2, i3⟩ := xe_sl (n := n) (f := f0) (d := d) (o := nI 0) (x := nI i + 1) g1 hn
          obtain ⟨Sn, y1, y2, y3⟩ := x_nextE (n := n) i3 hn
          refine ⟨Sm, Sn, T', cls _ i1, ?_, rf _ ?_, (kx.tr i2.x).tr y2.x, km, Or.inr ⟨_, _, y3, g2⟩⟩
          · unfold clsE
            rw [y1, cb_mk, if_pos rfl]
          · rw [b_X12_work_68, r_fineE g2, cb_mk, if00]
    · refine ⟨S1, S2, T1, ?_, ?_, ?_, a2.x.tr b2.x, c2.m, Or.inl ⟨sk b z p, R, by omega, b3, c3, by omega, Nat.le_refl _, by rw [b2.2 _ _ (by decide), a2.2 _ _ (by decide)]; exact r37, by rw [c2.2 _ _ (by decide)]; exact t40, by rw [c2.2 _ _ (by decide)]; exact t07, fun i _ => ⟨by rw [b2.1.2.2.2.2.2, a2.1.2.2.2.2.2], by rw [c2.1.2.2.2.2.2]⟩, BL.nil _ _⟩⟩
      · rw [b_X6_readSteps_3, if_neg (show ¬ (150 : Int32) < nI i from nI_nlt (a := 150) (by omega) (by decide)), a1, cb_mk, show xv8 b z (sk b z p) = -1 from if_neg hq, if_pos rfl]
      · unfold clsE
        rw [b1, cb_mk, show xv8 b z (sk b z p) = -1 from if_neg hq, if_pos rfl]
      · rw [b_X12_work_68, r_fine hm, cb_mk, if10, em, if_neg hq, if00]
/-- all of the reading of a work -/
theorem j_work (hn : 20000 ≤ n) (hz : z ≤ 150) (hx : XF A b z S 0) (hm : MF A b z T 0) (lS : LAY A S) (lT : LAY A T) (hN : CN A P W M S T) (t07 : pI T 1207 (A 60) = 0) : ∃ S', m_X6_read n (A 36) (A 1) (A 4) S = some S' ∧ (FXy A S S' ∧ pI S' 601 (A 36) = 0 ∧ pI S' 602 (A 36) = 0 ∧ pI S' 603 (A 36) = 0) ∧ ∃ T', b_X12_work_68 n n (A 60) (sI T 1240 (A 60) 0) = b_X12_work_89 n (A 60) T' ∧ FXm A T T' ∧ ((∃ p' R', XF A b z S' p' ∧ MF A b z T' p' ∧ R' ≤ 25 ∧ pI S' 902 (A 37) = nI R' ∧ pI T' 1240 (A 60) = nI (5 * R') ∧ BL (pA S' (A 38)) (pA T' (A 78)) P W M 6 0 R') ∨ EE A b z S' T') := by
  have hz6 := hx.1.2.2.2.1
  obtain ⟨S1, e1, k1, _⟩ := x_clrF (n := n) (A := A) (S := S) (t := 37) (c := 38) lS.r37_900 lS.n38 (by decide) hn
  have l1 := k1.lay lS (by decide) (by decide)
  have k2 : FX [601, 602, 603] [] [] A S1 (sI (sI (sI S1 601 (A 36) 0) 602 (A 36) 0) 603 (A 36) 0) := (((FX.rf _ _ _ _ _).wI (by decide)).wI (by decide)).wI (by decide)
  have l2 := k2.lay l1 (by decide) (by decide)
  have z37 : pI S1 902 (A 37) = 0 := by
    have h := x_clr (n := n) (A := A) (S := S) (t := 37) (c := 38) lS.r37_900 lS.n38 (by decide) hn
    rw [e1] at h
    cases h
    rw [pI_sF, pI_e]
  have kT : FX [1240] [] [] A T (sI T 1240 (A 60) 0) := (FX.rf _ _ _ _ _).wI (by decide)
  have kx : FXy A S (sI (sI (sI S1 601 (A 36) 0) 602 (A 36) 0) 603 (A 36) 0) := (k1.mono (by decide) (by decide) (by decide)).tr (k2.mono (by decide) (by decide) (by decide))
  have hN2 : CN A P W M (sI (sI (sI S1 601 (A 36) 0) 602 (A 36) 0) 603 (A 36) 0) (sI T 1240 (A 60) 0) := by
    refine ⟨hN.1, ⟨?_, ?_, ?_⟩, ?_, ?_, ?_⟩
    · rw [kx.I lS (by decide) (by decide) (by decide)]; exact hN.2.1.1
    · rw [kx.I lS (by decide) (by decide) (by decide)]; exact hN.2.1.2.1
    · rw [kx.I lS (by decide) (by decide) (by decide)]; exact hN.2.1.2.2
    · rw [pI_n (by decide)]; exact hN.2.2.1
    · rw [pI_n (by decide)]; exact hN.2.2.2.1
    · rw [pI_n (by decide)]; exact hN.2.2.2.2
  have km : FXm A T (sI T 1240 (A 60) 0) := kT.mono (by decide) (by decide) (by decide)
  obtain ⟨Sm, S', T', a1, a2, a3, a4, a5, a6⟩ := j_tl (n := n) (A := A) (b := b) (z := z) (P := P) (W := W) (M := M) (d := 63) hn hz (by decide) z 0 n n 0 0 _ _ (by omega) (by omega) (by omega) (by omega) ((hx.fx k1 lS (by decide) (by decide) (by decide)).fx k2 l1 (by decide) (by decide) (by decide)) (hm.fx kT lT (by decide) (by decide) (by decide)) l2 (kT.lay lT (by decide) (by decide)) hN2 (by rw [pI_n (by decide), pI_n (by decide), pI_n (by decide), z37]; rfl) (by rw [pI_e]; rfl) (by rw [pI_n (by decide)]; exact t07) (by omega)
  refine ⟨S', ?_, ⟨kx.tr a4.y, ?_, ?_, ?_⟩, T', a3, km.tr a5, ?_⟩
  · unfold m_X6_read m_X6_readSteps
    rw [lS.r36_600, ob_mk, e1, ob_mk, show (m_proP_d n 64).1 (A 36) (A 1) (A 4) 0 (sI (sI (sI S1 601 (A 36) 0) 602 (A 36) 0) 603 (A 36) 0) = some Sm from a1, ob_mk]
    exact a2
  · rw [a4.I l2 (by decide) (by decide) (by decide), pI_n (by decide), pI_n (by decide), pI_e]
  · rw [a4.I l2 (by decide) (by decide) (by decide), pI_n (by decide), pI_e]
  · rw [a4.I l2 (by decide) (by decide) (by decide), pI_e]
  · rcases a6 with ⟨p', R', j1, j2, j3, j4, j5, j6, j7, j8, j9, j10⟩ | er
    · have := j2.2.1
      exact Or.inl ⟨p', R', j2, j3, by omega, j6, j7, j10⟩
    · exact Or.inr er
end
