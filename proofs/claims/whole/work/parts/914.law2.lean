/-! laws: a unit -/
def SOK (A b : Nat → Nat) (z n o : Nat) : Prop := ∀ d d', 5 * (8 - o) ≤ d → 5 * (8 - o) ≤ d' → ∀ s S T p L h cd, PK A b z o s S T p L h cd → h ≤ 3 * o → ∃ S' T', (m_lawP_d n d).1 (A 48) (A 1) (nI o) S = some S' ∧ (m_modP_d n d').1 (A 60) T = some T' ∧ FXx A S S' ∧ FXm A T T' ∧ OUT A b z o s S' T' p (h + 1)
def POK (A b : Nat → Nat) (z n o : Nat) : Prop := ∀ d d', 5 * (8 - o) - 1 ≤ d → 5 * (8 - o) - 1 ≤ d' → ∀ s S T p L h cd, PK A b z o s S T p L h cd → h ≤ 3 * o + 1 → ∃ S' T', (m_lawP_d n d).2.1 (A 48) (A 1) (nI o) S = some S' ∧ (m_modP_d n d').2.1 (A 60) T = some T' ∧ FXx A S S' ∧ FXm A T T' ∧ OUT A b z o s S' T' p (h + 1)
def UOK (A b : Nat → Nat) (z n o : Nat) : Prop := ∀ d d', 5 * (8 - o) - 2 ≤ d → 5 * (8 - o) - 2 ≤ d' → ∀ s S T p L h cd, PK A b z o s S T p L h cd → h ≤ 3 * o + 2 → ∃ S' T', (m_lawP_d n d).2.2.1 (A 48) (A 1) (nI o) S = some S' ∧ (m_modP_d n d').2.2.2 (A 60) T = some T' ∧ FXx A S S' ∧ FXm A T T' ∧ OUT A b z o s S' T' p (h + 1)
section
variable {A b : Nat → Nat} {z n o s : Nat} {S T : pq_S}
theorem r_open {q y : Nat} (hm : MF A b z T q) (ho : pI T 1207 (A 60) = nI o) (h6 : o < 6) (hy : q + y ≤ z) : ∃ T', m_X12_opensOne n (A 60) (nI y) T = some T' ∧ MF A b z T' (q + y) ∧ pI T' 1207 (A 60) = nI (o + 1) ∧ FX [1204, 1207] [] [] A T T' := by
  unfold m_X12_opensOne
  rw [r_fine hm, cb_mk, if10, ho, if_neg (show ¬ nI o = (6 : Int32) from fun q => by have := (nI_eq (b := 6) (by omega) (by decide)).mp q; omega), b_X12_opensOne_25, r_fine hm, cb_mk, if10, hm.2.2.1, nI_add, b_X12_opensOne_42, pI_n (by decide), ho, nI_1]
  exact ⟨_, rfl, (hm.mv hy).op, pI_e .., ((FX.rf _ _ _ _ _).wI (by decide)).wI (by decide)⟩
theorem r_open6 {q : Nat} {y : Int32} (hm : MF A b z T q) (ho : pI T 1207 (A 60) = nI 6) (hq : q ≤ 600) : ∃ T', m_X12_opensOne n (A 60) y T = some T' ∧ ME A b z T' 3 q ∧ FXm A T T' := by
  obtain ⟨T1, a1, a2, a3⟩ := r_wr (n := n) (k := 3) (q := q) hm (by decide) hq
  unfold m_X12_opensOne
  rw [r_fine hm, cb_mk, if10, ho, if_pos (show nI 6 = (6 : Int32) from rfl), hm.2.2.1, show (3 : Int32) = nI 3 from rfl, a1, ob_mk, b_X12_opensOne_25, r_fineE a3, cb_mk, if00, b_X12_opensOne_42]
  exact ⟨_, rfl, a3.op, a2.m.wI (by decide)⟩
theorem xl_t1 {k q : Nat} {c : Int32} (h : XLw A b z S k q) (hn : 20000 ≤ n) : ∃ S', (Option.bind (m_X10_takeSign n (A 1) 93 S) fun S_14 => Option.bind (m_X2_append n (A 48) c S_14) fun S_17 => some S_17) = some S' ∧ FXx A S S' ∧ XLw A b z S' k q := by
  obtain ⟨S1, a1, a2, a3⟩ := xl_sign (n := n) (c := 93) h (by decide) hn
  obtain ⟨S2, c1, c2, c3⟩ := xl_app (n := n) (c := c) a3
  exact ⟨S2, by rw [show (93 : Int32) = nI 93 from rfl, a1, ob_mk, c1, ob_mk], a2.tr c2, c3⟩
theorem xl_t2 {k q d : Nat} {c o : Int32} (h : XLw A b z S k q) (hd : 3 ≤ d) (hn : 20000 ≤ n) : ∃ S', (Option.bind ((m_lawP_d n d).1 (A 48) (A 1) o S) fun S_11 => Option.bind (m_X10_takeSign n (A 1) 93 S_11) fun S_14 => Option.bind (m_X2_append n (A 48) c S_14) fun S_17 => some S_17) = some S' ∧ FXx A S S' ∧ XLw A b z S' k q := by
  obtain ⟨S1, a1, a2, a3⟩ := xl_sum (n := n) (o := o) h hd hn
  obtain ⟨S2, c1, c2, c3⟩ := xl_t1 (n := n) (c := c) a3 hn
  exact ⟨S2, by rw [a1, ob_mk, c1], a2.tr c2, c3⟩
theorem xl_t3 {k q d : Nat} {c o : Int32} (h : XLw A b z S k q) (hd : 3 ≤ d) (hn : 20000 ≤ n) : ∃ S', (Option.bind (m_X10_takeSign n (A 1) 44 S) fun S_8 => Option.bind ((m_lawP_d n d).1 (A 48) (A 1) o S_8) fun S_11 => Option.bind (m_X10_takeSign n (A 1) 93 S_11) fun S_14 => Option.bind (m_X2_append n (A 48) c S_14) fun S_17 => some S_17) = some S' ∧ FXx A S S' ∧ XLw A b z S' k q := by
  obtain ⟨S1, a1, a2, a3⟩ := xl_sign (n := n) (c := 44) h (by decide) hn
  obtain ⟨S2, c1, c2, c3⟩ := xl_t2 (n := n) (c := c) (o := o) a3 hd hn
  exact ⟨S2, by rw [show (44 : Int32) = nI 44 from rfl, a1, ob_mk, c1], a2.tr c2, c3⟩
theorem xl_t4 {k q d : Nat} {c o : Int32} (h : XLw A b z S k q) (hd : 3 ≤ d) (hn : 20000 ≤ n) : ∃ S', (Option.bind ((m_lawP_d n d).1 (A 48) (A 1) o S) fun S_5 => Option.bind (m_X10_takeSign n (A 1) 44 S_5) fun S_8 => Option.bind ((m_lawP_d n d).1 (A 48) (A 1) o S_8) fun S_11 => Option.bind (m_X10_takeSign n (A 1) 93 S_11) fun S_14 => Option.bind (m_X2_append n (A 48) c S_14) fun S_17 => some S_17) = some S' ∧ FXx A S S' ∧ XLw A b z S' k q := by
  obtain ⟨S1, a1, a2, a3⟩ := xl_sum (n := n) (o := o) h hd hn
  obtain ⟨S2, c1, c2, c3⟩ := xl_t3 (n := n) (c := c) (o := o) a3 hd hn
  exact ⟨S2, by rw [a1, ob_mk, c1], a2.tr c2, c3⟩
theorem rl_t1 {k q : Nat} {c : Int32} (h : ME A b z T k q) : (Option.bind (m_X12_sign n (A 60) 93 T) fun S_16 => Option.bind (m_X12_emit n (A 60) c 0 (sI S_16 1207 (A 60) ((pI S_16 1207 (A 60)) - (1 : Int32)))) fun S_19 => some S_19) = some (sI T 1207 (A 60) ((pI T 1207 (A 60)) - (1 : Int32))) := by
  rw [r_signE h, ob_mk, r_emitE h.op, ob_mk]
theorem j_pair {q e y L h c d d' : Nat} {cd : Nat → Nat} (hz : z ≤ 150) (hn : 20000 ≤ n) (ho6 : o ≤ 6) (hS : o < 6 → SOK A b z n (o + 1)) (hd : 5 * (7 - o) ≤ d) (hd' : 5 * (7 - o) ≤ d') (hd3 : 3 ≤ d) (hd3' : 3 ≤ d') (hx : XF A b z S e) (hm : MF A b z T q) (h4 : pI S 1004 (A 1) = nI q) (he : e = q + y) (hy : 1 ≤ y) (hc : LCI A S T L h cd) (hs : L + s ≤ q) (h7 : pI T 1207 (A 60) = nI o) (lS : LAY A S) (lT : LAY A T) (hh : h ≤ 3 * o + 2) (hcc : c = 2004 ∨ c = 2005) : ∃ S' T', g_X2_readPair n (m_lawP_d n d) (A 48) (A 1) (nI o) (nI c) S = some S' ∧ g_X12_readTwo n (m_modP_d n d') (A 60) (nI y) (nI (lwWhat c)) T = some T' ∧ FXx A S S' ∧ FXm A T T' ∧ OUT A b z o s S' T' q (h + 1) := by
  have hez := hx.2.1
  have lof : lwOf c = 0 := by rcases hcc with rfl | rfl <;> rfl
  unfold g_X2_readPair g_X12_readTwo
  by_cases h6 : o < 6
  · obtain ⟨T1, a1, a2, a3, a4⟩ := r_open (n := n) (y := y) hm h7 h6 (by omega)
    rw [if_pos (show nI o < (6 : Int32) from nI_lt (b := 6) h6 (by decide)), a1, ob_mk, nI_1, show (91 : Int32) = nI 91 from rfl]
    rw [← he] at a2
    have lT1 := a4.lay lT (by decide) (by decide)
    have c1 : LCI A S T1 L h cd := by
      unfold LCI
      rw [a4.I lT (by decide) (by decide) (by decide), show pA T1 (A 71) = pA T (A 71) from funext fun i => a4.W lT (by decide) (by decide) i, show pA T1 (A 72) = pA T (A 72) from funext fun i => a4.W lT (by decide) (by decide) i]
      exact hc
    have pk1 : PK A b z (o + 1) (s + 1) S T1 e L h cd := ⟨hx, a2, c1, by omega, a3, lS, lT1⟩
    have m1 : FXm A T T1 := a4.mono (by decide) (by decide) (by decide)
    obtain ⟨S2, T2, b1, b2, b3, b4, b5⟩ := j_sign (n := n) (c := 91) hx a2 (by decide) hn
    rw [b1, ob_mk, b2, ob_mk]
    rcases b5 with ⟨w1, w2, x2, m2⟩ | ⟨kk, qq, x2, m2⟩
    · have g2 := sk_ge b z e
      have pk2 := pk1.tt (s' := s + 2) b3 b4 x2 m2 (by omega)
      obtain ⟨S3, T3, d1, d2, d3, d4, d5⟩ := hS h6 d d' (by omega) (by omega) _ S2 T2 _ _ _ _ pk2 (by omega)
      rw [d1, ob_mk, d2, ob_mk, show (44 : Int32) = nI 44 from rfl]
      rcases d5 with ⟨p3, L3, cd3, pk3, lt3⟩ | ⟨kk, qq, x3, m3⟩
      · obtain ⟨S4, T4, e1, e2, e3, e4, e5⟩ := j_sign (n := n) (c := 44) pk3.1 pk3.2.1 (by decide) hn
        rw [e1, ob_mk, e2, ob_mk]
        rcases e5 with ⟨v1, v2, x4, m4⟩ | ⟨kk, qq, x4, m4⟩
        · have g3 := sk_ge b z p3
          have s3 := pk3.2.2.2.1
          have pk4 := pk3.tt (s' := s + 2) e3 e4 x4 m4 (by omega)
          obtain ⟨S5, T5, f1, f2, f3, f4, f5⟩ := hS h6 d d' (by omega) (by omega) _ S4 T4 _ _ _ _ pk4 (by omega)
          rw [f1, ob_mk, f2, ob_mk, show (93 : Int32) = nI 93 from rfl]
          rcases f5 with ⟨p5, L5, cd5, pk5, lt5⟩ | ⟨kk, qq, x5, m5⟩
          · obtain ⟨S6, T6, i1, i2, i3, i4, i5⟩ := j_sign (n := n) (c := 93) pk5.1 pk5.2.1 (by decide) hn
            rw [i1, ob_mk, i2, ob_mk]
            have m6f := (((m1.tr b4.m).tr d4).tr (e4.m.tr f4)).tr i4.m
            have x6f := (((b3.x).tr d3).tr (e3.x.tr f3)).tr i3.x
            rcases i5 with ⟨v5, v6, x6, m6⟩ | ⟨kk, qq, x6, m6⟩
            · have g5 := sk_ge b z p5
              have s5 := pk5.2.2.2.1
              have pk6 := pk5.tt (s' := s + 2) i3 i4 x6 m6 (by omega)
              have pk7 : PK A b z o s S6 (sI T6 1207 (A 60) (nI o)) (sk b z p5 + 1) L5 (h + 2) cd5 := ⟨pk6.1, pk6.2.1.op, by
                have hc6 := pk6.2.2.1
                unfold LCI at hc6 ⊢
                rw [pI_n (by decide)]
                exact hc6, by omega, pI_e .., pk6.2.2.2.2.2.1, pk6.2.2.2.2.2.2.eqv rfl rfl rfl rfl (fun a => pI_n (by decide))⟩
              obtain ⟨S7, T7, y1, y2, y3, y4, y5⟩ := j_emit (n := n) (c := c) (h' := h + 1) hz pk7 (by omega) (by omega) (by rw [if_neg (by omega), if_pos (by omega)]; rfl) (by omega)
              rw [lof] at y2
              refine ⟨S7, T7, ?_, ?_, x6f.tr y3, (m6f.wI (by decide)).tr y4, Or.inl ⟨_, _, _, y5, by omega⟩⟩
              · rw [y1, ob_mk]
              · rw [pk6.2.2.2.2.1, nI_pred, show (0 : Int32) = nI 0 from rfl, y2, ob_mk]
            · obtain ⟨S7, y1, y2, y3⟩ := xl_app (n := n) (c := nI c) (pk5.er hz i3 x6)
              exact ⟨S7, _, by rw [y1, ob_mk], by rw [r_emitE m6.op, ob_mk], x6f.tr y2, m6f.wI (by decide), Or.inr ⟨_, _, y3, m6.op⟩⟩
          · obtain ⟨S7, y1, y2, y3⟩ := xl_t1 (n := n) (c := nI c) x5 hn
            exact ⟨S7, _, y1, rl_t1 m5, ((b3.x.tr d3).tr (e3.x.tr f3)).tr y2, ((m1.tr b4.m).tr d4).tr (e4.m.tr f4) |>.wI (by decide), Or.inr ⟨_, _, y3, m5.op⟩⟩
        · obtain ⟨S7, y1, y2, y3⟩ := xl_t2 (n := n) (c := nI c) (o := nI (o + 1)) (d := d) (pk3.er hz e3 x4) hd3 hn
          exact ⟨S7, _, y1, by rw [rl_sum m4 hd3' hn, ob_mk]; exact rl_t1 m4, ((b3.x.tr d3).tr e3.x).tr y2, (((m1.tr b4.m).tr d4).tr e4.m).wI (by decide), Or.inr ⟨_, _, y3, m4.op⟩⟩
      · obtain ⟨S7, y1, y2, y3⟩ := xl_t3 (n := n) (c := nI c) (o := nI (o + 1)) (d := d) x3 hd3 hn
        exact ⟨S7, _, y1, by rw [r_signE m3, ob_mk, rl_sum m3 hd3' hn, ob_mk]; exact rl_t1 m3, (b3.x.tr d3).tr y2, ((m1.tr b4.m).tr d4).wI (by decide), Or.inr ⟨_, _, y3, m3.op⟩⟩
    · obtain ⟨S7, y1, y2, y3⟩ := xl_t4 (n := n) (c := nI c) (o := nI (o + 1)) (d := d) (pk1.er hz b3 x2) hd3 hn
      exact ⟨S7, _, y1, by rw [rl_sum m2 hd3' hn, ob_mk, r_signE m2, ob_mk, rl_sum m2 hd3' hn, ob_mk]; exact rl_t1 m2, b3.x.tr y2, (m1.tr b4.m).wI (by decide), Or.inr ⟨_, _, y3, m2.op⟩⟩
  · have e6 : o = 6 := by omega
    subst e6
    obtain ⟨T1, a1, a2, a3⟩ := r_open6 (n := n) (y := nI y) hm h7 (by omega)
    obtain ⟨S1, b1, b2, b3⟩ := x_ref (n := n) (k := 3) (q := q) hx (by decide) (by omega)
    rw [if_neg (show ¬ nI 6 < (6 : Int32) by decide), h4, show (3 : Int32) = nI 3 from rfl, b1, ob_mk, a1, ob_mk, r_signE a2, ob_mk, rl_sum a2 hd3' hn, ob_mk, r_signE a2, ob_mk, rl_sum a2 hd3' hn, ob_mk]
    refine ⟨S1, _, rfl, rl_t1 a2, b2.x, a3.wI (by decide), Or.inr ⟨_, _, ⟨b3, lS.tt b2 (by decide), L, by omega, by rw [b2.2 _ _ (by decide)]; exact hc.1⟩, a2.op⟩⟩

theorem j_fact {q e W : Nat} {T' : pq_S} (hn : 20000 ≤ n) (hw : ∀ j, j < 20 → m_X10_isWord n (A 1) j S = some (@ite _ (wm b q e j) (Classical.propDecidable _) 1 0, S)) (hv : ∀ j, j < 20 → (nI W = nI (ofV j) ↔ wm b q e j)) (hr : m_X12_word n (A 60) T = some (nI W, T')) : ∃ v, m_X2_inputNamed n (A 1) S = some (v, S) ∧ m_X12_factHere n (A 60) T = some (v, T') ∧ ((∃ i, i ≤ 6 ∧ v = nI i) ∨ v = -1) := by
  unfold m_X2_inputNamed m_X12_factHere
  rw [hr, cb_mk]
  rw [hw 8 (by decide), cb_mk, r_of (by decide) hn, cb_mk]
  by_cases c8 : wm b q e 8
  · rw [if_pos c8, if10, if_pos ((hv 8 (by decide)).mpr c8)]
    exact ⟨0, rfl, rfl, Or.inl ⟨0, by decide, rfl⟩⟩
  rw [if_neg c8, if00, if_neg (fun x => c8 ((hv 8 (by decide)).mp x))]
  rw [hw 9 (by decide), cb_mk, r_of (by decide) hn, cb_mk]
  by_cases c9 : wm b q e 9
  · rw [if_pos c9, if10, if_pos ((hv 9 (by decide)).mpr c9)]
    exact ⟨1, rfl, rfl, Or.inl ⟨1, by decide, rfl⟩⟩
  rw [if_neg c9, if00, if_neg (fun x => c9 ((hv 9 (by decide)).mp x))]
  rw [hw 10 (by decide), cb_mk, r_of (by decide) hn, cb_mk]
  by_cases c10 : wm b q e 10
  · rw [if_pos c10, if10, if_pos ((hv 10 (by decide)).mpr c10)]
    exact ⟨2, rfl, rfl, Or.inl ⟨2, by decide, rfl⟩⟩
  rw [if_neg c10, if00, if_neg (fun x => c10 ((hv 10 (by decide)).mp x))]
  rw [hw 11 (by decide), cb_mk, r_of (by decide) hn, cb_mk]
  by_cases c11 : wm b q e 11
  · rw [if_pos c11, if10, if_pos ((hv 11 (by decide)).mpr c11)]
    exact ⟨3, rfl, rfl, Or.inl ⟨3, by decide, rfl⟩⟩
  rw [if_neg c11, if00, if_neg (fun x => c11 ((hv 11 (by decide)).mp x))]
  rw [hw 12 (by decide), cb_mk, r_of (by decide) hn, cb_mk]
  by_cases c12 : wm b q e 12
  · rw [if_pos c12, if10, if_pos ((hv 12 (by decide)).mpr c12)]
    exact ⟨4, rfl, rfl, Or.inl ⟨4, by decide, rfl⟩⟩
  rw [if_neg c12, if00, if_neg (fun x => c12 ((hv 12 (by decide)).mp x))]
  rw [hw 13 (by decide), cb_mk, r_of (by decide) hn, cb_mk]
  by_cases c13 : wm b q e 13
  · rw [if_pos c13, if10, if_pos ((hv 13 (by decide)).mpr c13)]
    exact ⟨5, rfl, rfl, Or.inl ⟨5, by decide, rfl⟩⟩
  rw [if_neg c13, if00, if_neg (fun x => c13 ((hv 13 (by decide)).mp x))]
  rw [hw 14 (by decide), cb_mk, r_of (by decide) hn, cb_mk]
  by_cases c14 : wm b q e 14
  · rw [if_pos c14, if10, if_pos ((hv 14 (by decide)).mpr c14)]
    exact ⟨6, rfl, rfl, Or.inl ⟨6, by decide, rfl⟩⟩
  rw [if_neg c14, if00, if_neg (fun x => c14 ((hv 14 (by decide)).mp x))]
  exact ⟨-1, rfl, rfl, Or.inr rfl⟩
end
