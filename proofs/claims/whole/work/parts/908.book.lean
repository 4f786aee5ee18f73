/-! book -/
def updN (g : Nat → Nat) (i v : Nat) : Nat → Nat := fun j => if j = i then v else g j
theorem updN_e (g : Nat → Nat) (i v : Nat) : updN g i v i = v := if_pos rfl
theorem updN_n (g : Nat → Nat) {i j : Nat} (v : Nat) (h : j ≠ i) : updN g i v j = g j := if_neg h
section
variable {A b : Nat → Nat} {z n : Nat} {S T : pq_S}
theorem x_bk6E {k q f : Nat} {x3 x4 : Int32} {a0 : Nat} (h : XE A b z S k q) (hn : 20000 ≤ n) : ∃ S', b_X0_read_6 n (f + 1) a0 (A 1) x3 x4 S = some S' ∧ TT 1003 1006 S S' ∧ XE A b z S' k q := by
  rw [b_X0_read_6]
  by_cases h1 : (100 : Int32) < x4
  · rw [if_pos h1]; exact ⟨S, rfl, TT.rf _ _ _, h⟩
  · obtain ⟨S1, a1, a2, a3⟩ := x_nextE h hn
    rw [if_neg h1, a1, cb_mk, if_pos rfl]
    exact ⟨S1, rfl, a2, a3⟩
theorem x_bk52E {k q f : Nat} {x3 x4 x5 : Int32} {a0 : Nat} (h : XE A b z S k q) (hn : 20000 ≤ n) : ∃ S', b_X0_read_52 n (b_X0_read_6 n (f + 1)) a0 (A 1) x3 x4 x5 S = some S' ∧ TT 1003 1006 S S' ∧ XE A b z S' k q := by
  obtain ⟨S1, a1, a2, a3⟩ := x_numE (n := n) h 0 99 hn
  obtain ⟨S2, c1, c2, c3⟩ := x_signE (n := n) (c := 59) a3 (by decide) hn
  unfold b_X0_read_52 b_X0_read_103
  rw [a1, cb_mk, show (59 : Int32) = nI 59 from rfl, c1, ob_mk, x_wellE c3, cb_mk, if00]
  obtain ⟨S3, d1, d2, d3⟩ := x_bk6E (n := n) (f := f) (x3 := x3) (x4 := x4 + 1) (a0 := a0) c3 hn
  exact ⟨S3, d1, (a2.tr c2).tr d2, d3⟩
theorem r_bk125E {k q : Nat} {K : Nat → Int32 → Int32 → pq_S → Option (Int32 × pq_S)} {x2 x3 x5 : Int32} (h : ME A b z T k q) : b_X12_book_125 n K (A 60) x2 x3 x5 T = b_X12_book_185 n (A 60) x2 T := by
  unfold b_X12_book_125
  rw [r_numE h, cb_mk, r_signE h, ob_mk, r_fineE h, cb_mk, if00, b_X12_book_147]
theorem r_bk105E {k q : Nat} {K : Nat → Int32 → Int32 → pq_S → Option (Int32 × pq_S)} {x2 x3 x4 x5 : Int32} (h : ME A b z T k q) : b_X12_book_105 n K (A 60) x2 x3 x4 x5 T = b_X12_book_185 n (A 60) x2 T := by
  unfold b_X12_book_105
  rw [r_fineE h, cb_mk, if00, r_bk125E h]
/-- the lines that are read so far -/
def BKI (A : Nat → Nat) (P : Nat) (S T : pq_S) (m : Nat) (bp bv : Nat → Nat) : Prop := m ≤ 6 ∧ pI S 1 (A 54) = nI m ∧ (∀ i, i < m → bp i < P ∧ bv i ≤ 99 ∧ pA T (A 83) (2 * i) = nI (bp i) ∧ pA T (A 83) (2 * i + 1) = nI (bv i) ∧ pA S (A 55) (bp i) = nI (bv i)) ∧ (∀ i j, i < m → j < m → bp i = bp j → i = j) ∧ ∀ p, p < 6 → (∀ i, i < m → bp i ≠ p) → pA S (A 55) p = -1
theorem BKI.tt {P m : Nat} {bp bv : Nat → Nat} {S' T' : pq_S} (h : BKI A P S T m bp bv) (k1 : TT 1003 1006 S S') (k2 : TT 1204 1206 T T') : BKI A P S' T' m bp bv := by
  unfold BKI
  rw [k1.2 1 _ (by decide), k1.1.2.2.2.2.2, k2.1.2.2.2.2.2]
  exact h
/-- which places are told -/
def GN (m : Nat) (bp : Nat → Nat) (G : Nat) : Prop := G < 64 ∧ ∀ p, p < 6 → (((nI G >>> (nI p &&& (31 : Int32))) &&& (1 : Int32)) = 1 ↔ ∃ i, i < m ∧ bp i = p)
theorem gn_t : ∀ G, G < 64 → ∀ p, p < 6 → ∃ H, H < 64 ∧ nI G ||| ((1 : Int32) <<< (nI p &&& (31 : Int32))) = nI H ∧ ∀ q, q < 6 → (((nI H >>> (nI q &&& (31 : Int32))) &&& (1 : Int32)) = 1 ↔ (q = p ∨ ((nI G >>> (nI q &&& (31 : Int32))) &&& (1 : Int32)) = 1)) := by
  have : ∀ G, G < 64 → ∀ p, p < 6 → (G ||| 2 ^ p) < 64 ∧ nI G ||| ((1 : Int32) <<< (nI p &&& (31 : Int32))) = nI (G ||| 2 ^ p) ∧ ∀ q, q < 6 → (((nI (G ||| 2 ^ p) >>> (nI q &&& (31 : Int32))) &&& (1 : Int32)) = 1 ↔ (q = p ∨ ((nI G >>> (nI q &&& (31 : Int32))) &&& (1 : Int32)) = 1)) := by decide +kernel
  intro G hG p hp
  exact ⟨_, this G hG p hp⟩
theorem bk_loop {P : Nat} (hP : P ≤ 6) (hz : z ≤ 100) (hn : 20000 ≤ n) (n53 : ∀ i j, i < 92 → j < 92 → A i = A j → i = j) : ∀ (w p f f' i : Nat) (S T : pq_S) (m : Nat) (bp bv : Nat → Nat) (G : Nat), z - p ≤ w → w < f → w < f' → i ≤ p → XF A b z S p → MF A b z T p → pR S 0 (A 54) = some (A 55) → pN S (A 55) = 6 → pR T 1249 (A 60) = some (A 83) → pN T (A 83) = 12 → pI T 1224 (A 60) = nI P → BKI A P S T m bp bv → GN m bp G → ∃ S', b_X0_read_6 n f (A 54) (A 1) (nI P) (nI i) S = some S' ∧ FXx A S S' ∧ ∃ T' m' bp' bv', b_X12_book_48 n f' (A 60) (nI m) (nI G) T = b_X12_book_185 n (A 60) (nI m') T' ∧ FXm A T T' ∧ ((∃ p', XF A b z S' p' ∧ MF A b z T' p' ∧ BKI A P S' T' m' bp' bv') ∨ EE A b z S' T') := by
  intro w
  induction w with
  | zero =>
    intro p f f' i S T m bp bv G h1 h2 h3 h4 hx hm r1 r2 r3 r4 r5 hB hG
    obtain ⟨f, rfl⟩ : ∃ g, f = g + 1 := ⟨f - 1, by omega⟩
    obtain ⟨f', rfl⟩ : ∃ g, f' = g + 1 := ⟨f' - 1, by omega⟩
    have hp : p = z := by have := hx.2.1; omega
    subst hp
    have e := sk_fix b (z := p) (p := p) (fun q => by omega)
    obtain ⟨S1, a1, a2, a3⟩ := x_next (n := n) hx hn
    obtain ⟨T1, c1, c2, c3⟩ := r_here (n := n) hm hn
    rw [e] at a1 a3 c1 c3
    rw [b_X0_read_6, if_neg (show ¬ (100 : Int32) < nI i from nI_nlt (b := i) (a := 100) (by omega) (by decide) |> fun q => nI_nlt (a := 100) (b := i) (by omega) (by decide)), a1, cb_mk, show xv8 b p p = -1 from if_neg (by omega), if_pos rfl]
    refine ⟨S1, rfl, a2.x, T1, m, bp, bv, ?_, c2.m, Or.inl ⟨p, a3, c3, hB.tt a2 c2⟩⟩
    rw [b_X12_book_48, r_fine hm, cb_mk, if10, m_X12_isMore, c1, cb_mk, c3.1.2.2.1, c3.2.2.1, if_pos (Int32.le_refl _), cb_mk, if00]
  | succ w ih =>
    intro p f f' i S T m bp bv G h1 h2 h3 h4 hx hm r1 r2 r3 r4 r5 hB hG
    obtain ⟨f, rfl⟩ : ∃ g, f = g + 1 := ⟨f - 1, by omega⟩
    obtain ⟨f', rfl⟩ : ∃ g, f' = g + 1 := ⟨f' - 1, by omega⟩
    obtain ⟨f1, ef1⟩ : ∃ g, f = g + 1 := ⟨f - 1, by omega⟩
    have hp1 := hx.2.1
    obtain ⟨S1, a1, a2, a3⟩ := x_next (n := n) hx hn
    obtain ⟨T1, c1, c2, c3⟩ := r_here (n := n) hm hn
    have hsk := sk_le b hx.2.1
    have hsg := sk_ge b z p
    rw [b_X0_read_6, if_neg (show ¬ (100 : Int32) < nI i from nI_nlt (a := 100) (b := i) (by omega) (by decide)), a1, cb_mk]
    by_cases hq : sk b z p < z
    · have hxv : xv8 b z (sk b z p) = nI (b (sk b z p)) := if_pos hq
      have hb8 := hx.1.b8 hq
      rw [hxv, if_neg (nI_nm1 (by omega))]
      have em : ∀ (K : Int32 → pq_S → Option (Int32 × pq_S)), cb (m_X12_isMore n (A 60) T) K = K 1 T1 := by
        intro K
        rw [m_X12_isMore, c1, cb_mk, c3.1.2.2.1, c3.2.2.1, if_neg (nI_ge hq (by omega)), cb_mk]
      obtain ⟨v, u, S2, T2, d1, d2, d3, d4, d5⟩ := j_num (n := n) (lo := 0) (hi := nI P - 1) a3 c3 (by
        rw [Int32.le_iff_toInt_le]
        have e : (nI P - 1 : Int32).toInt = (P : Int) - 1 := by
          rw [Int32.toInt_sub, nI_toInt (by omega)]
          show ((P : Int) - 1).bmod (2 ^ 32) = _
          apply Int.bmod_eq_of_le <;> omega
        rw [e]
        show (P : Int) - 1 ≤ 9999
        omega) hn
      have r5' : pI T1 1224 (A 60) = nI P := by rw [c2.2 _ _ (by decide)]; exact r5
      rw [d1, cb_mk]
      rcases d5 with ⟨k, e, rfl, rfl, k1, k2, k3, k4, xS2, mT2⟩ | ⟨kk, qq, xS2, mT2⟩
      · have hkP : k < P := by
          have := (i32_le_pred (v := nI k) (P := P) (by omega)).mp ⟨k2, k3⟩
          exact (nI_ltI (by omega) (by omega)).mp this.2
        have t1 := a2.tr d3
        have t2 := c2.tr d4
        have r1' : pR S2 0 (A 54) = some (A 55) := by rw [t1.1.2.2.1]; exact r1
        have r2' : pN S2 (A 55) = 6 := by rw [t1.1.2.2.2.1]; exact r2
        have hB2 := hB.tt t1 t2
        have bg : m_X0_begin n (A 54) (A 1) (nI k) (pI S1 1003 (A 1)) S2 = if pA S2 (A 55) k = -1 then (if nI m < 6 then some S2 else Option.bind (m_X10_refuse n (A 1) 3 (pI S1 1003 (A 1)) S2) fun S_8 => some S_8) else b_X0_begin_23 n (A 1) (pI S1 1003 (A 1)) S2 := by
          unfold m_X0_begin
          rw [if_neg (nI_pos (by omega)), r1', ob_mk, r2', ofN, if_neg (nI_ge (by omega) (by omega)), ob_mk, r2', ck_pos (ix_nI (by omega) (by decide)), nI_clamp (by omega), hB2.2.1]
        rw [x_well xS2, cb_mk, if10, bg, a3.2.2.1]
        have er : b_X12_book_48 n (f' + 1) (A 60) (nI m) (nI G) T = if ((nI G >>> (nI k &&& (31 : Int32))) &&& (1 : Int32)) = 1 then Option.bind (m_X12_wrong n (A 60) 2 (nI (sk b z p)) T2) fun S_36 => b_X12_book_105 n (b_X12_book_48 n f') (A 60) (nI m) (nI G) (nI (sk b z p)) (nI k) S_36 else b_X12_book_105 n (b_X12_book_48 n f') (A 60) (nI m) (nI G) (nI (sk b z p)) (nI k) T2 := by
          rw [b_X12_book_48, r_fine hm, cb_mk, if10, em, if10, r5', d2, cb_mk, r_fine mT2, cb_mk, if10, c3.2.2.1]
        rw [er]
        by_cases hu : ∃ j, j < m ∧ bp j = k
        · obtain ⟨j, hj, ej⟩ := hu
          obtain ⟨_, hv, _, _, hmi⟩ := hB2.2.2.1 j hj
          rw [ej] at hmi
          obtain ⟨S3, g1, g2, g3⟩ := x_ref (n := n) (k := 2) (q := sk b z p) xS2 (by decide) (by omega)
          obtain ⟨T3, g4, g5, g6⟩ := r_wr (n := n) (k := 2) (q := sk b z p) mT2 (by decide) (by omega)
          rw [if_neg (by rw [hmi]; exact nI_nm1 (by omega)), b_X0_begin_23, show (2 : Int32) = nI 2 from rfl, g1, ob_mk, ob_mk, if_pos ((hG.2 k (by omega)).mpr ⟨j, hj, ej⟩), g4, ob_mk, r_bk105E g6]
          subst ef1
          obtain ⟨S4, g7, g8, g9⟩ := x_bk52E (n := n) (f := f1) (x3 := nI P) (x4 := nI i) (x5 := nI k) (a0 := A 54) g3 hn
          exact ⟨S4, g7, ((t1.tr g2).tr g8).x, T3, m, bp, bv, rfl, (t2.tr g5).m, Or.inr ⟨_, _, g9, g6⟩⟩
        · have hu' : ∀ j, j < m → bp j ≠ k := fun j hj e => hu ⟨j, hj, e⟩
          rw [if_pos (hB2.2.2.2.2 k (by omega) hu'), if_neg (fun q => hu ((hG.2 k (by omega)).mp q))]
          by_cases h6 : m < 6
          · rw [if_pos (show nI m < (6 : Int32) from nI_lt (b := 6) h6 (by decide)), ob_mk, b_X12_book_105, r_fine mT2, cb_mk, if10, if_neg (show ¬ nI m = (6 : Int32) from fun q => by have := (nI_eq (b := 6) (by omega) (by decide)).mp q; omega)]
            obtain ⟨v2, u2, S3, T3, y1, y2, y3, y4, y5⟩ := j_num (n := n) (lo := 0) (hi := 99) xS2 mT2 (by decide) hn
            unfold b_X0_read_52 b_X12_book_125
            rw [y1, cb_mk, y2, cb_mk]
            rcases y5 with ⟨k', e', rfl, rfl, l1, l2, l3, l4, xS3, mT3⟩ | ⟨kk, qq, xS3, mT3⟩
            · have hk9 : k' ≤ 99 := by
                rw [show (99 : Int32) = nI 99 from rfl, nI_leI (by omega) (by decide)] at l3
                exact l3
              obtain ⟨S4, T4, s1, s2, s3, s4, s5⟩ := j_sign (n := n) (c := 59) xS3 mT3 (by decide) hn
              rw [show (59 : Int32) = nI 59 from rfl, s1, ob_mk, s2, ob_mk]
              have t3 := (t1.tr y3).tr s3
              have t4 := (t2.tr y4).tr s4
              rcases s5 with ⟨w1, w2, xS4, mT4⟩ | ⟨kk, qq, xS4, mT4⟩
              · have r1'' : pR S4 0 (A 54) = some (A 55) := by rw [t3.1.2.2.1]; exact r1
                have r2'' : pN S4 (A 55) = 6 := by rw [t3.1.2.2.2.1]; exact r2
                have r3'' : pR T4 1249 (A 60) = some (A 83) := by rw [t4.1.2.2.1]; exact r3
                have r4'' : pN T4 (A 83) = 12 := by rw [t4.1.2.2.2.1]; exact r4
                have r5'' : pI T4 1224 (A 60) = nI P := by rw [t4.2 _ _ (by decide)]; exact r5
                have hB4 := hB.tt t3 t4
                obtain ⟨H, hH1, hH2, hH3⟩ := gn_t G hG.1 k (by omega)
                have ne1 : A 2 ≠ A 55 := fun q => absurd (n53 _ _ (by decide) (by decide) q) (by decide)
                have ne2 : A 62 ≠ A 83 := fun q => absurd (n53 _ _ (by decide) (by decide) q) (by decide)
                have skg := sk_ge b z e'
                have gg0 : XF A b z (sI (sA S4 (A 55) k (nI k')) 1 (A 54) (nI (m + 1))) (sk b z e' + 1) := by
                  exact ⟨⟨xS4.1.1, xS4.1.2.1, by rw [pI_n (by decide), pI_sA]; exact xS4.1.2.2.1, xS4.1.2.2.2.1, fun j hj => ⟨(xS4.1.2.2.2.2 j hj).1, by rw [pA_sI, pA_sA, if_neg (fun q => ne1 q.1)]; exact (xS4.1.2.2.2.2 j hj).2⟩⟩, xS4.2.1, by rw [pI_n (by decide), pI_sA]; exact xS4.2.2.1, by rw [pI_n (by decide), pI_sA]; exact xS4.2.2.2⟩
                have gg1 : MF A b z (sA (sA T4 (A 83) (2 * m) (nI k)) (A 83) (2 * m + 1) (nI k')) (sk b z e' + 1) := by
                  exact ⟨⟨mT4.1.1, mT4.1.2.1, mT4.1.2.2.1, mT4.1.2.2.2.1, fun j hj => ⟨(mT4.1.2.2.2.2 j hj).1, by rw [pA_sA, if_neg (fun q => ne2 q.1), pA_sA, if_neg (fun q => ne2 q.1)]; exact (mT4.1.2.2.2.2 j hj).2⟩⟩, mT4.2.1, mT4.2.2.1, mT4.2.2.2⟩
                have gg2 : BKI A P (sI (sA S4 (A 55) k (nI k')) 1 (A 54) (nI (m + 1))) (sA (sA T4 (A 83) (2 * m) (nI k)) (A 83) (2 * m + 1) (nI k')) (m + 1) (updN bp m k) (updN bv m k') := by
                  refine ⟨by omega, pI_e .., fun j hj => ?_, fun j l hj hl => ?_, fun p' hp' hnot => ?_⟩
                  · by_cases e1 : j = m
                    · subst e1
                      rw [updN_e, updN_e]
                      refine ⟨hkP, hk9, ?_, ?_, ?_⟩
                      · rw [pA_sA, if_neg (fun q => by omega), pA_sA, if_pos ⟨rfl, rfl⟩]
                      · rw [pA_sA, if_pos ⟨rfl, rfl⟩]
                      · rw [pA_sI, pA_sA, if_pos ⟨rfl, rfl⟩]
                    · obtain ⟨z1, z2, z3, z4, z5⟩ := hB4.2.2.1 j (by omega)
                      rw [updN_n _ _ e1, updN_n _ _ e1]
                      refine ⟨z1, z2, ?_, ?_, ?_⟩
                      · rw [pA_sA, if_neg (fun q => by omega), pA_sA, if_neg (fun q => by omega)]; exact z3
                      · rw [pA_sA, if_neg (fun q => by omega), pA_sA, if_neg (fun q => by omega)]; exact z4
                      · rw [pA_sI, pA_sA, if_neg (fun q => hu' j (by omega) q.2)]; exact z5
                  · by_cases e1 : j = m
                    · by_cases e2 : l = m
                      · omega
                      · rw [e1, updN_e, updN_n _ _ e2]; intro q; exact absurd q.symm (hu' l (by omega))
                    · by_cases e2 : l = m
                      · rw [e2, updN_e, updN_n _ _ e1]; intro q; exact absurd q (hu' j (by omega))
                      · rw [updN_n _ _ e1, updN_n _ _ e2]; exact hB4.2.2.2.1 j l (by omega) (by omega)
                  · have q1 : k ≠ p' := by have := hnot m (by omega); rwa [updN_e] at this
                    rw [pA_sI, pA_sA, if_neg (fun q => q1 q.2.symm)]
                    exact hB4.2.2.2.2 p' hp' (fun j hj => by have := hnot j (by omega); rwa [updN_n _ _ (by omega)] at this)
                have gg3 : GN (m + 1) (updN bp m k) H := by
                  refine ⟨hH1, fun q hq => ?_⟩
                  rw [hH3 q hq, hG.2 q hq]
                  constructor
                  · rintro (e1 | ⟨j, hj, e1⟩)
                    · exact ⟨m, by omega, by rw [updN_e]; exact e1.symm⟩
                    · exact ⟨j, by omega, by rw [updN_n _ _ (by omega)]; exact e1⟩
                  · rintro ⟨j, hj, e1⟩
                    by_cases e2 : j = m
                    · rw [e2, updN_e] at e1; exact Or.inl e1.symm
                    · rw [updN_n _ _ e2] at e1; exact Or.inr ⟨j, by omega, e1⟩
                obtain ⟨S', i1, i2, T', m', bp', bv', i3, i4, i5⟩ := ih (sk b z e' + 1) f f' (i + 1) (sI (sA S4 (A 55) k (nI k')) 1 (A 54) (nI (m + 1))) (sA (sA T4 (A 83) (2 * m) (nI k)) (A 83) (2 * m + 1) (nI k')) (m + 1) (updN bp m k) (updN bv m k') H (by omega) (by omega) (by omega) (by omega) gg0 gg1 r1'' r2'' r3'' r4'' r5'' gg2 gg3
                refine ⟨S', ?_, (t3.x.tr ((FX.rf _ _ _ _ _).wA (j := 55) (by decide) |>.wP (f := 1) (i := 54) (by decide))).tr i2, T', m', bp', bv', ?_, (t4.m.tr (((FX.rf _ _ _ _ _).wA (j := 83) (by decide)).wA (j := 83) (by decide))).tr i4, i5⟩
                · rw [x_well xS4, cb_mk, if10, r1'', ob_mk, r2'', ofN, if_neg (nI_ge (by omega) (by omega)), ob_mk, r2'', ck_pos (ix_nI (by omega) (by decide)), lt_mk, nI_clamp (by omega), pI_sA, hB4.2.1, b_X0_read_103, nI_1, nI_1]
                  exact i1
                · rw [r_fine mT4, cb_mk, if10, hH2, lt_mk, r3'', ob_mk, r4'', show (2 : Int32) * nI m = nI (2 * m) from nI_mulp 2 m, ck_pos (ix_nI (by omega) (by decide)), pR_sA, r3'', ob_mk, pN_sA, r4'', nI_1, nI_1, ck_pos (ix_nI (by omega) (by decide)), lt_mk, nI_clamp (by omega), nI_clamp (by omega)]
                  exact i3
              · subst ef1
                rw [x_wellE xS4, cb_mk, if00, b_X0_read_103, r_fineE mT4, cb_mk, if00, b_X12_book_147]
                obtain ⟨S5, g7, g8, g9⟩ := x_bk6E (n := n) (f := f1) (x3 := nI P) (x4 := nI i + 1) (a0 := A 54) xS4 hn
                exact ⟨S5, g7, (t3.tr g8).x, T4, m, bp, bv, rfl, t4.m, Or.inr ⟨_, _, g9, mT4⟩⟩
            · obtain ⟨S4, s1, s3, s4⟩ := x_signE (n := n) (c := 59) xS3 (by decide) hn
              subst ef1
              rw [show (59 : Int32) = nI 59 from rfl, s1, ob_mk, x_wellE s4, cb_mk, if00, b_X0_read_103, r_signE mT3, ob_mk, r_fineE mT3, cb_mk, if00, b_X12_book_147]
              obtain ⟨S5, g7, g8, g9⟩ := x_bk6E (n := n) (f := f1) (x3 := nI P) (x4 := nI i + 1) (a0 := A 54) s4 hn
              exact ⟨S5, g7, (((t1.tr y3).tr s3).tr g8).x, T3, m, bp, bv, rfl, (t2.tr y4).m, Or.inr ⟨_, _, g9, mT3⟩⟩
          · obtain ⟨S3, g1, g2, g3⟩ := x_ref (n := n) (k := 3) (q := sk b z p) xS2 (by decide) (by omega)
            obtain ⟨T3, g4, g5, g6⟩ := r_wr (n := n) (k := 3) (q := sk b z p) mT2 (by decide) (by omega)
            have em6 : m = 6 := by have := hB.1; omega
            rw [if_neg (show ¬ nI m < (6 : Int32) from nI_nlt (b := 6) (by omega) (by omega)), show (3 : Int32) = nI 3 from rfl, g1, ob_mk, ob_mk, b_X12_book_105, r_fine mT2, cb_mk, if10, if_pos (show nI m = (6 : Int32) by rw [em6]; rfl), show (3 : Int32) = nI 3 from rfl, g4, ob_mk, r_bk125E g6]
            subst ef1
            obtain ⟨S4, g7, g8, g9⟩ := x_bk52E (n := n) (f := f1) (x3 := nI P) (x4 := nI i) (x5 := nI k) (a0 := A 54) g3 hn
            exact ⟨S4, g7, ((t1.tr g2).tr g8).x, T3, m, bp, bv, rfl, (t2.tr g5).m, Or.inr ⟨_, _, g9, g6⟩⟩
      · subst ef1
        rw [x_wellE xS2, cb_mk, if00]
        obtain ⟨S4, g7, g8, g9⟩ := x_bk52E (n := n) (f := f1) (x3 := nI P) (x4 := nI i) (x5 := v) (a0 := A 54) xS2 hn
        refine ⟨S4, g7, ((a2.tr d3).tr g8).x, T2, m, bp, bv, ?_, (c2.tr d4).m, Or.inr ⟨_, _, g9, mT2⟩⟩
        rw [b_X12_book_48, r_fine hm, cb_mk, if10, em, if10, r5', d2, cb_mk, r_fineE mT2, cb_mk, if00, r_bk105E mT2]
    · rw [show xv8 b z (sk b z p) = -1 from if_neg hq, if_pos rfl]
      refine ⟨S1, rfl, a2.x, T1, m, bp, bv, ?_, c2.m, Or.inl ⟨_, a3, c3, hB.tt a2 c2⟩⟩
      rw [b_X12_book_48, r_fine hm, cb_mk, if10, m_X12_isMore, c1, cb_mk, c3.1.2.2.1, c3.2.2.1, if_pos (nI_le (by omega) (by omega)), cb_mk, if00]
end
