/-! coast: a clause -/
def clsK (n : Nat) (A : Nat → Nat) (x2 : Int32) (S4 : pq_S) : Option pq_S := cb (m_X10_isWord n (A 1) 0 S4) fun r12 S_10 => if r12 = 0 then cb (m_X10_isWord n (A 1) 1 S_10) fun r18 S_16 => if r18 = 0 then cb (m_X10_isWord n (A 1) 2 S_16) fun r24 S_22 => if r24 = 0 then cb (m_X10_isWord n (A 1) 3 S_22) fun r30 S_28 => if r30 = 0 then cb (m_X10_isWord n (A 1) 4 S_28) fun r36 S_34 => if r36 = 0 then cb (m_X10_isWord n (A 1) 5 S_34) fun r42 S40 => if r42 = 0 then Option.bind (m_X10_refuse n (A 1) 1 (pI S40 1004 (A 1)) S40) fun S46 => some S46 else cb (m_X1_readSetting n (A 1) x2 99 S40) fun r51 S49 => some (sI S49 105 (A 39) r51) else cb (m_X1_readSetting n (A 1) x2 8 S_34) fun r55 S_53 => some (sI S_53 104 (A 39) r55) else Option.bind (m_X1_readMoon n (A 39) (A 1) x2 S_28) fun S_57 => some S_57 else Option.bind (m_X1_readMine n (A 39) (A 1) x2 S_22) fun S_60 => some S_60 else Option.bind (m_X1_readWant n (A 39) (A 1) x2 S_16) fun S_63 => some S_63 else Option.bind (m_X1_readPlace n (A 39) (A 1) x2 S_10) fun S_66 => some S_66
def refK (n : Nat) (A : Nat → Nat) (K : Nat → Int32 → pq_S → Option (Int32 × pq_S)) (x2 r : Int32) (T4 : pq_S) : Option (Int32 × pq_S) := cb (m_X12_of n 0 T4) fun r33 S_31 => if r = r33 then b_X12_coast_99 n K (A 60) x2 r S_31 else cb (m_X12_of n 1 S_31) fun r38 S_36 => if r = r38 then b_X12_coast_99 n K (A 60) x2 r S_36 else cb (m_X12_of n 2 S_36) fun r43 S_41 => if r = r43 then b_X12_coast_99 n K (A 60) x2 r S_41 else cb (m_X12_of n 3 S_41) fun r48 S_46 => if r = r48 then b_X12_coast_99 n K (A 60) x2 r S_46 else b_X12_coast_104 n K (A 60) x2 r 0 S_46
def tmc (cl : Nat) : Int32 := if cl < 60 then 0 else 1
theorem tmc_0 {cl : Nat} (h : cl < 60) : tmc cl = 0 := if_pos h
theorem tmc_1 {cl : Nat} (h : ¬ cl < 60) : tmc cl ≠ 0 := by unfold tmc; rw [if_neg h]; decide
section
variable {A b : Nat → Nat} {z n : Nat} {S T : pq_S} {g : GH}
theorem CI.tt {S' T' : pq_S} (h : CI A g S T) (k1 : TT 1003 1006 S S') (k2 : TT 1204 1206 T T') : CI A g S' T' := by
  unfold CI at h ⊢
  rw [k1.2 902 _ (by decide), k1.2 902 _ (by decide), k1.2 902 _ (by decide), k1.2 902 _ (by decide), k1.2 104 _ (by decide), k1.2 105 _ (by decide), k2.2 1218 _ (by decide), k2.2 1219 _ (by decide), k2.2 1220 _ (by decide), k2.2 1221 _ (by decide), k2.2 1222 _ (by decide), k2.2 1223 _ (by decide), k1.1.2.2.2.2.2, k2.1.2.2.2.2.2]
  exact h
/-- what a clause comes to -/
def OC (A b : Nat → Nat) (z n f cl q : Nat) (W : Int32) (S' T2 T' : pq_S) : Prop := (∃ p' g', q < p' ∧ XF A b z S' p' ∧ MF A b z T' p' ∧ CI A g' S' T' ∧ cl < 60 ∧ refK n A (b_X12_coast_44 n (f + 1)) (nI cl) W T2 = b_X12_coast_225 n (b_X12_coast_44 n (f + 1)) (A 60) (nI cl) T') ∨ (∃ k r, XE A b z S' k r ∧ ME A b z T' k r ∧ refK n A (b_X12_coast_44 n (f + 1)) (nI cl) W T2 = b_X12_coast_237 n (A 60) T')
theorem r_225E {f : Nat} {x : Int32} {k q : Nat} (h : ME A b z T k q) : b_X12_coast_225 n (b_X12_coast_44 n (f + 1)) (A 60) x T = b_X12_coast_237 n (A 60) T := by
  unfold b_X12_coast_225
  rw [r_signE h, ob_mk, b_X12_coast_44, r_fineE h, cb_mk, if00]
theorem r_155 {f cl q : Nat} {x3 x4 : Int32} (hm : MF A b z T q) (hq : q ≤ 600) : ∃ T', b_X12_coast_155 n (b_X12_coast_44 n f) (A 60) (nI cl) x3 x4 T = b_X12_coast_237 n (A 60) T' ∧ TT 1204 1206 T T' ∧ ME A b z T' 3 q := by
  obtain ⟨T1, a1, a2, a3⟩ := r_wr (n := n) (k := 3) (q := q) hm (by decide) hq
  refine ⟨T1, ?_, a2, a3⟩
  unfold b_X12_coast_155 b_X12_coast_164
  rw [hm.2.2.1, show m_X12_wrong n (A 60) 3 (nI q) T = some T1 from a1, ob_mk, r_fineE a3, cb_mk, if00, b_X12_coast_171]
theorem x_setT {e q : Nat} {x2 mo : Int32} (hn : 20000 ≤ n) (hx : XF A b z S e) (h4 : pI S 1004 (A 1) = nI q) (hq : q ≤ 600) (h2 : x2 ≠ 0) : ∃ v S', m_X1_readSetting n (A 1) x2 mo S = some (v, S') ∧ TT 1003 1006 S S' ∧ XE A b z S' 3 q := by
  obtain ⟨S1, a1, a2, a3⟩ := x_ref (n := n) (k := 3) (q := q) hx (by decide) hq
  obtain ⟨S2, c1, c2, c3⟩ := x_numE (n := n) a3 0 mo hn
  refine ⟨0, S2, ?_, a2.tr c2, c3⟩
  unfold m_X1_readSetting b_X1_readSetting_13
  rw [if_neg h2, h4, show m_X10_refuse n (A 1) 3 (nI q) S = some S1 from a1, ob_mk, c1, cb_mk]

theorem r_full0 (hn : 20000 ≤ n) (hC : CI A g S T) : m_X12_isFull n (A 60) (nI (ofV 0)) T = some (if gP g = 6 then 1 else 0, T) := by
  have hb := hC.1.b
  rw [m_X12_isFull, r_of (by decide) hn, cb_mk, if_pos rfl, hC.2.2.1.1]
  by_cases c : gP g = 6
  · rw [if_pos (show nI (gP g) = (6 : Int32) by rw [c]; rfl), if_pos c, b_X12_isFull_70]
  · rw [if_neg (show ¬ nI (gP g) = (6 : Int32) from fun q => c ((nI_eq (b := 6) (by omega) (by decide)).mp q)), if_neg c]
    rw [b_X12_isFull_18, r_of (by decide) hn, cb_mk, if_neg (r_dv 0 (by decide) 1 (by decide) (by decide)), b_X12_isFull_36, r_of (by decide) hn, cb_mk, if_neg (r_dv 0 (by decide) 2 (by decide) (by decide)), b_X12_isFull_53, r_of (by decide) hn, cb_mk, if_neg (r_dv 0 (by decide) 3 (by decide) (by decide))]
theorem r_full1 (hn : 20000 ≤ n) (hC : CI A g S T) : m_X12_isFull n (A 60) (nI (ofV 1)) T = some (if gW g = 12 then 1 else 0, T) := by
  have hb := hC.1.b
  rw [m_X12_isFull, r_of (by decide) hn, cb_mk, if_neg (r_dv 1 (by decide) 0 (by decide) (by decide)), b_X12_isFull_18, r_of (by decide) hn, cb_mk, if_pos rfl, hC.2.2.1.2.1]
  by_cases c : gW g = 12
  · rw [if_pos (show nI (gW g) = (12 : Int32) by rw [c]; rfl), if_pos c, b_X12_isFull_70]
  · rw [if_neg (show ¬ nI (gW g) = (12 : Int32) from fun q => c ((nI_eq (b := 12) (by omega) (by decide)).mp q)), if_neg c]
    rw [b_X12_isFull_36, r_of (by decide) hn, cb_mk, if_neg (r_dv 1 (by decide) 2 (by decide) (by decide)), b_X12_isFull_53, r_of (by decide) hn, cb_mk, if_neg (r_dv 1 (by decide) 3 (by decide) (by decide))]
theorem r_full2 (hn : 20000 ≤ n) (hC : CI A g S T) : m_X12_isFull n (A 60) (nI (ofV 2)) T = some (if gM g = 3 then 1 else 0, T) := by
  have hb := hC.1.b
  rw [m_X12_isFull, r_of (by decide) hn, cb_mk, if_neg (r_dv 2 (by decide) 0 (by decide) (by decide)), b_X12_isFull_18, r_of (by decide) hn, cb_mk, if_neg (r_dv 2 (by decide) 1 (by decide) (by decide)), b_X12_isFull_36, r_of (by decide) hn, cb_mk, if_pos rfl, hC.2.2.1.2.2.1]
  by_cases c : gM g = 3
  · rw [if_pos (show nI (gM g) = (3 : Int32) by rw [c]; rfl), if_pos c, b_X12_isFull_70]
  · rw [if_neg (show ¬ nI (gM g) = (3 : Int32) from fun q => c ((nI_eq (b := 3) (by omega) (by decide)).mp q)), if_neg c]
    rw [b_X12_isFull_53, r_of (by decide) hn, cb_mk, if_neg (r_dv 2 (by decide) 3 (by decide) (by decide))]
theorem r_full3 (hn : 20000 ≤ n) (hC : CI A g S T) : m_X12_isFull n (A 60) (nI (ofV 3)) T = some (if gK g = 3 then 1 else 0, T) := by
  have hb := hC.1.b
  rw [m_X12_isFull, r_of (by decide) hn, cb_mk, if_neg (r_dv 3 (by decide) 0 (by decide) (by decide)), b_X12_isFull_18, r_of (by decide) hn, cb_mk, if_neg (r_dv 3 (by decide) 1 (by decide) (by decide)), b_X12_isFull_36, r_of (by decide) hn, cb_mk, if_neg (r_dv 3 (by decide) 2 (by decide) (by decide)), b_X12_isFull_53, r_of (by decide) hn, cb_mk, if_pos rfl, hC.2.2.1.2.2.2.1]
  by_cases c : gK g = 3
  · rw [if_pos (show nI (gK g) = (3 : Int32) by rw [c]; rfl), if_pos c, b_X12_isFull_70]
  · rw [if_neg (show ¬ nI (gK g) = (3 : Int32) from fun q => c ((nI_eq (b := 3) (by omega) (by decide)).mp q)), if_neg c]
theorem r_full4 (hn : 20000 ≤ n) (hC : CI A g S T) : m_X12_isFull n (A 60) (nI (ofV 4)) T = some (0, T) := by
  have hb := hC.1.b
  rw [m_X12_isFull, r_of (by decide) hn, cb_mk, if_neg (r_dv 4 (by decide) 0 (by decide) (by decide)), b_X12_isFull_18, r_of (by decide) hn, cb_mk, if_neg (r_dv 4 (by decide) 1 (by decide) (by decide)), b_X12_isFull_36, r_of (by decide) hn, cb_mk, if_neg (r_dv 4 (by decide) 2 (by decide) (by decide)), b_X12_isFull_53, r_of (by decide) hn, cb_mk, if_neg (r_dv 4 (by decide) 3 (by decide) (by decide))]
theorem r_full5 (hn : 20000 ≤ n) (hC : CI A g S T) : m_X12_isFull n (A 60) (nI (ofV 5)) T = some (0, T) := by
  have hb := hC.1.b
  rw [m_X12_isFull, r_of (by decide) hn, cb_mk, if_neg (r_dv 5 (by decide) 0 (by decide) (by decide)), b_X12_isFull_18, r_of (by decide) hn, cb_mk, if_neg (r_dv 5 (by decide) 1 (by decide) (by decide)), b_X12_isFull_36, r_of (by decide) hn, cb_mk, if_neg (r_dv 5 (by decide) 2 (by decide) (by decide)), b_X12_isFull_53, r_of (by decide) hn, cb_mk, if_neg (r_dv 5 (by decide) 3 (by decide) (by decide))]
theorem j_cl0 {e q W cl f : Nat} (hn : 20000 ≤ n) (lS : LAY A S) (lT : LAY A T) (hC : CI A g S T) (hx : XF A b z S e) (h4 : pI S 1004 (A 1) = nI q) (hq : q ≤ 600) (hm : MF A b z T q) (he : e = we b z q) (hqe : q < e) (hcl : cl ≤ 60) (hw : ∀ j, j < 20 → m_X10_isWord n (A 1) j S = some (@ite _ (wm b q e j) (Classical.propDecidable _) 1 0, S)) (hv : ∀ j, j < 20 → (nI W = nI (ofV j) ↔ wm b q e j)) (hj : wm b q e 0) : ∃ S' T', clsK n A (tmc cl) S = some S' ∧ FXx A S S' ∧ FXm A T T' ∧ LAY A S' ∧ LAY A T' ∧ OC A b z n f cl q (nI W) S' T T' := by
  have hW : nI W = nI (ofV 0) := (hv 0 (by decide)).mpr hj
  have hne : ∀ i, i < 6 → i ≠ 0 → ¬ wm b q e i := fun i hi hij hwi => r_dv i hi 0 (by decide) hij (((hv i (by omega)).mpr hwi).symm.trans hW)
  have hgb := hC.1.b
  rw [hW]
  have rk : refK n A (b_X12_coast_44 n (f + 1)) (nI cl) (nI (ofV 0)) T = b_X12_coast_141 n (b_X12_coast_44 n (f + 1)) (A 60) (nI cl) (nI (ofV 0)) 1 T := by
    unfold refK
    rw [r_of (by decide) hn, cb_mk, if_pos rfl, b_X12_coast_99, b_X12_coast_104, if10]
  have ck : clsK n A (tmc cl) S = Option.bind (m_X1_readPlace n (A 39) (A 1) (tmc cl) S) fun S_66 => some S_66 := by
    unfold clsK
    rw [hw 0 (by decide), cb_mk, if_pos hj, if10]
  rw [ck]
  by_cases hT : cl < 60 ∧ gP g < 6
  · obtain ⟨T3, p1, p2, p3⟩ := r_pass (n := n) hm hn
    rw [← he] at p3
    have lT3 := lT.tt p2 (by decide)
    obtain ⟨S', T', a1, a2, a3, a4, a5, a6, a7⟩ := j_row0 (n := n) hn lS lT3 (hC.tt (TT.rf _ _ _) p2) hT.2 hx p3
    have r1 : refK n A (b_X12_coast_44 n (f + 1)) (nI cl) (nI (ofV 0)) T = b_X12_coast_225 n (b_X12_coast_44 n (f + 1)) (A 60) (nI cl) T' := by
      rw [rk, b_X12_coast_141, if_neg (show ¬ nI cl = (60 : Int32) from fun q => by have := (nI_eq (b := 60) (by omega) (by decide)).mp q; omega), r_full0 hn hC, cb_mk, ifz, if_neg (by omega), b_X12_coast_164, r_fine hm, cb_mk, if10, p1, ob_mk, if10, a2, ob_mk]
    rw [tmc_0 hT.1, a1, ob_mk]
    refine ⟨S', T', rfl, a3, p2.m.tr a4, a5, a6, ?_⟩
    rcases a7 with ⟨p', g', b1, b2, b3, b4⟩ | ⟨kk, qq, b1, b2⟩
    · exact Or.inl ⟨p', g', by omega, b2, b3, b4, hT.1, r1⟩
    · exact Or.inr ⟨kk, qq, b1, b2, by rw [r1, r_225E b2]⟩
  · obtain ⟨S', a1, a2, a3, a4⟩ := xT_row0 (n := n) (x2 := tmc cl) (g := g) hn lS hC.2.1.1 (by omega) hx h4 hq (by
      by_cases c : cl < 60
      · exact Or.inr (by omega)
      · exact Or.inl (tmc_1 c))
    obtain ⟨T', r1, r2, r3⟩ := r_155 (n := n) (f := f + 1) (cl := cl) (x3 := nI (ofV 0)) (x4 := 1) hm hq
    rw [a1, ob_mk]
    refine ⟨S', T', rfl, a2, r2.m, a3, lT.tt r2 (by decide), Or.inr ⟨3, q, a4, r3, ?_⟩⟩
    rw [rk, ← r1, b_X12_coast_141]
    by_cases c : cl < 60
    · rw [if_neg (show ¬ nI cl = (60 : Int32) from fun q => by have := (nI_eq (b := 60) (by omega) (by decide)).mp q; omega), r_full0 hn hC, cb_mk, ifz, if_pos (by omega)]
    · rw [if_pos (show nI cl = (60 : Int32) by rw [show cl = 60 by omega]; rfl)]
theorem j_cl1 {e q W cl f : Nat} (hn : 20000 ≤ n) (lS : LAY A S) (lT : LAY A T) (hC : CI A g S T) (hx : XF A b z S e) (h4 : pI S 1004 (A 1) = nI q) (hq : q ≤ 600) (hm : MF A b z T q) (he : e = we b z q) (hqe : q < e) (hcl : cl ≤ 60) (hw : ∀ j, j < 20 → m_X10_isWord n (A 1) j S = some (@ite _ (wm b q e j) (Classical.propDecidable _) 1 0, S)) (hv : ∀ j, j < 20 → (nI W = nI (ofV j) ↔ wm b q e j)) (hj : wm b q e 1) : ∃ S' T', clsK n A (tmc cl) S = some S' ∧ FXx A S S' ∧ FXm A T T' ∧ LAY A S' ∧ LAY A T' ∧ OC A b z n f cl q (nI W) S' T T' := by
  have hW : nI W = nI (ofV 1) := (hv 1 (by decide)).mpr hj
  have hne : ∀ i, i < 6 → i ≠ 1 → ¬ wm b q e i := fun i hi hij hwi => r_dv i hi 1 (by decide) hij (((hv i (by omega)).mpr hwi).symm.trans hW)
  have hgb := hC.1.b
  rw [hW]
  have rk : refK n A (b_X12_coast_44 n (f + 1)) (nI cl) (nI (ofV 1)) T = b_X12_coast_141 n (b_X12_coast_44 n (f + 1)) (A 60) (nI cl) (nI (ofV 1)) 1 T := by
    unfold refK
    rw [r_of (by decide) hn, cb_mk, if_neg (r_dv 1 (by decide) 0 (by decide) (by decide)), r_of (by decide) hn, cb_mk, if_pos rfl, b_X12_coast_99, b_X12_coast_104, if10]
  have ck : clsK n A (tmc cl) S = Option.bind (m_X1_readWant n (A 39) (A 1) (tmc cl) S) fun S_66 => some S_66 := by
    unfold clsK
    rw [hw 0 (by decide), cb_mk, if_neg (hne 0 (by decide) (by decide)), if00, hw 1 (by decide), cb_mk, if_pos hj, if10]
  rw [ck]
  by_cases hT : cl < 60 ∧ gW g < 12
  · obtain ⟨T3, p1, p2, p3⟩ := r_pass (n := n) hm hn
    rw [← he] at p3
    have lT3 := lT.tt p2 (by decide)
    obtain ⟨S', T', a1, a2, a3, a4, a5, a6, a7⟩ := j_row1 (n := n) hn lS lT3 (hC.tt (TT.rf _ _ _) p2) hT.2 hx p3
    have r1 : refK n A (b_X12_coast_44 n (f + 1)) (nI cl) (nI (ofV 1)) T = b_X12_coast_225 n (b_X12_coast_44 n (f + 1)) (A 60) (nI cl) T' := by
      rw [rk, b_X12_coast_141, if_neg (show ¬ nI cl = (60 : Int32) from fun q => by have := (nI_eq (b := 60) (by omega) (by decide)).mp q; omega), r_full1 hn hC, cb_mk, ifz, if_neg (by omega), b_X12_coast_164, r_fine hm, cb_mk, if10, p1, ob_mk, if10, a2, ob_mk]
    rw [tmc_0 hT.1, a1, ob_mk]
    refine ⟨S', T', rfl, a3, p2.m.tr a4, a5, a6, ?_⟩
    rcases a7 with ⟨p', g', b1, b2, b3, b4⟩ | ⟨kk, qq, b1, b2⟩
    · exact Or.inl ⟨p', g', by omega, b2, b3, b4, hT.1, r1⟩
    · exact Or.inr ⟨kk, qq, b1, b2, by rw [r1, r_225E b2]⟩
  · obtain ⟨S', a1, a2, a3, a4⟩ := xT_row1 (n := n) (x2 := tmc cl) (g := g) hn lS hC.2.1.2.1 (by omega) hx h4 hq (by
      by_cases c : cl < 60
      · exact Or.inr (by omega)
      · exact Or.inl (tmc_1 c))
    obtain ⟨T', r1, r2, r3⟩ := r_155 (n := n) (f := f + 1) (cl := cl) (x3 := nI (ofV 1)) (x4 := 1) hm hq
    rw [a1, ob_mk]
    refine ⟨S', T', rfl, a2, r2.m, a3, lT.tt r2 (by decide), Or.inr ⟨3, q, a4, r3, ?_⟩⟩
    rw [rk, ← r1, b_X12_coast_141]
    by_cases c : cl < 60
    · rw [if_neg (show ¬ nI cl = (60 : Int32) from fun q => by have := (nI_eq (b := 60) (by omega) (by decide)).mp q; omega), r_full1 hn hC, cb_mk, ifz, if_pos (by omega)]
    · rw [if_pos (show nI cl = (60 : Int32) by rw [show cl = 60 by omega]; rfl)]
theorem j_cl2 {e q W cl f : Nat} (hn : 20000 ≤ n) (lS : LAY A S) (lT : LAY A T) (hC : CI A g S T) (hx : XF A b z S e) (h4 : pI S 1004 (A 1) = nI q) (hq : q ≤ 600) (hm : MF A b z T q) (he : e = we b z q) (hqe : q < e) (hcl : cl ≤ 60) (hw : ∀ j, j < 20 → m_X10_isWord n (A 1) j S = some (@ite _ (wm b q e j) (Classical.propDecidable _) 1 0, S)) (hv : ∀ j, j < 20 → (nI W = nI (ofV j) ↔ wm b q e j)) (hj : wm b q e 2) : ∃ S' T', clsK n A (tmc cl) S = some S' ∧ FXx A S S' ∧ FXm A T T' ∧ LAY A S' ∧ LAY A T' ∧ OC A b z n f cl q (nI W) S' T T' := by
  have hW : nI W = nI (ofV 2) := (hv 2 (by decide)).mpr hj
  have hne : ∀ i, i < 6 → i ≠ 2 → ¬ wm b q e i := fun i hi hij hwi => r_dv i hi 2 (by decide) hij (((hv i (by omega)).mpr hwi).symm.trans hW)
  have hgb := hC.1.b
  rw [hW]
  have rk : refK n A (b_X12_coast_44 n (f + 1)) (nI cl) (nI (ofV 2)) T = b_X12_coast_141 n (b_X12_coast_44 n (f + 1)) (A 60) (nI cl) (nI (ofV 2)) 1 T := by
    unfold refK
    rw [r_of (by decide) hn, cb_mk, if_neg (r_dv 2 (by decide) 0 (by decide) (by decide)), r_of (by decide) hn, cb_mk, if_neg (r_dv 2 (by decide) 1 (by decide) (by decide)), r_of (by decide) hn, cb_mk, if_pos rfl, b_X12_coast_99, b_X12_coast_104, if10]
  have ck : clsK n A (tmc cl) S = Option.bind (m_X1_readMine n (A 39) (A 1) (tmc cl) S) fun S_66 => some S_66 := by
    unfold clsK
    rw [hw 0 (by decide), cb_mk, if_neg (hne 0 (by decide) (by decide)), if00, hw 1 (by decide), cb_mk, if_neg (hne 1 (by decide) (by decide)), if00, hw 2 (by decide), cb_mk, if_pos hj, if10]
  rw [ck]
  by_cases hT : cl < 60 ∧ gM g < 3
  · obtain ⟨T3, p1, p2, p3⟩ := r_pass (n := n) hm hn
    rw [← he] at p3
    have lT3 := lT.tt p2 (by decide)
    obtain ⟨S', T', a1, a2, a3, a4, a5, a6, a7⟩ := j_row2 (n := n) hn lS lT3 (hC.tt (TT.rf _ _ _) p2) hT.2 hx p3
    have r1 : refK n A (b_X12_coast_44 n (f + 1)) (nI cl) (nI (ofV 2)) T = b_X12_coast_225 n (b_X12_coast_44 n (f + 1)) (A 60) (nI cl) T' := by
      rw [rk, b_X12_coast_141, if_neg (show ¬ nI cl = (60 : Int32) from fun q => by have := (nI_eq (b := 60) (by omega) (by decide)).mp q; omega), r_full2 hn hC, cb_mk, ifz, if_neg (by omega), b_X12_coast_164, r_fine hm, cb_mk, if10, p1, ob_mk, if10, a2, ob_mk]
    rw [tmc_0 hT.1, a1, ob_mk]
    refine ⟨S', T', rfl, a3, p2.m.tr a4, a5, a6, ?_⟩
    rcases a7 with ⟨p', g', b1, b2, b3, b4⟩ | ⟨kk, qq, b1, b2⟩
    · exact Or.inl ⟨p', g', by omega, b2, b3, b4, hT.1, r1⟩
    · exact Or.inr ⟨kk, qq, b1, b2, by rw [r1, r_225E b2]⟩
  · obtain ⟨S', a1, a2, a3, a4⟩ := xT_row2 (n := n) (x2 := tmc cl) (g := g) hn lS hC.2.1.2.2.1 (by omega) hx h4 hq (by
      by_cases c : cl < 60
      · exact Or.inr (by omega)
      · exact Or.inl (tmc_1 c))
    obtain ⟨T', r1, r2, r3⟩ := r_155 (n := n) (f := f + 1) (cl := cl) (x3 := nI (ofV 2)) (x4 := 1) hm hq
    rw [a1, ob_mk]
    refine ⟨S', T', rfl, a2, r2.m, a3, lT.tt r2 (by decide), Or.inr ⟨3, q, a4, r3, ?_⟩⟩
    rw [rk, ← r1, b_X12_coast_141]
    by_cases c : cl < 60
    · rw [if_neg (show ¬ nI cl = (60 : Int32) from fun q => by have := (nI_eq (b := 60) (by omega) (by decide)).mp q; omega), r_full2 hn hC, cb_mk, ifz, if_pos (by omega)]
    · rw [if_pos (show nI cl = (60 : Int32) by rw [show cl = 60 by omega]; rfl)]
theorem j_cl3 {e q W cl f : Nat} (hn : 20000 ≤ n) (lS : LAY A S) (lT : LAY A T) (hC : CI A g S T) (hx : XF A b z S e) (h4 : pI S 1004 (A 1) = nI q) (hq : q ≤ 600) (hm : MF A b z T q) (he : e = we b z q) (hqe : q < e) (hcl : cl ≤ 60) (hw : ∀ j, j < 20 → m_X10_isWord n (A 1) j S = some (@ite _ (wm b q e j) (Classical.propDecidable _) 1 0, S)) (hv : ∀ j, j < 20 → (nI W = nI (ofV j) ↔ wm b q e j)) (hj : wm b q e 3) : ∃ S' T', clsK n A (tmc cl) S = some S' ∧ FXx A S S' ∧ FXm A T T' ∧ LAY A S' ∧ LAY A T' ∧ OC A b z n f cl q (nI W) S' T T' := by
  have hW : nI W = nI (ofV 3) := (hv 3 (by decide)).mpr hj
  have hne : ∀ i, i < 6 → i ≠ 3 → ¬ wm b q e i := fun i hi hij hwi => r_dv i hi 3 (by decide) hij (((hv i (by omega)).mpr hwi).symm.trans hW)
  have hgb := hC.1.b
  rw [hW]
  have rk : refK n A (b_X12_coast_44 n (f + 1)) (nI cl) (nI (ofV 3)) T = b_X12_coast_141 n (b_X12_coast_44 n (f + 1)) (A 60) (nI cl) (nI (ofV 3)) 1 T := by
    unfold refK
    rw [r_of (by decide) hn, cb_mk, if_neg (r_dv 3 (by decide) 0 (by decide) (by decide)), r_of (by decide) hn, cb_mk, if_neg (r_dv 3 (by decide) 1 (by decide) (by decide)), r_of (by decide) hn, cb_mk, if_neg (r_dv 3 (by decide) 2 (by decide) (by decide)), r_of (by decide) hn, cb_mk, if_pos rfl, b_X12_coast_99, b_X12_coast_104, if10]
  have ck : clsK n A (tmc cl) S = Option.bind (m_X1_readMoon n (A 39) (A 1) (tmc cl) S) fun S_66 => some S_66 := by
    unfold clsK
    rw [hw 0 (by decide), cb_mk, if_neg (hne 0 (by decide) (by decide)), if00, hw 1 (by decide), cb_mk, if_neg (hne 1 (by decide) (by decide)), if00, hw 2 (by decide), cb_mk, if_neg (hne 2 (by decide) (by decide)), if00, hw 3 (by decide), cb_mk, if_pos hj, if10]
  rw [ck]
  by_cases hT : cl < 60 ∧ gK g < 3
  · obtain ⟨T3, p1, p2, p3⟩ := r_pass (n := n) hm hn
    rw [← he] at p3
    have lT3 := lT.tt p2 (by decide)
    obtain ⟨S', T', a1, a2, a3, a4, a5, a6, a7⟩ := j_row3 (n := n) hn lS lT3 (hC.tt (TT.rf _ _ _) p2) hT.2 hx p3
    have r1 : refK n A (b_X12_coast_44 n (f + 1)) (nI cl) (nI (ofV 3)) T = b_X12_coast_225 n (b_X12_coast_44 n (f + 1)) (A 60) (nI cl) T' := by
      rw [rk, b_X12_coast_141, if_neg (show ¬ nI cl = (60 : Int32) from fun q => by have := (nI_eq (b := 60) (by omega) (by decide)).mp q; omega), r_full3 hn hC, cb_mk, ifz, if_neg (by omega), b_X12_coast_164, r_fine hm, cb_mk, if10, p1, ob_mk, if10, a2, ob_mk]
    rw [tmc_0 hT.1, a1, ob_mk]
    refine ⟨S', T', rfl, a3, p2.m.tr a4, a5, a6, ?_⟩
    rcases a7 with ⟨p', g', b1, b2, b3, b4⟩ | ⟨kk, qq, b1, b2⟩
    · exact Or.inl ⟨p', g', by omega, b2, b3, b4, hT.1, r1⟩
    · exact Or.inr ⟨kk, qq, b1, b2, by rw [r1, r_225E b2]⟩
  · obtain ⟨S', a1, a2, a3, a4⟩ := xT_row3 (n := n) (x2 := tmc cl) (g := g) hn lS hC.2.1.2.2.2.1 (by omega) hx h4 hq (by
      by_cases c : cl < 60
      · exact Or.inr (by omega)
      · exact Or.inl (tmc_1 c))
    obtain ⟨T', r1, r2, r3⟩ := r_155 (n := n) (f := f + 1) (cl := cl) (x3 := nI (ofV 3)) (x4 := 1) hm hq
    rw [a1, ob_mk]
    refine ⟨S', T', rfl, a2, r2.m, a3, lT.tt r2 (by decide), Or.inr ⟨3, q, a4, r3, ?_⟩⟩
    rw [rk, ← r1, b_X12_coast_141]
    by_cases c : cl < 60
    · rw [if_neg (show ¬ nI cl = (60 : Int32) from fun q => by have := (nI_eq (b := 60) (by omega) (by decide)).mp q; omega), r_full3 hn hC, cb_mk, ifz, if_pos (by omega)]
    · rw [if_pos (show nI cl = (60 : Int32) by rw [show cl = 60 by omega]; rfl)]
theorem j_cl4 {e q W cl f : Nat} (hn : 20000 ≤ n) (lS : LAY A S) (lT : LAY A T) (hC : CI A g S T) (hx : XF A b z S e) (h4 : pI S 1004 (A 1) = nI q) (hq : q ≤ 600) (hm : MF A b z T q) (he : e = we b z q) (hqe : q < e) (hcl : cl ≤ 60) (hw : ∀ j, j < 20 → m_X10_isWord n (A 1) j S = some (@ite _ (wm b q e j) (Classical.propDecidable _) 1 0, S)) (hv : ∀ j, j < 20 → (nI W = nI (ofV j) ↔ wm b q e j)) (hj : wm b q e 4) : ∃ S' T', clsK n A (tmc cl) S = some S' ∧ FXx A S S' ∧ FXm A T T' ∧ LAY A S' ∧ LAY A T' ∧ OC A b z n f cl q (nI W) S' T T' := by
  have hW : nI W = nI (ofV 4) := (hv 4 (by decide)).mpr hj
  have hne : ∀ i, i < 6 → i ≠ 4 → ¬ wm b q e i := fun i hi hij hwi => r_dv i hi 4 (by decide) hij (((hv i (by omega)).mpr hwi).symm.trans hW)
  have hgb := hC.1.b
  rw [hW]
  have rk : refK n A (b_X12_coast_44 n (f + 1)) (nI cl) (nI (ofV 4)) T = b_X12_coast_141 n (b_X12_coast_44 n (f + 1)) (A 60) (nI cl) (nI (ofV 4)) 0 T := by
    unfold refK
    rw [r_of (by decide) hn, cb_mk, if_neg (r_dv 4 (by decide) 0 (by decide) (by decide)), r_of (by decide) hn, cb_mk, if_neg (r_dv 4 (by decide) 1 (by decide) (by decide)), r_of (by decide) hn, cb_mk, if_neg (r_dv 4 (by decide) 2 (by decide) (by decide)), r_of (by decide) hn, cb_mk, if_neg (r_dv 4 (by decide) 3 (by decide) (by decide)), b_X12_coast_104, if00, r_of (by decide) hn, cb_mk, if_pos rfl]
  have ck : clsK n A (tmc cl) S = cb (m_X1_readSetting n (A 1) (tmc cl) 8 S) fun r51 S_49 => some (sI S_49 104 (A 39) r51) := by
    unfold clsK
    rw [hw 0 (by decide), cb_mk, if_neg (hne 0 (by decide) (by decide)), if00, hw 1 (by decide), cb_mk, if_neg (hne 1 (by decide) (by decide)), if00, hw 2 (by decide), cb_mk, if_neg (hne 2 (by decide) (by decide)), if00, hw 3 (by decide), cb_mk, if_neg (hne 3 (by decide) (by decide)), if00, hw 4 (by decide), cb_mk, if_pos hj, if10]
  rw [ck]
  by_cases hT : cl < 60
  · obtain ⟨T3, p1, p2, p3⟩ := r_pass (n := n) hm hn
    rw [← he] at p3
    have lT3 := lT.tt p2 (by decide)
    obtain ⟨v, u, S1, T4, y1, y2, y3, y4, y5⟩ := j_num (n := n) (lo := 0) (hi := 8) hx p3 (by decide) hn
    have r1 : refK n A (b_X12_coast_44 n (f + 1)) (nI cl) (nI (ofV 4)) T = b_X12_coast_225 n (b_X12_coast_44 n (f + 1)) (A 60) (nI cl) (sI T4 1222 (A 60) u) := by
      rw [rk, b_X12_coast_141, if_neg (show ¬ nI cl = (60 : Int32) from fun q => by have := (nI_eq (b := 60) (by omega) (by decide)).mp q; omega), r_full4 hn hC, cb_mk, if00, b_X12_coast_164, r_fine hm, cb_mk, if10, p1, ob_mk, if00, r_of (by decide) hn, cb_mk, if_pos rfl, y2, cb_mk]
    rw [tmc_0 hT]
    unfold m_X1_readSetting b_X1_readSetting_13
    rw [if00, y1, cb_mk, cb_mk]
    have l1 := lS.tt y3 (by decide)
    have l4 := lT3.tt y4 (by decide)
    have k1 : FX [] [(104, 39)] [] A S1 (sI S1 104 (A 39) v) := (FX.rf _ _ _ _ _).wP (by decide)
    have k2 : FX [1222] [] [] A T4 (sI T4 1222 (A 60) u) := (FX.rf _ _ _ _ _).wI (by decide)
    refine ⟨_, _, rfl, y3.x.tr (k1.mono (by decide) (by decide) (by decide)), (p2.m.tr y4.m).tr (k2.mono (by decide) (by decide) (by decide)), k1.lay l1 (by decide) (by decide), k2.lay l4 (by decide) (by decide), ?_⟩
    rcases y5 with ⟨k, e', rfl, rfl, i1, i2, i3, i4, x1, m1⟩ | ⟨kk, qq, x1, m1⟩
    · have hk : k ≤ 8 := nIb i1 i3 rfl (by decide)
      have hC4 := (hC.tt (TT.rf _ _ _) p2).tt y3 y4
      refine Or.inl ⟨e', (updN g.1 4 k, g.2), by omega, x1.fx k1 l1 (by decide) (by decide) (by decide), m1.fx k2 l4 (by decide) (by decide) (by decide), ?_, hT, r1⟩
      obtain ⟨c1, c2, c3, c4, c5⟩ := hC4
      refine ⟨⟨⟨c1.1.1, c1.1.2.1, c1.1.2.2.1, c1.1.2.2.2.1, hk, c1.1.2.2.2.2.2⟩, c1.2⟩, ⟨?_, ?_, ?_, ?_, ?_, ?_⟩, ⟨?_, ?_, ?_, ?_, ?_, ?_⟩, c4, c5⟩
      · rw [pI_n (by decide)]; exact c2.1
      · rw [pI_n (by decide)]; exact c2.2.1
      · rw [pI_n (by decide)]; exact c2.2.2.1
      · rw [pI_n (by decide)]; exact c2.2.2.2.1
      · rw [pI_e]; rfl
      · rw [pI_n (by decide)]; exact c2.2.2.2.2.2
      · rw [pI_n (by decide)]; exact c3.1
      · rw [pI_n (by decide)]; exact c3.2.1
      · rw [pI_n (by decide)]; exact c3.2.2.1
      · rw [pI_n (by decide)]; exact c3.2.2.2.1
      · rw [pI_e]; rfl
      · rw [pI_n (by decide)]; exact c3.2.2.2.2.2
    · have m2 : ME A b z (sI T4 1222 (A 60) u) kk qq := m1.fx k2 l4 (by decide) (by decide) (by decide)
      exact Or.inr ⟨kk, qq, x1.fx k1 l1 (by decide) (by decide) (by decide), m2, by rw [r1, r_225E m2]⟩
  · obtain ⟨v, S1, a1, a2, a3⟩ := x_setT (n := n) (x2 := tmc cl) (mo := 8) hn hx h4 hq (tmc_1 hT)
    obtain ⟨T', r1, r2, r3⟩ := r_155 (n := n) (f := f + 1) (cl := cl) (x3 := nI (ofV 4)) (x4 := 0) hm hq
    have l1 := lS.tt a2 (by decide)
    have k1 : FX [] [(104, 39)] [] A S1 (sI S1 104 (A 39) v) := (FX.rf _ _ _ _ _).wP (by decide)
    rw [a1, cb_mk]
    refine ⟨_, T', rfl, a2.x.tr (k1.mono (by decide) (by decide) (by decide)), r2.m, k1.lay l1 (by decide) (by decide), lT.tt r2 (by decide), Or.inr ⟨3, q, a3.fx k1 l1 (by decide) (by decide) (by decide), r3, ?_⟩⟩
    rw [rk, ← r1, b_X12_coast_141, if_pos (show nI cl = (60 : Int32) by rw [show cl = 60 by omega]; rfl)]
theorem j_cl5 {e q W cl f : Nat} (hn : 20000 ≤ n) (lS : LAY A S) (lT : LAY A T) (hC : CI A g S T) (hx : XF A b z S e) (h4 : pI S 1004 (A 1) = nI q) (hq : q ≤ 600) (hm : MF A b z T q) (he : e = we b z q) (hqe : q < e) (hcl : cl ≤ 60) (hw : ∀ j, j < 20 → m_X10_isWord n (A 1) j S = some (@ite _ (wm b q e j) (Classical.propDecidable _) 1 0, S)) (hv : ∀ j, j < 20 → (nI W = nI (ofV j) ↔ wm b q e j)) (hj : wm b q e 5) : ∃ S' T', clsK n A (tmc cl) S = some S' ∧ FXx A S S' ∧ FXm A T T' ∧ LAY A S' ∧ LAY A T' ∧ OC A b z n f cl q (nI W) S' T T' := by
  have hW : nI W = nI (ofV 5) := (hv 5 (by decide)).mpr hj
  have hne : ∀ i, i < 6 → i ≠ 5 → ¬ wm b q e i := fun i hi hij hwi => r_dv i hi 5 (by decide) hij (((hv i (by omega)).mpr hwi).symm.trans hW)
  have hgb := hC.1.b
  rw [hW]
  have rk : refK n A (b_X12_coast_44 n (f + 1)) (nI cl) (nI (ofV 5)) T = b_X12_coast_141 n (b_X12_coast_44 n (f + 1)) (A 60) (nI cl) (nI (ofV 5)) 0 T := by
    unfold refK
    rw [r_of (by decide) hn, cb_mk, if_neg (r_dv 5 (by decide) 0 (by decide) (by decide)), r_of (by decide) hn, cb_mk, if_neg (r_dv 5 (by decide) 1 (by decide) (by decide)), r_of (by decide) hn, cb_mk, if_neg (r_dv 5 (by decide) 2 (by decide) (by decide)), r_of (by decide) hn, cb_mk, if_neg (r_dv 5 (by decide) 3 (by decide) (by decide)), b_X12_coast_104, if00, r_of (by decide) hn, cb_mk, if_neg (r_dv 5 (by decide) 4 (by decide) (by decide)), r_of (by decide) hn, cb_mk, if_pos rfl]
  have ck : clsK n A (tmc cl) S = cb (m_X1_readSetting n (A 1) (tmc cl) 99 S) fun r51 S_49 => some (sI S_49 105 (A 39) r51) := by
    unfold clsK
    rw [hw 0 (by decide), cb_mk, if_neg (hne 0 (by decide) (by decide)), if00, hw 1 (by decide), cb_mk, if_neg (hne 1 (by decide) (by decide)), if00, hw 2 (by decide), cb_mk, if_neg (hne 2 (by decide) (by decide)), if00, hw 3 (by decide), cb_mk, if_neg (hne 3 (by decide) (by decide)), if00, hw 4 (by decide), cb_mk, if_neg (hne 4 (by decide) (by decide)), if00, hw 5 (by decide), cb_mk, if_pos hj, if10]
  rw [ck]
  by_cases hT : cl < 60
  · obtain ⟨T3, p1, p2, p3⟩ := r_pass (n := n) hm hn
    rw [← he] at p3
    have lT3 := lT.tt p2 (by decide)
    obtain ⟨v, u, S1, T4, y1, y2, y3, y4, y5⟩ := j_num (n := n) (lo := 0) (hi := 99) hx p3 (by decide) hn
    have r1 : refK n A (b_X12_coast_44 n (f + 1)) (nI cl) (nI (ofV 5)) T = b_X12_coast_225 n (b_X12_coast_44 n (f + 1)) (A 60) (nI cl) (sI T4 1223 (A 60) u) := by
      rw [rk, b_X12_coast_141, if_neg (show ¬ nI cl = (60 : Int32) from fun q => by have := (nI_eq (b := 60) (by omega) (by decide)).mp q; omega), r_full5 hn hC, cb_mk, if00, b_X12_coast_164, r_fine hm, cb_mk, if10, p1, ob_mk, if00, r_of (by decide) hn, cb_mk, if_neg (r_dv 5 (by decide) 4 (by decide) (by decide)), y2, cb_mk]
    rw [tmc_0 hT]
    unfold m_X1_readSetting b_X1_readSetting_13
    rw [if00, y1, cb_mk, cb_mk]
    have l1 := lS.tt y3 (by decide)
    have l4 := lT3.tt y4 (by decide)
    have k1 : FX [] [(105, 39)] [] A S1 (sI S1 105 (A 39) v) := (FX.rf _ _ _ _ _).wP (by decide)
    have k2 : FX [1223] [] [] A T4 (sI T4 1223 (A 60) u) := (FX.rf _ _ _ _ _).wI (by decide)
    refine ⟨_, _, rfl, y3.x.tr (k1.mono (by decide) (by decide) (by decide)), (p2.m.tr y4.m).tr (k2.mono (by decide) (by decide) (by decide)), k1.lay l1 (by decide) (by decide), k2.lay l4 (by decide) (by decide), ?_⟩
    rcases y5 with ⟨k, e', rfl, rfl, i1, i2, i3, i4, x1, m1⟩ | ⟨kk, qq, x1, m1⟩
    · have hk : k ≤ 99 := nIb i1 i3 rfl (by decide)
      have hC4 := (hC.tt (TT.rf _ _ _) p2).tt y3 y4
      refine Or.inl ⟨e', (updN g.1 5 k, g.2), by omega, x1.fx k1 l1 (by decide) (by decide) (by decide), m1.fx k2 l4 (by decide) (by decide) (by decide), ?_, hT, r1⟩
      obtain ⟨c1, c2, c3, c4, c5⟩ := hC4
      refine ⟨⟨⟨c1.1.1, c1.1.2.1, c1.1.2.2.1, c1.1.2.2.2.1, c1.1.2.2.2.2.1, hk⟩, c1.2⟩, ⟨?_, ?_, ?_, ?_, ?_, ?_⟩, ⟨?_, ?_, ?_, ?_, ?_, ?_⟩, c4, c5⟩
      · rw [pI_n (by decide)]; exact c2.1
      · rw [pI_n (by decide)]; exact c2.2.1
      · rw [pI_n (by decide)]; exact c2.2.2.1
      · rw [pI_n (by decide)]; exact c2.2.2.2.1
      · rw [pI_n (by decide)]; exact c2.2.2.2.2.1
      · rw [pI_e]; rfl
      · rw [pI_n (by decide)]; exact c3.1
      · rw [pI_n (by decide)]; exact c3.2.1
      · rw [pI_n (by decide)]; exact c3.2.2.1
      · rw [pI_n (by decide)]; exact c3.2.2.2.1
      · rw [pI_n (by decide)]; exact c3.2.2.2.2.1
      · rw [pI_e]; rfl
    · have m2 : ME A b z (sI T4 1223 (A 60) u) kk qq := m1.fx k2 l4 (by decide) (by decide) (by decide)
      exact Or.inr ⟨kk, qq, x1.fx k1 l1 (by decide) (by decide) (by decide), m2, by rw [r1, r_225E m2]⟩
  · obtain ⟨v, S1, a1, a2, a3⟩ := x_setT (n := n) (x2 := tmc cl) (mo := 99) hn hx h4 hq (tmc_1 hT)
    obtain ⟨T', r1, r2, r3⟩ := r_155 (n := n) (f := f + 1) (cl := cl) (x3 := nI (ofV 5)) (x4 := 0) hm hq
    have l1 := lS.tt a2 (by decide)
    have k1 : FX [] [(105, 39)] [] A S1 (sI S1 105 (A 39) v) := (FX.rf _ _ _ _ _).wP (by decide)
    rw [a1, cb_mk]
    refine ⟨_, T', rfl, a2.x.tr (k1.mono (by decide) (by decide) (by decide)), r2.m, k1.lay l1 (by decide) (by decide), lT.tt r2 (by decide), Or.inr ⟨3, q, a3.fx k1 l1 (by decide) (by decide) (by decide), r3, ?_⟩⟩
    rw [rk, ← r1, b_X12_coast_141, if_pos (show nI cl = (60 : Int32) by rw [show cl = 60 by omega]; rfl)]
theorem j_clN {e q W cl f : Nat} (hn : 20000 ≤ n) (lS : LAY A S) (lT : LAY A T) (hx : XF A b z S e) (h4 : pI S 1004 (A 1) = nI q) (hq : q ≤ 600) (hm : MF A b z T q) (hw : ∀ j, j < 20 → m_X10_isWord n (A 1) j S = some (@ite _ (wm b q e j) (Classical.propDecidable _) 1 0, S)) (hv : ∀ j, j < 20 → (nI W = nI (ofV j) ↔ wm b q e j)) (hj : ∀ j, j < 6 → ¬ wm b q e j) : ∃ S' T', clsK n A (tmc cl) S = some S' ∧ FXx A S S' ∧ FXm A T T' ∧ LAY A S' ∧ LAY A T' ∧ OC A b z n f cl q (nI W) S' T T' := by
  have hW : ∀ j, j < 6 → ¬ nI W = nI (ofV j) := fun j h6 x => hj j h6 ((hv j (by omega)).mp x)
  obtain ⟨S1, a1, a2, a3⟩ := x_ref (n := n) (k := 1) (q := q) hx (by decide) hq
  obtain ⟨T1, c1, c2, c3⟩ := r_wr (n := n) (k := 1) (q := q) hm (by decide) hq
  refine ⟨S1, T1, ?_, a2.x, c2.m, lS.tt a2 (by decide), lT.tt c2 (by decide), Or.inr ⟨1, q, a3, c3, ?_⟩⟩
  · unfold clsK
    rw [hw 0 (by decide), cb_mk, if_neg (hj 0 (by decide)), if00, hw 1 (by decide), cb_mk, if_neg (hj 1 (by decide)), if00, hw 2 (by decide), cb_mk, if_neg (hj 2 (by decide)), if00, hw 3 (by decide), cb_mk, if_neg (hj 3 (by decide)), if00, hw 4 (by decide), cb_mk, if_neg (hj 4 (by decide)), if00, hw 5 (by decide), cb_mk, if_neg (hj 5 (by decide)), if00, h4, show m_X10_refuse n (A 1) 1 (nI q) S = some S1 from a1, ob_mk]
  · unfold refK
    rw [r_of (by decide) hn, cb_mk, if_neg (hW 0 (by decide)), r_of (by decide) hn, cb_mk, if_neg (hW 1 (by decide)), r_of (by decide) hn, cb_mk, if_neg (hW 2 (by decide)), r_of (by decide) hn, cb_mk, if_neg (hW 3 (by decide)), b_X12_coast_104, if00, r_of (by decide) hn, cb_mk, if_neg (hW 4 (by decide)), r_of (by decide) hn, cb_mk, if_neg (hW 5 (by decide)), hm.2.2.1, show m_X12_wrong n (A 60) 1 (nI q) T = some T1 from c1, ob_mk, b_X12_coast_164, r_fineE c3, cb_mk, if00, b_X12_coast_171]
end
