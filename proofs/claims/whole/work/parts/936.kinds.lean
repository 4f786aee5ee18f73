/-! work: kinds of steps -/
def clsB (n : Nat) (A : Nat → Nat) (rec : (Nat → Nat → Nat → Int32 → pq_S → Option pq_S) × (Nat → Nat → Nat → Int32 → pq_S → Option pq_S) × (Nat → Nat → Nat → Int32 → Int32 → pq_S → Option pq_S)) (x3 r4 : Int32) (S3 : pq_S) : Option pq_S := cb (m_X10_isWord n (A 1) 15 S3) fun r8 S_6 => if r8 = 0 then cb (m_X10_isWord n (A 1) 16 S_6) fun r14 S_12 => if r14 = 0 then cb (m_X10_isWord n (A 1) 17 S_12) fun r20 S_18 => if r20 = 0 then cb (m_X10_isWord n (A 1) 18 S_18) fun r26 S_24 => if r26 = 0 then cb (m_X10_isWord n (A 1) 13 S_24) fun r32 S_30 => if r32 = 0 then cb (m_X10_isWord n (A 1) 19 S_30) fun r38 S_36 => if r38 = 0 then Option.bind (m_X10_refuse n (A 1) 1 (pI S_36 1004 (A 1)) S_36) fun S_42 => some S_42 else Option.bind (rec.2.2 (A 36) (A 1) (A 4) r4 x3 S_36) fun S_45 => some S_45 else Option.bind (pR S_30 600 (A 36)) fun q48 => Option.bind (m_X9_put n q48 r4 0 4 S_30) fun S_49 => some S_49 else Option.bind (pR S_24 600 (A 36)) fun q52 => Option.bind (m_X9_put n q52 r4 0 3 S_24) fun S_53 => Option.bind (pR S_53 600 (A 36)) fun q56 => Option.bind (pR S_53 102 (A 4)) fun q57 => cb (m_X10_takeNumber n (A 1) 0 ((pI S_53 902 q57) - (1 : Int32)) S_53) fun r60 S_58 => Option.bind (m_X9_put n q56 r4 1 r60 S_58) fun S_62 => Option.bind (pR S_62 600 (A 36)) fun q65 => cb (m_X10_takeNumber n (A 1) 1 9 S_62) fun r68 S_66 => Option.bind (m_X9_put n q65 r4 2 r68 S_66) fun S_70 => some S_70 else Option.bind (pR S_18 600 (A 36)) fun q73 => Option.bind (m_X9_put n q73 r4 0 2 S_18) fun S_74 => Option.bind (pR S_74 600 (A 36)) fun q77 => Option.bind (pR S_74 100 (A 4)) fun q78 => cb (m_X10_takeNumber n (A 1) 0 ((pI S_74 902 q78) - (1 : Int32)) S_74) fun r81 S_79 => Option.bind (m_X9_put n q77 r4 1 r81 S_79) fun S_83 => Option.bind (pR S_83 600 (A 36)) fun q86 => cb (m_X10_takeNumber n (A 1) 1 99 S_83) fun r89 S_87 => Option.bind (m_X9_put n q86 r4 2 r89 S_87) fun S_91 => some S_91 else Option.bind (pR S_12 600 (A 36)) fun q94 => Option.bind (m_X9_put n q94 r4 0 1 S_12) fun S_95 => Option.bind (pR S_95 600 (A 36)) fun q98 => Option.bind (pR S_95 101 (A 4)) fun q99 => cb (m_X10_takeNumber n (A 1) 0 ((pI S_95 902 q99) - (1 : Int32)) S_95) fun r102 S_100 => Option.bind (m_X9_put n q98 r4 1 r102 S_100) fun S_104 => some S_104 else Option.bind (m_X6_readCarry n (A 36) (A 1) (A 4) r4 S_6) fun S_107 => some S_107
def refB (n : Nat) (A : Nat → Nat) (rec : Nat → pq_S → Option pq_S) (r : Int32) (T2 : pq_S) : Option pq_S := cb (m_X12_of n 15 T2) fun r7 S_5 => if r = r7 then Option.bind (m_X12_pass n (A 60) S_5) fun S_95 => Option.bind (m_X12_readCarry n (A 60) S_95) fun S_98 => b_X12_readStep_289 n rec (A 60) S_98 else cb (m_X12_of n 16 S_5) fun r12 S_10 => if r = r12 then Option.bind (m_X12_pass n (A 60) S_10) fun S_85 => cb (m_X12_readNumber n (A 60) 0 ((pI S_85 1225 (A 60)) - (1 : Int32)) S_85) fun r90 S_88 => Option.bind (m_X12_tellsStep n (A 60) 1 r90 0 0 0 S_88) fun S_92 => b_X12_readStep_289 n rec (A 60) S_92 else cb (m_X12_of n 17 S_10) fun r17 S_15 => if r = r17 then Option.bind (m_X12_pass n (A 60) S_15) fun S_71 => cb (m_X12_readNumber n (A 60) 0 ((pI S_71 1224 (A 60)) - (1 : Int32)) S_71) fun r76 S_74 => cb (m_X12_readNumber n (A 60) 1 99 S_74) fun r80 S_78 => Option.bind (m_X12_tellsStep n (A 60) 2 r76 r80 0 0 S_78) fun S_82 => b_X12_readStep_289 n rec (A 60) S_82 else cb (m_X12_of n 18 S_15) fun r22 S_20 => if r = r22 then Option.bind (m_X12_pass n (A 60) S_20) fun S_57 => cb (m_X12_readNumber n (A 60) 0 ((pI S_57 1226 (A 60)) - (1 : Int32)) S_57) fun r62 S_60 => cb (m_X12_readNumber n (A 60) 1 9 S_60) fun r66 S_64 => Option.bind (m_X12_tellsStep n (A 60) 3 r62 r66 0 0 S_64) fun S_68 => b_X12_readStep_289 n rec (A 60) S_68 else cb (m_X12_of n 13 S_20) fun r27 S_25 => if r = r27 then Option.bind (m_X12_pass n (A 60) S_25) fun S_51 => Option.bind (m_X12_tellsStep n (A 60) 4 0 0 0 0 S_51) fun S_54 => b_X12_readStep_289 n rec (A 60) S_54 else cb (m_X12_of n 19 S_25) fun r32 S_30 => if r = r32 then Option.bind (m_X12_opensOne n (A 60) 5 S_30) fun S_38 => cb (m_X12_readNumber n (A 60) 0 20 S_38) fun r43 S_41 => Option.bind (m_X12_sign n (A 60) 91 S_41) fun S_45 => Option.bind (m_X12_tellsStep n (A 60) 5 r43 0 0 0 S_45) fun S_48 => b_X12_readStep_219 n rec n (A 60) (pI S_45 1240 (A 60)) S_48 else Option.bind (m_X12_wrong n (A 60) 1 (pI S_30 1204 (A 60)) S_30) fun S_35 => b_X12_readStep_289 n rec (A 60) S_35
section
variable {A b : Nat → Nat} {z n P W M o : Nat} {S T : pq_S} {rec : (Nat → Nat → Nat → Int32 → pq_S → Option pq_S) × (Nat → Nat → Nat → Int32 → pq_S → Option pq_S) × (Nat → Nat → Nat → Int32 → Int32 → pq_S → Option pq_S)} {rec' : Nat → pq_S → Option pq_S}
theorem r_289 : b_X12_readStep_289 n rec' (A 60) T = Option.bind (m_X12_sign n (A 60) 59 T) fun S_127 => some S_127 := rfl
/-- what is known when a step's word is read: S has the step's row already -/
def WC (A b : Nat → Nat) (z n P W M o : Nat) (S T : pq_S) (q e R : Nat) : Prop := XF A b z S e ∧ pI S 1004 (A 1) = nI q ∧ MF A b z T q ∧ e = we b z q ∧ q < e ∧ LAY A S ∧ LAY A T ∧ CN A P W M S T ∧ pI S 902 (A 37) = nI (R + 1) ∧ pI T 1240 (A 60) = nI (5 * R) ∧ pI T 1207 (A 60) = nI o ∧ R < 25 ∧ 6 * R ≤ q ∧ o ≤ 6 ∧ (∀ j, j < 20 → m_X10_isWord n (A 1) j S = some (@ite _ (wm b q e j) (Classical.propDecidable _) 1 0, S)) ∧ (∀ j, j < 20 → (nI (wdV b q e) = nI (ofV j) ↔ wm b q e j))
def OK1 (A b : Nat → Nat) (z n P W M o : Nat) (rec : (Nat → Nat → Nat → Int32 → pq_S → Option pq_S) × (Nat → Nat → Nat → Int32 → pq_S → Option pq_S) × (Nat → Nat → Nat → Int32 → Int32 → pq_S → Option pq_S)) (rec' : Nat → pq_S → Option pq_S) (S T : pq_S) (q e R : Nat) : Prop := ∃ Sm S' T', clsB n A rec (nI o) (nI R) S = some Sm ∧ m_X10_takeSign n (A 1) 59 Sm = some S' ∧ refB n A rec' (nI (wdV b q e)) T = some T' ∧ FXx A S S' ∧ FXm A T T' ∧ PO A b z P W M o S T S' T' (q + 6) R

theorem jk_month {q e R : Nat} (hn : 20000 ≤ n) (hC : WC A b z n P W M o S T q e R) (hj : wm b q e 13) : OK1 A b z n P W M o rec rec' S T q e R := by
  obtain ⟨hx, h4, hm, he, hqe, lS, lT, hN, r37, t40, t07, hR, h6, ho, hw, hv⟩ := hC
  have hW : nI (wdV b q e) = nI (ofV 13) := (hv 13 (by decide)).mpr hj
  have hne : ∀ i, i < 20 → i ≠ 13 → ¬ wm b q e i := fun i hi hij hwi => r_dv20 i hi 13 (by decide) hij (((hv i hi).mpr hwi).symm.trans hW)
  have hlen : e = q + tln 13 := by have := hj.1; omega
  have htl : tln 13 = 5 := rfl
  unfold OK1
  rw [hW]
  obtain ⟨T3, p1, p2, p3⟩ := r_pass (n := n) hm hn
  rw [← he] at p3
  have k4 : FX [] [] [38] A S (sA S (A 38) (5 * R + 0) 4) := (FX.rf _ _ _ _ _).wA (by decide)
  have H : HH A b z (sA S (A 38) (5 * R + 0) 4) T3 e True := HH.pst (R := R) (c := 0) ⟨lS, lT.tt p2 (by decide), Or.inl ⟨e, Nat.le_refl _, hx, p3, trivial⟩⟩
  obtain ⟨S', T', T1, a1, a2, a3, a4, a5, a6⟩ := j_fin (n := n) (A := A) (b := b) (z := z) (P := P) (W := W) (M := M) (o := o) (R := R) (x1 := 4) (x2 := 0) (x3 := 0) (x4 := 0) (x5 := 0) (S0 := S) (T0 := T) hn H (k4.mono (by decide) (by decide) (by decide)) p2.m lS lT hR (by omega) r37 (by rw [p2.2 _ _ (by decide)]; exact t40) (by rw [p2.2 _ _ (by decide)]; exact t07) (fun i hi => by rw [pA_sA, if_neg (fun q => by omega)]) (fun i hi => by rw [p2.1.2.2.2.2.2]) (pq := q + 6) (by omega) (fun _ y hy => Or.inr (Or.inr (Or.inr (Or.inr ⟨by rw [pA_sA, if_pos ⟨rfl, rfl⟩]; rfl, hy.1⟩))))
  refine ⟨_, S', T', ?_, a1, ?_, a4, a5, a6⟩
  · unfold clsB
    rw [hw 15 (by decide), cb_mk, if_neg (hne 15 (by decide) (by decide)), if00, hw 16 (by decide), cb_mk, if_neg (hne 16 (by decide) (by decide)), if00, hw 17 (by decide), cb_mk, if_neg (hne 17 (by decide) (by decide)), if00, hw 18 (by decide), cb_mk, if_neg (hne 18 (by decide) (by decide)), if00, hw 13 (by decide), cb_mk, if_pos hj, if10, lS.r36_600, ob_mk, show m_X9_put n (A 37) (nI R) 0 4 S = some (sA S (A 38) (5 * R + 0) 4) from x_pst (c := 0) lS hR (by decide), ob_mk]
  · unfold refB
    rw [r_of (by decide) hn, cb_mk, if_neg (r_dv20 13 (by decide) 15 (by decide) (by decide)), r_of (by decide) hn, cb_mk, if_neg (r_dv20 13 (by decide) 16 (by decide) (by decide)), r_of (by decide) hn, cb_mk, if_neg (r_dv20 13 (by decide) 17 (by decide) (by decide)), r_of (by decide) hn, cb_mk, if_neg (r_dv20 13 (by decide) 18 (by decide) (by decide)), r_of (by decide) hn, cb_mk, if_pos rfl, p1, ob_mk, a2, ob_mk, r_289, a3, ob_mk]
theorem jk_sell {q e R : Nat} (hn : 20000 ≤ n) (hC : WC A b z n P W M o S T q e R) (hj : wm b q e 16) : OK1 A b z n P W M o rec rec' S T q e R := by
  obtain ⟨hx, h4, hm, he, hqe, lS, lT, hN, r37, t40, t07, hR, h6, ho, hw, hv⟩ := hC
  have hW : nI (wdV b q e) = nI (ofV 16) := (hv 16 (by decide)).mpr hj
  have hne : ∀ i, i < 20 → i ≠ 16 → ¬ wm b q e i := fun i hi hij hwi => r_dv20 i hi 16 (by decide) hij (((hv i hi).mpr hwi).symm.trans hW)
  have hlen : e = q + tln 16 := by have := hj.1; omega
  have htl : tln 16 = 4 := rfl
  unfold OK1
  rw [hW]
  obtain ⟨T3, p1, p2, p3⟩ := r_pass (n := n) hm hn
  rw [← he] at p3
  have lT3 := lT.tt p2 (by decide)
  have k4 : FX [] [] [38] A S (sA S (A 38) (5 * R + 0) 1) := (FX.rf _ _ _ _ _).wA (by decide)
  have l4 := k4.lay lS (by decide) (by decide)
  have H : HH A b z (sA S (A 38) (5 * R + 0) 1) T3 e True := HH.pst (R := R) (c := 0) ⟨lS, lT3, Or.inl ⟨e, Nat.le_refl _, hx, p3, trivial⟩⟩
  have cW : pI (sA S (A 38) (5 * R + 0) 1) 902 (A 7) = nI W := by rw [k4.I lS (by decide) (by decide) (by decide)]; exact hN.2.1.2.1
  have tW : pI T3 1225 (A 60) = nI W := by rw [p2.2 _ _ (by decide)]; exact hN.2.2.2.1
  obtain ⟨v, u, S5, T5, b1, b2, b3, b4, H5⟩ := h_num (n := n) (lo := 0) (hi := nI W - 1) (lo' := 0) (hi' := nI W - 1) H hn (fun _ => ⟨rfl, rfl, wm1_le hN.1.2.1⟩)
  have l5 := l4.tt b3 (by decide)
  have H6 := H5.pst (R := R) (c := 1) (v := v)
  have k6 : FX [] [] [38] A S5 (sA S5 (A 38) (5 * R + 1) v) := (FX.rf _ _ _ _ _).wA (by decide)
  have kx : FXx A S (sA S5 (A 38) (5 * R + 1) v) := ((k4.mono (by decide) (by decide) (by decide)).tr b3.x).tr (k6.mono (by decide) (by decide) (by decide))
  obtain ⟨S', T', T1, a1, a2, a3, a4, a5, a6⟩ := j_fin (n := n) (A := A) (b := b) (z := z) (P := P) (W := W) (M := M) (o := o) (R := R) (x1 := 1) (x2 := u) (x3 := 0) (x4 := 0) (x5 := 0) (S0 := S) (T0 := T) hn H6 kx (p2.m.tr b4.m) lS lT hR (by omega) (by rw [pI_sA, b3.2 _ _ (by decide)]; exact r37) (by rw [b4.2 _ _ (by decide), p2.2 _ _ (by decide)]; exact t40) (by rw [b4.2 _ _ (by decide), p2.2 _ _ (by decide)]; exact t07) (fun i hi => by rw [pA_sA, if_neg (fun q => by omega), b3.1.2.2.2.2.2, pA_sA, if_neg (fun q => by omega)]) (fun i hi => by rw [b4.1.2.2.2.2.2, p2.1.2.2.2.2.2]) (pq := q + 6) (by omega) (fun d y hy => by
    obtain ⟨_, k, rfl, rfl, i1, i2, i3⟩ := d
    have hk : k < W := nIc i3 i1 i2 (by have := hN.1; omega)
    refine Or.inr (Or.inl ⟨k, hk, ⟨?_, ?_⟩, hy.1, hy.2.1⟩)
    · rw [pA_sA, if_neg (fun q => by omega), b3.1.2.2.2.2.2, pA_sA, if_pos ⟨rfl, rfl⟩]; rfl
    · rw [pA_sA, if_pos ⟨rfl, rfl⟩])
  refine ⟨_, S', T', ?_, a1, ?_, a4, a5, a6⟩
  · unfold clsB
    rw [hw 15 (by decide), cb_mk, if_neg (hne 15 (by decide) (by decide)), if00, hw 16 (by decide), cb_mk, if_pos hj, if10, lS.r36_600, ob_mk, show m_X9_put n (A 37) (nI R) 0 1 S = some (sA S (A 38) (5 * R + 0) 1) from x_pst (c := 0) lS hR (by decide), ob_mk, l4.r36_600, ob_mk, l4.r4_101, ob_mk, cW, b1, cb_mk, show m_X9_put n (A 37) (nI R) 1 v S5 = some (sA S5 (A 38) (5 * R + 1) v) from x_pst (c := 1) l5 hR (by decide), ob_mk]
  · unfold refB
    rw [r_of (by decide) hn, cb_mk, if_neg (r_dv20 16 (by decide) 15 (by decide) (by decide)), r_of (by decide) hn, cb_mk, if_pos rfl, p1, ob_mk, tW, b2, cb_mk, a2, ob_mk, r_289, a3, ob_mk]
theorem jk_water {q e R : Nat} (hn : 20000 ≤ n) (hC : WC A b z n P W M o S T q e R) (hj : wm b q e 17) : OK1 A b z n P W M o rec rec' S T q e R := by
  obtain ⟨hx, h4, hm, he, hqe, lS, lT, hN, r37, t40, t07, hR, h6, ho, hw, hv⟩ := hC
  have hW : nI (wdV b q e) = nI (ofV 17) := (hv 17 (by decide)).mpr hj
  have hne : ∀ i, i < 20 → i ≠ 17 → ¬ wm b q e i := fun i hi hij hwi => r_dv20 i hi 17 (by decide) hij (((hv i hi).mpr hwi).symm.trans hW)
  have hlen : e = q + tln 17 := by have := hj.1; omega
  have htl : tln 17 = 5 := rfl
  unfold OK1
  rw [hW]
  obtain ⟨T3, p1, p2, p3⟩ := r_pass (n := n) hm hn
  rw [← he] at p3
  have lT3 := lT.tt p2 (by decide)
  have k4 : FX [] [] [38] A S (sA S (A 38) (5 * R + 0) 2) := (FX.rf _ _ _ _ _).wA (by decide)
  have l4 := k4.lay lS (by decide) (by decide)
  have H : HH A b z (sA S (A 38) (5 * R + 0) 2) T3 e True := HH.pst (R := R) (c := 0) ⟨lS, lT3, Or.inl ⟨e, Nat.le_refl _, hx, p3, trivial⟩⟩
  have cW : pI (sA S (A 38) (5 * R + 0) 2) 902 (A 5) = nI P := by rw [k4.I lS (by decide) (by decide) (by decide)]; exact hN.2.1.1
  have tW : pI T3 1224 (A 60) = nI P := by rw [p2.2 _ _ (by decide)]; exact hN.2.2.1
  obtain ⟨v, u, S5, T5, b1, b2, b3, b4, H5⟩ := h_num (n := n) (lo := 0) (hi := nI P - 1) (lo' := 0) (hi' := nI P - 1) H hn (fun _ => ⟨rfl, rfl, pm1_le hN.1.1⟩)
  have l5 := l4.tt b3 (by decide)
  have H6 := H5.pst (R := R) (c := 1) (v := v)
  have k6 : FX [] [] [38] A S5 (sA S5 (A 38) (5 * R + 1) v) := (FX.rf _ _ _ _ _).wA (by decide)
  have l6 := k6.lay l5 (by decide) (by decide)
  obtain ⟨v2, u2, S7, T7, c1, c2, c3, c4, H7⟩ := h_num (n := n) (lo := 1) (hi := 99) (lo' := 1) (hi' := 99) H6 hn (fun _ => ⟨rfl, rfl, by decide⟩)
  have l7 := l6.tt c3 (by decide)
  have H8 := H7.pst (R := R) (c := 2) (v := v2)
  have k8 : FX [] [] [38] A S7 (sA S7 (A 38) (5 * R + 2) v2) := (FX.rf _ _ _ _ _).wA (by decide)
  have kx : FXx A S (sA S7 (A 38) (5 * R + 2) v2) := ((((k4.mono (by decide) (by decide) (by decide)).tr b3.x).tr (k6.mono (by decide) (by decide) (by decide))).tr c3.x).tr (k8.mono (by decide) (by decide) (by decide))
  obtain ⟨S', T', T1, a1, a2, a3, a4, a5, a6⟩ := j_fin (n := n) (A := A) (b := b) (z := z) (P := P) (W := W) (M := M) (o := o) (R := R) (x1 := 2) (x2 := u) (x3 := u2) (x4 := 0) (x5 := 0) (S0 := S) (T0 := T) hn H8 kx ((p2.m.tr b4.m).tr c4.m) lS lT hR (by omega) (by rw [pI_sA, c3.2 _ _ (by decide), pI_sA, b3.2 _ _ (by decide)]; exact r37) (by rw [c4.2 _ _ (by decide), b4.2 _ _ (by decide), p2.2 _ _ (by decide)]; exact t40) (by rw [c4.2 _ _ (by decide), b4.2 _ _ (by decide), p2.2 _ _ (by decide)]; exact t07) (fun i hi => by rw [pA_sA, if_neg (fun q => by omega), c3.1.2.2.2.2.2, pA_sA, if_neg (fun q => by omega), b3.1.2.2.2.2.2, pA_sA, if_neg (fun q => by omega)]) (fun i hi => by rw [c4.1.2.2.2.2.2, b4.1.2.2.2.2.2, p2.1.2.2.2.2.2]) (pq := q + 6) (by omega) (fun d y hy => by
    obtain ⟨⟨_, k, rfl, rfl, i1, i2, i3⟩, k', rfl, rfl, i4, i5, i6⟩ := d
    have hk : k < P := nIc i3 i1 i2 (by have := hN.1; omega)
    have hk2 : k' ≤ 99 := nIb i6 i5 rfl (by decide)
    have hk3 : 1 ≤ k' := nIa i6 i4 rfl (by decide)
    refine Or.inr (Or.inr (Or.inl ⟨k, k', hk, hk3, hk2, ⟨?_, ?_, ?_⟩, hy.1, hy.2.1, hy.2.2.1⟩))
    · rw [pA_sA, if_neg (fun q => by omega), c3.1.2.2.2.2.2, pA_sA, if_neg (fun q => by omega), b3.1.2.2.2.2.2, pA_sA, if_pos ⟨rfl, rfl⟩]; rfl
    · rw [pA_sA, if_neg (fun q => by omega), c3.1.2.2.2.2.2, pA_sA, if_pos ⟨rfl, rfl⟩]
    · rw [pA_sA, if_pos ⟨rfl, rfl⟩])
  refine ⟨_, S', T', ?_, a1, ?_, a4, a5, a6⟩
  · unfold clsB
    rw [hw 15 (by decide), cb_mk, if_neg (hne 15 (by decide) (by decide)), if00, hw 16 (by decide), cb_mk, if_neg (hne 16 (by decide) (by decide)), if00, hw 17 (by decide), cb_mk, if_pos hj, if10, lS.r36_600, ob_mk, show m_X9_put n (A 37) (nI R) 0 2 S = some (sA S (A 38) (5 * R + 0) 2) from x_pst (c := 0) lS hR (by decide), ob_mk, l4.r36_600, ob_mk, l4.r4_100, ob_mk, cW, b1, cb_mk, show m_X9_put n (A 37) (nI R) 1 v S5 = some (sA S5 (A 38) (5 * R + 1) v) from x_pst (c := 1) l5 hR (by decide), ob_mk, l6.r36_600, ob_mk, c1, cb_mk, show m_X9_put n (A 37) (nI R) 2 v2 S7 = some (sA S7 (A 38) (5 * R + 2) v2) from x_pst (c := 2) l7 hR (by decide), ob_mk]
  · unfold refB
    rw [r_of (by decide) hn, cb_mk, if_neg (r_dv20 17 (by decide) 15 (by decide) (by decide)), r_of (by decide) hn, cb_mk, if_neg (r_dv20 17 (by decide) 16 (by decide) (by decide)), r_of (by decide) hn, cb_mk, if_pos rfl, p1, ob_mk, tW, b2, cb_mk, c2, cb_mk, a2, ob_mk, r_289, a3, ob_mk]
theorem jk_dig {q e R : Nat} (hn : 20000 ≤ n) (hC : WC A b z n P W M o S T q e R) (hj : wm b q e 18) : OK1 A b z n P W M o rec rec' S T q e R := by
  obtain ⟨hx, h4, hm, he, hqe, lS, lT, hN, r37, t40, t07, hR, h6, ho, hw, hv⟩ := hC
  have hW : nI (wdV b q e) = nI (ofV 18) := (hv 18 (by decide)).mpr hj
  have hne : ∀ i, i < 20 → i ≠ 18 → ¬ wm b q e i := fun i hi hij hwi => r_dv20 i hi 18 (by decide) hij (((hv i hi).mpr hwi).symm.trans hW)
  have hlen : e = q + tln 18 := by have := hj.1; omega
  have htl : tln 18 = 3 := rfl
  unfold OK1
  rw [hW]
  obtain ⟨T3, p1, p2, p3⟩ := r_pass (n := n) hm hn
  rw [← he] at p3
  have lT3 := lT.tt p2 (by decide)
  have k4 : FX [] [] [38] A S (sA S (A 38) (5 * R + 0) 3) := (FX.rf _ _ _ _ _).wA (by decide)
  have l4 := k4.lay lS (by decide) (by decide)
  have H : HH A b z (sA S (A 38) (5 * R + 0) 3) T3 e True := HH.pst (R := R) (c := 0) ⟨lS, lT3, Or.inl ⟨e, Nat.le_refl _, hx, p3, trivial⟩⟩
  have cW : pI (sA S (A 38) (5 * R + 0) 3) 902 (A 9) = nI M := by rw [k4.I lS (by decide) (by decide) (by decide)]; exact hN.2.1.2.2
  have tW : pI T3 1226 (A 60) = nI M := by rw [p2.2 _ _ (by decide)]; exact hN.2.2.2.2
  obtain ⟨v, u, S5, T5, b1, b2, b3, b4, H5⟩ := h_num (n := n) (lo := 0) (hi := nI M - 1) (lo' := 0) (hi' := nI M - 1) H hn (fun _ => ⟨rfl, rfl, wm1_le (Nat.le_trans hN.1.2.2 (by decide))⟩)
  have l5 := l4.tt b3 (by decide)
  have H6 := H5.pst (R := R) (c := 1) (v := v)
  have k6 : FX [] [] [38] A S5 (sA S5 (A 38) (5 * R + 1) v) := (FX.rf _ _ _ _ _).wA (by decide)
  have l6 := k6.lay l5 (by decide) (by decide)
  obtain ⟨v2, u2, S7, T7, c1, c2, c3, c4, H7⟩ := h_num (n := n) (lo := 1) (hi := 9) (lo' := 1) (hi' := 9) H6 hn (fun _ => ⟨rfl, rfl, by decide⟩)
  have l7 := l6.tt c3 (by decide)
  have H8 := H7.pst (R := R) (c := 2) (v := v2)
  have k8 : FX [] [] [38] A S7 (sA S7 (A 38) (5 * R + 2) v2) := (FX.rf _ _ _ _ _).wA (by decide)
  have kx : FXx A S (sA S7 (A 38) (5 * R + 2) v2) := ((((k4.mono (by decide) (by decide) (by decide)).tr b3.x).tr (k6.mono (by decide) (by decide) (by decide))).tr c3.x).tr (k8.mono (by decide) (by decide) (by decide))
  obtain ⟨S', T', T1, a1, a2, a3, a4, a5, a6⟩ := j_fin (n := n) (A := A) (b := b) (z := z) (P := P) (W := W) (M := M) (o := o) (R := R) (x1 := 3) (x2 := u) (x3 := u2) (x4 := 0) (x5 := 0) (S0 := S) (T0 := T) hn H8 kx ((p2.m.tr b4.m).tr c4.m) lS lT hR (by omega) (by rw [pI_sA, c3.2 _ _ (by decide), pI_sA, b3.2 _ _ (by decide)]; exact r37) (by rw [c4.2 _ _ (by decide), b4.2 _ _ (by decide), p2.2 _ _ (by decide)]; exact t40) (by rw [c4.2 _ _ (by decide), b4.2 _ _ (by decide), p2.2 _ _ (by decide)]; exact t07) (fun i hi => by rw [pA_sA, if_neg (fun q => by omega), c3.1.2.2.2.2.2, pA_sA, if_neg (fun q => by omega), b3.1.2.2.2.2.2, pA_sA, if_neg (fun q => by omega)]) (fun i hi => by rw [c4.1.2.2.2.2.2, b4.1.2.2.2.2.2, p2.1.2.2.2.2.2]) (pq := q + 6) (by omega) (fun d y hy => by
    obtain ⟨⟨_, k, rfl, rfl, i1, i2, i3⟩, k', rfl, rfl, i4, i5, i6⟩ := d
    have hk : k < M := nIc i3 i1 i2 (by have := hN.1; omega)
    have hk2 : k' ≤ 9 := nIb i6 i5 rfl (by decide)
    have hk3 : 1 ≤ k' := nIa i6 i4 rfl (by decide)
    refine Or.inr (Or.inr (Or.inr (Or.inl ⟨k, k', hk, hk3, hk2, ⟨?_, ?_, ?_⟩, hy.1, hy.2.1, hy.2.2.1⟩)))
    · rw [pA_sA, if_neg (fun q => by omega), c3.1.2.2.2.2.2, pA_sA, if_neg (fun q => by omega), b3.1.2.2.2.2.2, pA_sA, if_pos ⟨rfl, rfl⟩]; rfl
    · rw [pA_sA, if_neg (fun q => by omega), c3.1.2.2.2.2.2, pA_sA, if_pos ⟨rfl, rfl⟩]
    · rw [pA_sA, if_pos ⟨rfl, rfl⟩])
  refine ⟨_, S', T', ?_, a1, ?_, a4, a5, a6⟩
  · unfold clsB
    rw [hw 15 (by decide), cb_mk, if_neg (hne 15 (by decide) (by decide)), if00, hw 16 (by decide), cb_mk, if_neg (hne 16 (by decide) (by decide)), if00, hw 17 (by decide), cb_mk, if_neg (hne 17 (by decide) (by decide)), if00, hw 18 (by decide), cb_mk, if_pos hj, if10, lS.r36_600, ob_mk, show m_X9_put n (A 37) (nI R) 0 3 S = some (sA S (A 38) (5 * R + 0) 3) from x_pst (c := 0) lS hR (by decide), ob_mk, l4.r36_600, ob_mk, l4.r4_102, ob_mk, cW, b1, cb_mk, show m_X9_put n (A 37) (nI R) 1 v S5 = some (sA S5 (A 38) (5 * R + 1) v) from x_pst (c := 1) l5 hR (by decide), ob_mk, l6.r36_600, ob_mk, c1, cb_mk, show m_X9_put n (A 37) (nI R) 2 v2 S7 = some (sA S7 (A 38) (5 * R + 2) v2) from x_pst (c := 2) l7 hR (by decide), ob_mk]
  · unfold refB
    rw [r_of (by decide) hn, cb_mk, if_neg (r_dv20 18 (by decide) 15 (by decide) (by decide)), r_of (by decide) hn, cb_mk, if_neg (r_dv20 18 (by decide) 16 (by decide) (by decide)), r_of (by decide) hn, cb_mk, if_neg (r_dv20 18 (by decide) 17 (by decide) (by decide)), r_of (by decide) hn, cb_mk, if_pos rfl, p1, ob_mk, tW, b2, cb_mk, c2, cb_mk, a2, ob_mk, r_289, a3, ob_mk]
theorem jk_carry {q e R : Nat} (hn : 20000 ≤ n) (hC : WC A b z n P W M o S T q e R) (hj : wm b q e 15) : OK1 A b z n P W M o rec rec' S T q e R := by
  obtain ⟨hx, h4, hm, he, hqe, lS, lT, hN, r37, t40, t07, hR, h6, ho, hw, hv⟩ := hC
  have hW : nI (wdV b q e) = nI (ofV 15) := (hv 15 (by decide)).mpr hj
  have hne : ∀ i, i < 20 → i ≠ 15 → ¬ wm b q e i := fun i hi hij hwi => r_dv20 i hi 15 (by decide) hij (((hv i hi).mpr hwi).symm.trans hW)
  have hlen : e = q + tln 15 := by have := hj.1; omega
  have htl : tln 15 = 5 := rfl
  unfold OK1
  rw [hW]
  obtain ⟨T3, p1, p2, p3⟩ := r_pass (n := n) hm hn
  rw [← he] at p3
  have lT3 := lT.tt p2 (by decide)
  have H : HH A b z S T3 e True := ⟨lS, lT3, Or.inl ⟨e, Nat.le_refl _, hx, p3, trivial⟩⟩
  have tP : pI T3 1224 (A 60) = nI P := by rw [p2.2 _ _ (by decide)]; exact hN.2.2.1
  obtain ⟨v, u, S5, T5, b1, b2, b3, b4, H5⟩ := h_num (n := n) (lo := 0) (hi := nI P - 1) (lo' := 0) (hi' := nI P - 1) H hn (fun _ => ⟨rfl, rfl, pm1_le hN.1.1⟩)
  have l5 := lS.tt b3 (by decide)
  have m5 := lT3.tt b4 (by decide)
  -- over the blanks
  have nx : ∃ v9 u9 S6 T6, m_X10_next n (A 1) S5 = some (v9, S6) ∧ m_X12_here n (A 60) T5 = some (u9, T6) ∧ TT 1003 1006 S5 S6 ∧ TT 1204 1206 T5 T6 ∧ HH A b z S6 T6 (e + 1) ((True ∧ ∃ k, v = nI k ∧ u = nI k ∧ 0 ≤ nI k ∧ nI k ≤ nI P - 1 ∧ k ≤ 9999) ∧ ∃ sp, sp ≤ 600 ∧ pI S6 1003 (A 1) = nI sp ∧ pI T6 1204 (A 60) = nI sp) := by
    obtain ⟨_, _, ⟨p, hp, hx5, hm5, d⟩ | ⟨kk, qq, hx5, hm5⟩⟩ := H5
    · obtain ⟨S6, y1, y2, y3⟩ := x_next (n := n) hx5 hn
      obtain ⟨T6, y4, y5, y6⟩ := r_here (n := n) hm5 hn
      have := sk_ge b z p
      have := sk_le b hx5.2.1
      have := hx5.1.2.2.2.1
      exact ⟨_, _, S6, T6, y1, y4, y2, y5, l5.tt y2 (by decide), m5.tt y5 (by decide), Or.inl ⟨_, by omega, y3, y6, d, sk b z p, by omega, y3.2.2.1, y6.2.2.1⟩⟩
    · obtain ⟨S6, y1, y2, y3⟩ := x_nextE (n := n) hx5 hn
      obtain ⟨v', T6, y4, y5, y6⟩ := r_hereE (n := n) hm5 hn
      exact ⟨_, _, S6, T6, y1, y4, y2, y5, l5.tt y2 (by decide), m5.tt y5 (by decide), Or.inr ⟨_, _, y3, y6⟩⟩
  obtain ⟨v9, u9, S6, T6, n1, n2, n3, n4, H6⟩ := nx
  have l6 := l5.tt n3 (by decide)
  have m6 := m5.tt n4 (by decide)
  have cP6 : pI S6 902 (A 5) = nI P := by rw [n3.2 _ _ (by decide), b3.2 _ _ (by decide)]; exact hN.2.1.1
  have tP6 : pI T6 1224 (A 60) = nI P := by rw [n4.2 _ _ (by decide), b4.2 _ _ (by decide)]; exact tP
  obtain ⟨v2, u2, S7, T7, c1, c2, c3, c4, H7⟩ := h_num (n := n) (lo := 0) (hi := nI P - 1) (lo' := 0) (hi' := nI P - 1) H6 hn (fun _ => ⟨rfl, rfl, pm1_le hN.1.1⟩)
  have l7 := l6.tt c3 (by decide)
  have m7 := m6.tt c4 (by decide)
  -- other than the first
  have df : ∃ S8 T8, (cb (m_X10_isWell n (A 1) S7) fun r17 S_15 => if r17 = 0 then b_X6_readCarry_64 n (A 36) (A 1) (nI R) v v2 S_15 else if v2 = v then Option.bind (m_X10_refuse n (A 1) 2 (pI S6 1003 (A 1)) S_15) fun S_22 => b_X6_readCarry_64 n (A 36) (A 1) (nI R) v v2 S_22 else b_X6_readCarry_64 n (A 36) (A 1) (nI R) v v2 S_15) = b_X6_readCarry_64 n (A 36) (A 1) (nI R) v v2 S8 ∧ (cb (m_X12_fine n (A 60) T7) fun r15 S_13 => if r15 = 0 then b_X12_readCarry_52 n (A 60) u u2 S_13 else if u = u2 then Option.bind (m_X12_wrong n (A 60) 2 (pI T6 1204 (A 60)) S_13) fun S_20 => b_X12_readCarry_52 n (A 60) u u2 S_20 else b_X12_readCarry_52 n (A 60) u u2 S_13) = b_X12_readCarry_52 n (A 60) u u2 T8 ∧ TT 1003 1006 S7 S8 ∧ TT 1204 1206 T7 T8 ∧ HH A b z S8 T8 (e + 2) (∃ a c, v = nI a ∧ u = nI a ∧ v2 = nI c ∧ u2 = nI c ∧ a < P ∧ c < P ∧ a ≠ c) := by
    obtain ⟨_, _, ⟨p, hp, hx7, hm7, ⟨⟨⟨_, k, rfl, rfl, i1, i2, i3⟩, sp, s1, s2, s3⟩, k', rfl, rfl, i4, i5, i6⟩⟩ | ⟨kk, qq, hx7, hm7⟩⟩ := H7
    · have hk : k < P := nIc i3 i1 i2 (by have := hN.1; omega)
      have hk' : k' < P := nIc i6 i4 i5 (by have := hN.1; omega)
      rw [x_well hx7, cb_mk, if10, r_fine hm7, cb_mk, if10, s2, s3]
      by_cases ek : k' = k
      · subst ek
        obtain ⟨S8, y1, y2, y3⟩ := x_ref (n := n) (k := 2) (q := sp) hx7 (by decide) s1
        obtain ⟨T8, y4, y5, y6⟩ := r_wr (n := n) (k := 2) (q := sp) hm7 (by decide) s1
        rw [if_pos rfl, if_pos rfl, show m_X10_refuse n (A 1) 2 (nI sp) S7 = some S8 from y1, ob_mk, show m_X12_wrong n (A 60) 2 (nI sp) T7 = some T8 from y4, ob_mk]
        exact ⟨S8, T8, rfl, rfl, y2, y5, l7.tt y2 (by decide), m7.tt y5 (by decide), Or.inr ⟨_, _, y3, y6⟩⟩
      · rw [if_neg (fun x => ek ((nI_eq (by omega) (by omega)).mp x)), if_neg (fun x => ek ((nI_eq (by omega) (by omega)).mp x.symm))]
        exact ⟨S7, T7, rfl, rfl, TT.rf _ _ _, TT.rf _ _ _, l7, m7, Or.inl ⟨p, by omega, hx7, hm7, k, k', rfl, rfl, rfl, rfl, hk, hk', fun x => ek x.symm⟩⟩
    · rw [x_wellE hx7, cb_mk, if00, r_fineE hm7, cb_mk, if00]
      exact ⟨S7, T7, rfl, rfl, TT.rf _ _ _, TT.rf _ _ _, l7, m7, Or.inr ⟨_, _, hx7, hm7⟩⟩
  obtain ⟨S8, T8, e8, f8, c5, c6, H8⟩ := df
  have l8 := l7.tt c5 (by decide)
  -- the three cells
  have kA : FX [] [] [38] A S8 (sA (sA (sA S8 (A 38) (5 * R + 0) 0) (A 38) (5 * R + 1) v) (A 38) (5 * R + 2) v2) := (((FX.rf _ _ _ _ _).wA (by decide)).wA (by decide)).wA (by decide)
  have lA := kA.lay l8 (by decide) (by decide)
  have lA1 : LAY A (sA S8 (A 38) (5 * R + 0) 0) := ((FX.rf [] [] [38] A S8).wA (j := 38) (by decide)).lay l8 (by decide) (by decide)
  have lA2 : LAY A (sA (sA S8 (A 38) (5 * R + 0) 0) (A 38) (5 * R + 1) v) := ((FX.rf [] [] [38] A (sA S8 (A 38) (5 * R + 0) 0)).wA (j := 38) (by decide)).lay lA1 (by decide) (by decide)
  have H9 := ((H8.pst (R := R) (c := 0) (v := 0)).pst (R := R) (c := 1) (v := v)).pst (R := R) (c := 2) (v := v2)
  obtain ⟨v3, u3, Sa, Ta, d1, d2, d3, d4, Ha⟩ := h_num (n := n) (lo := 1) (hi := 99) (lo' := 1) (hi' := 99) H9 hn (fun _ => ⟨rfl, rfl, by decide⟩)
  have la := lA.tt d3 (by decide)
  have Hb := Ha.pst (R := R) (c := 3) (v := v3)
  have kB : FX [] [] [38] A Sa (sA Sa (A 38) (5 * R + 3) v3) := (FX.rf _ _ _ _ _).wA (by decide)
  have lB := kB.lay la (by decide) (by decide)
  obtain ⟨v4, u4, Sc, Tc, g1, g2, g3, g4, Hc⟩ := h_num (n := n) (lo := 0) (hi := 1) (lo' := 0) (hi' := 1) Hb hn (fun _ => ⟨rfl, rfl, by decide⟩)
  have lc := lB.tt g3 (by decide)
  have Hd := Hc.pst (R := R) (c := 4) (v := if v4 = 1 then 0 else 1)
  have kD : FX [] [] [38] A Sc (sA Sc (A 38) (5 * R + 4) (if v4 = 1 then 0 else 1)) := (FX.rf _ _ _ _ _).wA (by decide)
  have kx : FXx A S (sA Sc (A 38) (5 * R + 4) (if v4 = 1 then 0 else 1)) := ((((((b3.x.tr n3.x).tr c3.x).tr c5.x).tr (kA.mono (by decide) (by decide) (by decide))).tr d3.x).tr (kB.mono (by decide) (by decide) (by decide))).tr (g3.x.tr (kD.mono (by decide) (by decide) (by decide)))
  have tI : ∀ f, ¬ (1204 ≤ f ∧ f ≤ 1206) → ∀ a, pI Tc f a = pI T f a := fun f hf a => by rw [g4.2 _ _ hf, d4.2 _ _ hf, c6.2 _ _ hf, c4.2 _ _ hf, n4.2 _ _ hf, b4.2 _ _ hf, p2.2 _ _ hf]
  have tA : pA Tc = pA T := by rw [g4.1.2.2.2.2.2, d4.1.2.2.2.2.2, c6.1.2.2.2.2.2, c4.1.2.2.2.2.2, n4.1.2.2.2.2.2, b4.1.2.2.2.2.2, p2.1.2.2.2.2.2]
  have cell : ∀ i, pA (sA Sc (A 38) (5 * R + 4) (if v4 = 1 then 0 else 1)) (A 38) i = if i = 5 * R + 4 then (if v4 = 1 then 0 else 1) else if i = 5 * R + 3 then v3 else if i = 5 * R + 2 then v2 else if i = 5 * R + 1 then v else if i = 5 * R + 0 then 0 else pA S (A 38) i := by
    intro i
    rw [pA_sA, g3.1.2.2.2.2.2, pA_sA, d3.1.2.2.2.2.2, pA_sA, pA_sA, pA_sA, c5.1.2.2.2.2.2, c3.1.2.2.2.2.2, n3.1.2.2.2.2.2, b3.1.2.2.2.2.2]
    simp only [true_and]
  have r37' : pI (sA Sc (A 38) (5 * R + 4) (if v4 = 1 then 0 else 1)) 902 (A 37) = nI (R + 1) := by rw [pI_sA, g3.2 _ _ (by decide), pI_sA, d3.2 _ _ (by decide), pI_sA, pI_sA, pI_sA, c5.2 _ _ (by decide), c3.2 _ _ (by decide), n3.2 _ _ (by decide), b3.2 _ _ (by decide)]; exact r37
  obtain ⟨S', T', T1, a1, a2, a3, a4, a5, a6⟩ := j_fin (n := n) (A := A) (b := b) (z := z) (P := P) (W := W) (M := M) (o := o) (R := R) (x1 := 0) (x2 := u) (x3 := u2) (x4 := u3) (x5 := u4) (S0 := S) (T0 := T) hn Hd kx ((((p2.m.tr b4.m).tr n4.m).tr c4.m).tr (c6.m.tr (d4.m.tr g4.m))) lS lT hR (by omega) r37' (by rw [tI _ (by decide)]; exact t40) (by rw [tI _ (by decide)]; exact t07) (fun i hi => by rw [cell, if_neg (by omega), if_neg (by omega), if_neg (by omega), if_neg (by omega), if_neg (by omega)]) (fun i hi => by rw [tA]) (pq := q + 6) (by omega) (fun d y hy => by
    obtain ⟨⟨⟨a, c, rfl, rfl, rfl, rfl, h1, h2, h3⟩, k, rfl, rfl, i1, i2, i3⟩, k', rfl, rfl, i4, i5, i6⟩ := d
    have hk : k ≤ 99 := nIb i3 i2 rfl (by decide)
    have hk0 : 1 ≤ k := nIa i3 i1 rfl (by decide)
    have hk' : k' ≤ 1 := nIb i6 i5 rfl (by decide)
    refine Or.inl ⟨a, c, k, k', h1, h2, h3, hk0, hk, hk', ⟨?_, ?_, ?_, ?_, ?_⟩, hy⟩
    · rw [cell, if_neg (by omega), if_neg (by omega), if_neg (by omega), if_neg (by omega), if_pos rfl]; rfl
    · rw [cell, if_neg (by omega), if_neg (by omega), if_neg (by omega), if_pos rfl]
    · rw [cell, if_neg (by omega), if_neg (by omega), if_pos rfl]
    · rw [cell, if_neg (by omega), if_pos rfl]
    · rw [cell, if_pos rfl]
      have : k' = 0 ∨ k' = 1 := by omega
      rcases this with rfl | rfl <;> decide)
  refine ⟨_, S', T', ?_, a1, ?_, a4, a5, a6⟩
  · unfold clsB m_X6_readCarry
    rw [hw 15 (by decide), cb_mk, if_pos hj, if10, lS.r4_100, ob_mk, hN.2.1.1, b1, cb_mk, n1, cb_mk, l6.r4_100, ob_mk, cP6, c1, cb_mk, e8]
    unfold b_X6_readCarry_64 b_X6_readCarry_133
    rw [l8.r36_600, ob_mk, show m_X9_put n (A 37) (nI R) 0 0 S8 = some (sA S8 (A 38) (5 * R + 0) 0) from x_pst (c := 0) l8 hR (by decide), ob_mk, lA1.r36_600, ob_mk, show m_X9_put n (A 37) (nI R) 1 v (sA S8 (A 38) (5 * R + 0) 0) = some (sA (sA S8 (A 38) (5 * R + 0) 0) (A 38) (5 * R + 1) v) from x_pst (c := 1) lA1 hR (by decide), ob_mk, lA2.r36_600, ob_mk, show m_X9_put n (A 37) (nI R) 2 v2 (sA (sA S8 (A 38) (5 * R + 0) 0) (A 38) (5 * R + 1) v) = some (sA (sA (sA S8 (A 38) (5 * R + 0) 0) (A 38) (5 * R + 1) v) (A 38) (5 * R + 2) v2) from x_pst (c := 2) lA2 hR (by decide), ob_mk, lA.r36_600, ob_mk, d1, cb_mk, show m_X9_put n (A 37) (nI R) 3 v3 Sa = some (sA Sa (A 38) (5 * R + 3) v3) from x_pst (c := 3) la hR (by decide), ob_mk, lB.r36_600, ob_mk, g1, cb_mk, show m_X9_put n (A 37) (nI R) 4 0 Sc = some (sA Sc (A 38) (5 * R + 4) 0) from x_pst (c := 4) lc hR (by decide), show m_X9_put n (A 37) (nI R) 4 1 Sc = some (sA Sc (A 38) (5 * R + 4) 1) from x_pst (c := 4) lc hR (by decide), ob_mk, ob_mk]
    by_cases q1 : v4 = 1
    · rw [if_pos q1, if_pos q1, ob_mk]
    · rw [if_neg q1, if_neg q1, ob_mk]
  · unfold refB m_X12_readCarry
    rw [r_of (by decide) hn, cb_mk, if_pos rfl, p1, ob_mk, tP, b2, cb_mk, n2, cb_mk, tP6, c2, cb_mk, f8]
    unfold b_X12_readCarry_52
    rw [d2, cb_mk, g2, cb_mk, a2, ob_mk, ob_mk, r_289, a3, ob_mk]
end
