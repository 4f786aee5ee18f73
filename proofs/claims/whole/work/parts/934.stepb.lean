/-! work: steps as they are told, rows of both sides -/
def PL (x y : Nat → Int32) (P W M r : Nat) : Prop := (∃ a c k d, a < P ∧ c < P ∧ a ≠ c ∧ 1 ≤ k ∧ k ≤ 99 ∧ d ≤ 1 ∧ (x (5 * r + 0) = nI 0 ∧ x (5 * r + 1) = nI a ∧ x (5 * r + 2) = nI c ∧ x (5 * r + 3) = nI k ∧ x (5 * r + 4) = nI (1 - d)) ∧ (y (5 * r + 0) = nI 0 ∧ y (5 * r + 1) = nI a ∧ y (5 * r + 2) = nI c ∧ y (5 * r + 3) = nI k ∧ y (5 * r + 4) = nI d)) ∨ (∃ a, a < W ∧ (x (5 * r + 0) = nI 1 ∧ x (5 * r + 1) = nI a) ∧ (y (5 * r + 0) = nI 1 ∧ y (5 * r + 1) = nI a)) ∨ (∃ a k, a < P ∧ 1 ≤ k ∧ k ≤ 99 ∧ (x (5 * r + 0) = nI 2 ∧ x (5 * r + 1) = nI a ∧ x (5 * r + 2) = nI k) ∧ (y (5 * r + 0) = nI 2 ∧ y (5 * r + 1) = nI a ∧ y (5 * r + 2) = nI k)) ∨ (∃ a k, a < M ∧ 1 ≤ k ∧ k ≤ 9 ∧ (x (5 * r + 0) = nI 3 ∧ x (5 * r + 1) = nI a ∧ x (5 * r + 2) = nI k) ∧ (y (5 * r + 0) = nI 3 ∧ y (5 * r + 1) = nI a ∧ y (5 * r + 2) = nI k)) ∨ (x (5 * r + 0) = nI 4 ∧ y (5 * r + 0) = nI 4)
def AG (x y : Nat → Int32) (r t e : Nat) : Prop := (x (5 * r + 0) = nI 5 ∧ x (5 * r + 1) = nI t ∧ x (5 * r + 2) = nI e) ∧ (y (5 * r + 0) = nI 5 ∧ y (5 * r + 1) = nI t ∧ y (5 * r + 2) = nI (5 * e))
def BL (x y : Nat → Int32) (P W M : Nat) : Nat → Nat → Nat → Prop
  | 0, lo, hi => ∀ r, lo ≤ r → r < hi → PL x y P W M r
  | d + 1, lo, hi => ∀ r, lo ≤ r → r < hi → PL x y P W M r ∨ ∃ t e, t ≤ 20 ∧ r < e ∧ e ≤ hi ∧ AG x y r t e ∧ BL x y P W M d (r + 1) e
theorem PL.cg {x y x' y' : Nat → Int32} {P W M r : Nat} (h : PL x y P W M r) (hx : ∀ i, i < 5 → x' (5 * r + i) = x (5 * r + i)) (hy : ∀ i, i < 5 → y' (5 * r + i) = y (5 * r + i)) : PL x' y' P W M r := by
  unfold PL
  rw [hx 0 (by decide), hx 1 (by decide), hx 2 (by decide), hx 3 (by decide), hx 4 (by decide), hy 0 (by decide), hy 1 (by decide), hy 2 (by decide), hy 3 (by decide), hy 4 (by decide)]
  exact h
theorem AG.cg {x y x' y' : Nat → Int32} {r t e : Nat} (h : AG x y r t e) (hx : ∀ i, i < 5 → x' (5 * r + i) = x (5 * r + i)) (hy : ∀ i, i < 5 → y' (5 * r + i) = y (5 * r + i)) : AG x' y' r t e := by
  unfold AG
  rw [hx 0 (by decide), hx 1 (by decide), hx 2 (by decide), hy 0 (by decide), hy 1 (by decide), hy 2 (by decide)]
  exact h
theorem BL.cg {x y x' y' : Nat → Int32} {P W M : Nat} : ∀ (d lo hi : Nat), BL x y P W M d lo hi → (∀ i, 5 * lo ≤ i → i < 5 * hi → x' i = x i ∧ y' i = y i) → BL x' y' P W M d lo hi := by
  intro d
  induction d with
  | zero =>
    intro lo hi h e r h1 h2
    exact (h r h1 h2).cg (fun i hi => (e _ (by omega) (by omega)).1) (fun i hi => (e _ (by omega) (by omega)).2)
  | succ d ih =>
    intro lo hi h e r h1 h2
    rcases h r h1 h2 with q | ⟨t, f, q1, q2, q3, q4, q5⟩
    · exact Or.inl (q.cg (fun i hi => (e _ (by omega) (by omega)).1) (fun i hi => (e _ (by omega) (by omega)).2))
    · exact Or.inr ⟨t, f, q1, q2, q3, q4.cg (fun i hi => (e _ (by omega) (by omega)).1) (fun i hi => (e _ (by omega) (by omega)).2), ih _ _ q5 (fun i h3 h4 => e i (by omega) (by omega))⟩
theorem BL.nil {x y : Nat → Int32} {P W M : Nat} (d lo : Nat) : BL x y P W M d lo lo := by
  cases d with
  | zero => intro r h1 h2; omega
  | succ d => intro r h1 h2; omega
theorem BL.cat {x y : Nat → Int32} {P W M d lo mid hi : Nat} (h : BL x y P W M d lo mid) (k : BL x y P W M d mid hi) (hm : mid ≤ hi) : BL x y P W M d lo hi := by
  cases d with
  | zero =>
    intro r h1 h2
    by_cases c : r < mid
    · exact h r h1 c
    · exact k r (by omega) h2
  | succ d =>
    intro r h1 h2
    by_cases c : r < mid
    · rcases h r h1 c with q | ⟨t, f, q1, q2, q3, q4, q5⟩
      · exact Or.inl q
      · exact Or.inr ⟨t, f, q1, q2, by omega, q4, q5⟩
    · exact k r (by omega) h2
theorem BL.one {x y : Nat → Int32} {P W M d r : Nat} (h : PL x y P W M r) : BL x y P W M d r (r + 1) := by
  cases d with
  | zero => intro r' h1 h2; rw [show r' = r by omega]; exact h
  | succ d => intro r' h1 h2; rw [show r' = r by omega]; exact Or.inl h
theorem BL.up {x y : Nat → Int32} {P W M : Nat} : ∀ (d lo hi : Nat), BL x y P W M d lo hi → BL x y P W M (d + 1) lo hi := by
  intro d
  induction d with
  | zero => intro lo hi h r h1 h2; exact Or.inl (h r h1 h2)
  | succ d ih =>
    intro lo hi h r h1 h2
    rcases h r h1 h2 with q | ⟨t, f, q1, q2, q3, q4, q5⟩
    · exact Or.inl q
    · exact Or.inr ⟨t, f, q1, q2, q3, q4, ih _ _ q5⟩
theorem BL.ag {x y : Nat → Int32} {P W M d r t e : Nat} (ht : t ≤ 20) (hr : r < e) (ha : AG x y r t e) (h : BL x y P W M d (r + 1) e) : BL x y P W M (d + 1) r e := by
  intro r' h1 h2
  by_cases c : r' = r
  · subst c
    exact Or.inr ⟨t, e, ht, hr, Nat.le_refl _, ha, h⟩
  · exact BL.up d _ _ h r' (by omega) h2
theorem r_dv20 : ∀ i, i < 20 → ∀ j, j < 20 → i ≠ j → ¬ nI (ofV i) = nI (ofV j) := by decide +kernel
section
variable {A b : Nat → Nat} {z n : Nat} {S T : pq_S}
/-- fine on both sides, with D; or at fault on both -/
def HH (A b : Nat → Nat) (z : Nat) (S T : pq_S) (p0 : Nat) (D : Prop) : Prop := LAY A S ∧ LAY A T ∧ ((∃ p, p0 ≤ p ∧ XF A b z S p ∧ MF A b z T p ∧ D) ∨ EE A b z S T)
theorem h_num {p0 : Nat} {D : Prop} {lo hi lo' hi' : Int32} (H : HH A b z S T p0 D) (hn : 20000 ≤ n) (hD : D → lo = lo' ∧ hi = hi' ∧ hi ≤ 9999) : ∃ v u S' T', m_X10_takeNumber n (A 1) lo hi S = some (v, S') ∧ m_X12_readNumber n (A 60) lo' hi' T = some (u, T') ∧ TT 1003 1006 S S' ∧ TT 1204 1206 T T' ∧ HH A b z S' T' (p0 + 1) (D ∧ ∃ k, v = nI k ∧ u = nI k ∧ lo ≤ nI k ∧ nI k ≤ hi ∧ k ≤ 9999) := by
  obtain ⟨lS, lT, ⟨p, hp, hx, hm, d⟩ | ⟨kk, qq, hx, hm⟩⟩ := H
  · obtain ⟨e1, e2, e3⟩ := hD d
    subst e1
    subst e2
    obtain ⟨v, u, S1, T1, y1, y2, y3, y4, y5⟩ := j_num (n := n) (lo := lo) (hi := hi) hx hm e3 hn
    refine ⟨v, u, S1, T1, y1, y2, y3, y4, lS.tt y3 (by decide), lT.tt y4 (by decide), ?_⟩
    rcases y5 with ⟨k, e, i1, i2, i3, i4, i5, i6, x1, m1⟩ | er
    · exact Or.inl ⟨e, by omega, x1, m1, d, k, i1, i2, i4, i5, i3⟩
    · exact Or.inr er
  · obtain ⟨S1, y1, y2, y3⟩ := x_numE (n := n) hx lo hi hn
    exact ⟨0, 0, S1, T, y1, r_numE hm lo' hi', y2, TT.rf _ _ _, lS.tt y2 (by decide), lT, Or.inr ⟨kk, qq, y3, hm⟩⟩
theorem h_sign {p0 c : Nat} {D : Prop} (H : HH A b z S T p0 D) (hn : 20000 ≤ n) (hc : 1 ≤ c ∧ c ≤ 255) : ∃ S' T', m_X10_takeSign n (A 1) (nI c) S = some S' ∧ m_X12_sign n (A 60) (nI c) T = some T' ∧ TT 1003 1006 S S' ∧ TT 1204 1206 T T' ∧ HH A b z S' T' (p0 + 1) D := by
  obtain ⟨lS, lT, ⟨p, hp, hx, hm, d⟩ | ⟨kk, qq, hx, hm⟩⟩ := H
  · obtain ⟨S1, T1, y1, y2, y3, y4, y5⟩ := j_sign (n := n) (c := c) hx hm hc hn
    refine ⟨S1, T1, y1, y2, y3, y4, lS.tt y3 (by decide), lT.tt y4 (by decide), ?_⟩
    rcases y5 with ⟨_, _, x1, m1⟩ | er
    · have := sk_ge b z p
      exact Or.inl ⟨_, by omega, x1, m1, d⟩
    · exact Or.inr er
  · obtain ⟨S1, y1, y2, y3⟩ := x_signE (n := n) (c := c) hx hc.2 hn
    exact ⟨S1, T, y1, r_signE hm _, y2, TT.rf _ _ _, lS.tt y2 (by decide), lT, Or.inr ⟨kk, qq, y3, hm⟩⟩
theorem HH.fS {F : List Nat} {P : List (Nat × Nat)} {AA : List Nat} {U : pq_S} {p0 : Nat} {D : Prop} (H : HH A b z S T p0 D) (k : FX F P AA A S U) (h1 : 1002 ∉ F ∧ 1003 ∉ F ∧ 1005 ∉ F ∧ 1006 ∉ F ∧ 901 ∉ F) (h2 : ∀ e ∈ P, e.1 ≠ 1002 ∧ e.1 ≠ 1003 ∧ e.1 ≠ 1005 ∧ e.1 ≠ 1006 ∧ e.1 ≠ 901) (h3 : ∀ j ∈ AA, j < 92 ∧ 2 ≠ j) : HH A b z U T p0 D := by
  obtain ⟨lS, lT, ⟨p, hp, hx, hm, d⟩ | ⟨kk, qq, hx, hm⟩⟩ := H
  · exact ⟨k.lay lS h1.2.2.2.2 (fun e he => (h2 e he).2.2.2.2), lT, Or.inl ⟨p, hp, hx.fx k lS ⟨h1.1, h1.2.1, h1.2.2.1⟩ (fun e he => ⟨(h2 e he).1, (h2 e he).2.1, (h2 e he).2.2.1⟩) h3, hm, d⟩⟩
  · exact ⟨k.lay lS h1.2.2.2.2 (fun e he => (h2 e he).2.2.2.2), lT, Or.inr ⟨kk, qq, hx.fx k lS ⟨h1.1, h1.2.1, h1.2.2.1, h1.2.2.2.1⟩ (fun e he => ⟨(h2 e he).1, (h2 e he).2.1, (h2 e he).2.2.1, (h2 e he).2.2.2.1⟩) h3, hm⟩⟩
/-- a step's cell of the class -/
theorem x_pst {R c : Nat} {v : Int32} (lS : LAY A S) (hR : R < 25) (hc : c < 5) : m_X9_put n (A 37) (nI R) (nI c) v S = some (sA S (A 38) (5 * R + c) v) := x_putN lS.r37_900 lS.n38 lS.w37 (by omega) (by decide)
theorem HH.pst {R c p0 : Nat} {v : Int32} {D : Prop} (H : HH A b z S T p0 D) : HH A b z (sA S (A 38) (5 * R + c) v) T p0 D := H.fS (F := []) (P := []) (AA := [38]) ((FX.rf _ _ _ _ _).wA (by decide)) (by decide) (by decide) (by decide)
/-- the reference tells a step -/
theorem r_tell {R p : Nat} {x1 x2 x3 x4 x5 : Int32} (hm : MF A b z T p) (lT : LAY A T) (e : pI T 1240 (A 60) = nI (5 * R)) (hR : R < 25) : ∃ T', m_X12_tellsStep n (A 60) x1 x2 x3 x4 x5 T = some T' ∧ FX [1240] [] [78] A T T' ∧ pI T' 1240 (A 60) = nI (5 * (R + 1)) ∧ (pA T' (A 78) (5 * R + 0) = x1 ∧ pA T' (A 78) (5 * R + 1) = x2 ∧ pA T' (A 78) (5 * R + 2) = x3 ∧ pA T' (A 78) (5 * R + 3) = x4 ∧ pA T' (A 78) (5 * R + 4) = x5) ∧ ∀ i, i < 5 * R → pA T' (A 78) i = pA T (A 78) i := by
  refine ⟨sI (sA (sA (sA (sA (sA T (A 78) (5 * R) x1) (A 78) (5 * R + 1) x2) (A 78) (5 * R + 2) x3) (A 78) (5 * R + 3) x4) (A 78) (5 * R + 4) x5) 1240 (A 60) (nI (5 * R + 5)), ?_, (((((((FX.rf _ _ _ _ _).wA (by decide)).wA (by decide)).wA (by decide)).wA (by decide)).wA (by decide)).wI (by decide)), by rw [pI_e, show 5 * (R + 1) = 5 * R + 5 by omega], ⟨?_, ?_, ?_, ?_, ?_⟩, fun i hi => ?_⟩
  · unfold m_X12_tellsStep
    rw [r_fine hm, cb_mk, if10, lT.r60_1238, ob_mk, lT.n78, e, ck_pos (ix_nI (by omega) (by decide)), nI_clamp (by omega), pR_sA, lT.r60_1238, ob_mk, pI_sA, e, nI_1, pN_sA, lT.n78, ck_pos (ix_nI (by omega) (by decide)), lt_mk, nI_clamp (by omega), pR_sA, pR_sA, lT.r60_1238, ob_mk, pI_sA, pI_sA, e, show nI (5 * R) + (2 : Int32) = nI (5 * R + 2) from nI_add _ _, pN_sA, pN_sA, lT.n78, ck_pos (ix_nI (by omega) (by decide)), lt_mk, nI_clamp (by omega), pR_sA, pR_sA, pR_sA, lT.r60_1238, ob_mk, pI_sA, pI_sA, pI_sA, e, show nI (5 * R) + (3 : Int32) = nI (5 * R + 3) from nI_add _ _, pN_sA, pN_sA, pN_sA, lT.n78, ck_pos (ix_nI (by omega) (by decide)), lt_mk, nI_clamp (by omega), pR_sA, pR_sA, pR_sA, pR_sA, lT.r60_1238, ob_mk, pI_sA, pI_sA, pI_sA, pI_sA, e, show nI (5 * R) + (4 : Int32) = nI (5 * R + 4) from nI_add _ _, pN_sA, pN_sA, pN_sA, pN_sA, lT.n78, ck_pos (ix_nI (by omega) (by decide)), lt_mk, nI_clamp (by omega), pI_sA, pI_sA, pI_sA, pI_sA, pI_sA, e, show nI (5 * R) + (5 : Int32) = nI (5 * R + 5) from nI_add _ _]
  · rw [pA_sI, pA_sA, if_neg (fun q => by omega), pA_sA, if_neg (fun q => by omega), pA_sA, if_neg (fun q => by omega), pA_sA, if_neg (fun q => by omega), pA_sA, if_pos ⟨rfl, by omega⟩]
  · rw [pA_sI, pA_sA, if_neg (fun q => by omega), pA_sA, if_neg (fun q => by omega), pA_sA, if_neg (fun q => by omega), pA_sA, if_pos ⟨rfl, rfl⟩]
  · rw [pA_sI, pA_sA, if_neg (fun q => by omega), pA_sA, if_neg (fun q => by omega), pA_sA, if_pos ⟨rfl, rfl⟩]
  · rw [pA_sI, pA_sA, if_neg (fun q => by omega), pA_sA, if_pos ⟨rfl, rfl⟩]
  · rw [pA_sI, pA_sA, if_pos ⟨rfl, rfl⟩]
  · rw [pA_sI, pA_sA, if_neg (fun q => by omega), pA_sA, if_neg (fun q => by omega), pA_sA, if_neg (fun q => by omega), pA_sA, if_neg (fun q => by omega), pA_sA, if_neg (fun q => by omega)]
theorem r_tellE {k q : Nat} {x1 x2 x3 x4 x5 : Int32} (h : ME A b z T k q) : m_X12_tellsStep n (A 60) x1 x2 x3 x4 x5 T = some T := by
  unfold m_X12_tellsStep
  rw [r_fineE h, cb_mk, if00]
/-- counts that both sides know -/
def CN (A : Nat → Nat) (P W M : Nat) (S T : pq_S) : Prop := (P ≤ 6 ∧ W ≤ 12 ∧ M ≤ 3) ∧ (pI S 902 (A 5) = nI P ∧ pI S 902 (A 7) = nI W ∧ pI S 902 (A 9) = nI M) ∧ (pI T 1224 (A 60) = nI P ∧ pI T 1225 (A 60) = nI W ∧ pI T 1226 (A 60) = nI M)
/-- what a step, or a row of steps, comes to -/
def PO (A b : Nat → Nat) (z P W M o : Nat) (S T S' T' : pq_S) (p R : Nat) : Prop := (∃ p' R', p ≤ p' ∧ XF A b z S' p' ∧ MF A b z T' p' ∧ 6 * R' ≤ p' ∧ R ≤ R' ∧ pI S' 902 (A 37) = nI R' ∧ pI T' 1240 (A 60) = nI (5 * R') ∧ pI T' 1207 (A 60) = nI o ∧ (∀ i, i < 5 * R → pA S' (A 38) i = pA S (A 38) i ∧ pA T' (A 78) i = pA T (A 78) i) ∧ BL (pA S' (A 38)) (pA T' (A 78)) P W M (6 - o) R R') ∨ EE A b z S' T'
theorem CN.fx {P W M : Nat} {S' T' : pq_S} (h : CN A P W M S T) (lS : LAY A S) (lT : LAY A T) (k1 : FXx A S S') (k2 : FXm A T T') : CN A P W M S' T' := by
  refine ⟨h.1, ⟨?_, ?_, ?_⟩, ?_, ?_, ?_⟩
  · rw [k1.I lS (by decide) (by decide) (by decide)]; exact h.2.1.1
  · rw [k1.I lS (by decide) (by decide) (by decide)]; exact h.2.1.2.1
  · rw [k1.I lS (by decide) (by decide) (by decide)]; exact h.2.1.2.2
  · rw [k2.I lT (by decide) (by decide) (by decide)]; exact h.2.2.1
  · rw [k2.I lT (by decide) (by decide) (by decide)]; exact h.2.2.2.1
  · rw [k2.I lT (by decide) (by decide) (by decide)]; exact h.2.2.2.2
theorem wm1_le {W : Nat} (h : W ≤ 12) : (nI W - 1 : Int32) ≤ 9999 := by
  have : ∀ P, P < 13 → (nI P - 1 : Int32) ≤ 9999 := by decide
  exact this W (by omega)
/-- a step's end: its row told, its sign -/
theorem j_fin {P W M o p0 R : Nat} {D : Prop} {x1 x2 x3 x4 x5 : Int32} {S0 T0 : pq_S} (hn : 20000 ≤ n) (H : HH A b z S T p0 D) (kS : FXx A S0 S) (kT : FXm A T0 T) (lS0 : LAY A S0) (lT0 : LAY A T0) (hR : R < 25) (hp : 6 * (R + 1) ≤ p0 + 1) (r37 : pI S 902 (A 37) = nI (R + 1)) (t40 : pI T 1240 (A 60) = nI (5 * R)) (t07 : pI T 1207 (A 60) = nI o) (cS : ∀ i, i < 5 * R → pA S (A 38) i = pA S0 (A 38) i) (cT : ∀ i, i < 5 * R → pA T (A 78) i = pA T0 (A 78) i) {pq : Nat} (hpq : pq ≤ p0 + 1) (hD : D → ∀ y : Nat → Int32, (y (5 * R + 0) = x1 ∧ y (5 * R + 1) = x2 ∧ y (5 * R + 2) = x3 ∧ y (5 * R + 3) = x4 ∧ y (5 * R + 4) = x5) → PL (pA S (A 38)) y P W M R) : ∃ S' T' T1, m_X10_takeSign n (A 1) 59 S = some S' ∧ m_X12_tellsStep n (A 60) x1 x2 x3 x4 x5 T = some T1 ∧ m_X12_sign n (A 60) 59 T1 = some T' ∧ FXx A S0 S' ∧ FXm A T0 T' ∧ PO A b z P W M o S0 T0 S' T' pq R := by
  obtain ⟨lS, lT, ⟨p, hp0, hx, hm, d⟩ | ⟨kk, qq, hx, hm⟩⟩ := H
  · obtain ⟨T1, a1, a2, a3, a4, a5⟩ := r_tell (n := n) (x1 := x1) (x2 := x2) (x3 := x3) (x4 := x4) (x5 := x5) hm lT t40 hR
    have lT1 := a2.lay lT (by decide) (by decide)
    have m1 : MF A b z T1 p := hm.fx a2 lT (by decide) (by decide) (by decide)
    obtain ⟨S', T', y1, y2, y3, y4, y5⟩ := j_sign (n := n) (c := 59) hx m1 (by decide) hn
    refine ⟨S', T', T1, y1, a1, y2, kS.tr y3.x, (kT.tr (a2.mono (by decide) (by decide) (by decide))).tr y4.m, ?_⟩
    rcases y5 with ⟨w1, w2, x2', m2⟩ | er
    · have := sk_ge b z p
      refine Or.inl ⟨_, R + 1, by omega, x2', m2, by omega, by omega, by rw [y3.2 _ _ (by decide)]; exact r37, by rw [y4.2 _ _ (by decide)]; exact a3, by rw [y4.2 _ _ (by decide), a2.I lT (by decide) (by decide) (by decide)]; exact t07, fun i hi => ⟨by rw [y3.1.2.2.2.2.2]; exact cS i hi, by rw [y4.1.2.2.2.2.2, a5 i hi]; exact cT i hi⟩, ?_⟩
      rw [y3.1.2.2.2.2.2, y4.1.2.2.2.2.2]
      exact BL.one (hD d _ a4)
    · exact Or.inr er
  · obtain ⟨S', y1, y2, y3⟩ := x_signE (n := n) (c := 59) hx (by decide) hn
    exact ⟨S', T, T, y1, r_tellE hm, r_signE hm _, kS.tr y2.x, kT, Or.inr ⟨kk, qq, y3, hm⟩⟩
end
