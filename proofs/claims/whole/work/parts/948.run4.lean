section
variable {A : Nat → Nat} {n : Nat} {S T : pq_S} {g : GH} {st : Nat → Int32}
theorem mpF_lo {j p : Nat} (h : p < 6) : mpF g st j p = if p < j then nI (goF g p (nS st p)) else st p := by unfold mpF; rw [if_pos h]
theorem mpF_mi {j p : Nat} (h : p < 6) : mpF g st j (6 + p) = if p < j then nI (nS st (6 + p) - lkF g (nS st (6 + p))) else st (6 + p) := by unfold mpF; rw [if_neg (by omega), if_pos (by omega), show 6 + p - 6 = p by omega]
theorem mpF_hi {j p : Nat} (h : p < 6) : mpF g st j (12 + p) = if p < j then st (12 + p) + (nI (lkF g (nS st p)) + nI (lkF g (nS st (6 + p)))) else st (12 + p) := by unfold mpF; rw [if_neg (by omega), if_neg (by omega), if_pos (by omega), show 12 + p - 12 = p by omega, show 12 + p - 6 = 6 + p by omega]
theorem x_pmL (hL : LAY A S) (hg : GB g) (hs : SB g st) (hc : CX g S A) (h14 : pI S 902 (A 14) = nI (gP g)) : ∀ (m j f : Nat) (u : Nat → Int32), j + m = gP g → m < f → hpF g st j u → ∃ u', b_X7_passMonth_2 n f (A 3) (nI j) (sF S (A 15) u) = b_X7_passMonth_34 n (A 3) (sF S (A 15) u') ∧ hpF g st (gP g) u' := by
  have hb := hg.b
  intro m
  induction m with
  | zero =>
    intro j f u h1 h2 h3
    obtain ⟨f, rfl⟩ : ∃ g, f = g + 1 := ⟨f - 1, by omega⟩
    rw [b_X7_passMonth_2, pR_sF, hL.r3_701, ob_mk, hL.r13_800, ob_mk, pI_sF, h14, if_pos (nI_le (by omega) (by omega))]
    exact ⟨u, rfl, by rw [show gP g = j by omega]; exact h3⟩
  | succ m ih =>
    intro j f u h1 h2 h3
    obtain ⟨f, rfl⟩ : ∃ g, f = g + 1 := ⟨f - 1, by omega⟩
    have hj : j < gP g := by omega
    obtain ⟨e0, e09⟩ := hs.h0 hj
    obtain ⟨e1, e19⟩ := hs.h1 hj
    obtain ⟨q0, q1, q2⟩ := h3 j hj
    rw [mpF_lo (by omega), if_neg (by omega), e0] at q0
    rw [mpF_mi (by omega), if_neg (by omega), e1] at q1
    rw [mpF_hi (by omega), if_neg (by omega)] at q2
    have p1 := x_pmF (n := n) (T := S) (u := u) hL hg hc hj (k := 0) (by decide) e09 q0
    rw [q2, if_pos rfl] at p1
    have p2 := x_pmF (n := n) (T := S) (u := upd (upd u (3 * j + 2) (st (12 + j) + nI (lkF g (nS st j)))) (3 * j + 0) (nI (goF g j (nS st j)))) hL hg hc hj (k := 1) (by decide) e19 (by rw [upd_ne (by omega), upd_ne (by omega)]; exact q1)
    rw [if_neg (by decide), show upd (upd u (3 * j + 2) (st (12 + j) + nI (lkF g (nS st j)))) (3 * j + 0) (nI (goF g j (nS st j))) (3 * j + 2) = st (12 + j) + nI (lkF g (nS st j)) from by rw [upd_ne (by omega), upd_eq]] at p2
    rw [b_X7_passMonth_2, pR_sF, hL.r3_701, ob_mk, hL.r13_800, ob_mk, pI_sF, h14, if_neg (nI_ge hj (by omega)), show m_X7_passMonthFor n (A 3) (nI j) 0 (sF S (A 15) u) = _ from p1, ob_mk, show m_X7_passMonthFor n (A 3) (nI j) 1 (sF S (A 15) _) = _ from p2, ob_mk, show nI j + 1 = nI (j + 1) from nI_1 j]
    refine ih (j + 1) f _ (by omega) (by omega) (fun p hp => ?_)
    obtain ⟨a0, a1, a2⟩ := h3 p hp
    rw [mpF_lo (by omega)] at a0 ⊢
    rw [mpF_mi (by omega)] at a1 ⊢
    rw [mpF_hi (by omega)] at a2 ⊢
    by_cases e : p = j
    · subst e
      rw [if_pos (by omega), if_pos (by omega), if_pos (by omega)]
      refine ⟨?_, ?_, ?_⟩
      · rw [upd_ne (by omega), upd_ne (by omega), show 3 * p = 3 * p + 0 by omega, upd_eq]
      · rw [upd_eq]
      · rw [upd_ne (by omega), upd_eq, Int32.add_assoc]
    · rw [upd_ne (by omega), upd_ne (by omega), upd_ne (by omega), upd_ne (by omega), upd_ne (by omega), upd_ne (by omega), upd_ne (by omega), upd_ne (by omega), upd_ne (by omega), upd_ne (by omega), upd_ne (by omega), upd_ne (by omega)]
      by_cases c : p < j
      · rw [if_pos c] at a0 a1 a2
        rw [if_pos (by omega), if_pos (by omega), if_pos (by omega)]
        exact ⟨a0, a1, a2⟩
      · rw [if_neg c] at a0 a1 a2
        rw [if_neg (by omega), if_neg (by omega), if_neg (by omega)]
        exact ⟨a0, a1, a2⟩
theorem d_month (hn : 20000 ≤ n) (hx : XV g A S st) (hr : RV g A T st) : DO A g S T (Option.bind (m_X7_passMonth n (A 3) S) fun S_50 => some (1, S_50)) (Option.bind (m_X12_month n (A 60) T) fun S_23 => some (1, S_23)) := by
  have hg := hx.2.1
  have hb := hg.b
  have hs := hx.2.2.1
  obtain ⟨lS, _, _, cx, sx⟩ := hx
  obtain ⟨u, r1, r2⟩ := r_mon (n := n) hr (by omega)
  obtain ⟨v, x1, x2⟩ := x_pmL (n := n) lS hg hs cx sx.1.1 (gP g) 0 n (pA S (A 15)) (by omega) (by omega) (fun p hp => by
    rw [mpF_lo (by omega), mpF_mi (by omega), mpF_hi (by omega), if_neg (by omega), if_neg (by omega), if_neg (by omega)]
    exact sx.2.1 p hp)
  rw [sF_self, nI_0] at x1
  have k1 : FX [] [] [15] A S (sF S (A 15) v) := (FX.rf _ _ _ _ _).wF (by decide)
  have l1 := k1.lay lS (by decide) (by decide)
  obtain ⟨S2, y1, y2, y3, y4⟩ := x_ow (n := n) (A := A) (g := g) hb.2.1 (gW g) 0 n (sF S (A 15) v) (by omega) (by omega) l1 (by rw [pI_sF]; exact sx.1.2.1)
  rw [nI_0] at y1
  have l2 := y2.lay l1 (by decide) (by decide)
  have i48 : pI S2 803 (A 13) = st 48 := by rw [y2.I l1 (by simp) (by decide) (by simp), pI_sF]; exact sx.1.2.2.2.1
  have run : m_X7_passMonth n (A 3) S = some (sI S2 803 (A 13) (st 48 + nI 1)) := by
    unfold m_X7_passMonth
    rw [x1, b_X7_passMonth_34, l1.r3_701, ob_mk, m_X8_openWants, y1, ob_mk, l2.r3_701, ob_mk, i48]
    rfl
  have mono : ∀ i, i ≠ 48 → ¬ (18 ≤ i ∧ i < 30 ∧ i - 18 < gW g) → monF g st i = mpF g st (gP g) i := fun i h1 h2 => by
    unfold monF mqF
    rw [if_neg h1, if_neg h2]
  have mp18 : ∀ i, 18 ≤ i → mpF g st (gP g) i = st i := fun i h => by
    unfold mpF
    rw [if_neg (by omega), if_neg (by omega), if_neg (by omega)]
  refine ⟨1, sI S2 803 (A 13) (st 48 + nI 1), _, monF g st, by rw [run, ob_mk], by rw [r1, ob_mk], ?_, r2, ?_, (FX.rf _ _ _ _ _).wF (by decide), Or.inr rfl⟩
  · have kk : FX [] [] [15, 17] A S S2 := (k1.mono (by simp) (by simp) (by simp)).tr (y2.mono (by simp) (by simp) (by simp))
    refine ⟨l2.eqv rfl rfl rfl rfl (fun a => pI_n (by decide)), hg, hs.mon hg, cx.cg (fun e he => ?_) (fun c hc i => ?_), ⟨⟨?_, ?_, ?_, ?_, ?_⟩, fun p hp => ?_, fun i hi => ⟨?_, ?_⟩, fun m hm => ⟨?_, ?_⟩⟩⟩
    · have : e.1 ≠ 803 ∧ e.2 < 92 := by revert e; decide
      rw [pI_n this.1, kk.I lS (by simp) this.2 (by simp)]
    · have : c < 92 ∧ ∀ j ∈ [15, 17], j < 92 ∧ c ≠ j := by revert c; decide
      rw [pA_sI, kk.W lS this.1 this.2 i]
    · rw [pI_n (by decide), kk.I lS (by simp) (by decide) (by simp)]; exact sx.1.1
    · rw [pI_n (by decide), kk.I lS (by simp) (by decide) (by simp)]; exact sx.1.2.1
    · rw [pI_n (by decide), kk.I lS (by simp) (by decide) (by simp)]; exact sx.1.2.2.1
    · rw [pI_e]; unfold monF; rw [if_pos rfl]
    · rw [pI_n (by decide), kk.I lS (by simp) (by decide) (by simp), mono 49 (by decide) (by omega), mp18 49 (by decide)]; exact sx.1.2.2.2.2
    · have e : ∀ i, pA (sI S2 803 (A 13) (st 48 + nI 1)) (A 15) i = v i := fun i => by rw [pA_sI, y2.W l1 (by decide) (by decide), pA_sF, if_pos rfl]
      obtain ⟨a0, a1, a2⟩ := x2 p hp
      rw [e, e, e, mono p (by omega) (by omega), mono (6 + p) (by omega) (by omega), mono (12 + p) (by omega) (by omega)]
      exact ⟨a0, a1, a2⟩
    · rw [pA_sI, y3 i (by omega) hi]
      unfold monF mqF
      rw [if_neg (by omega), if_pos (by omega)]; rfl
    · rw [pA_sI, y4 (2 * i + 1) (by omega), k1.W lS (by decide) (by decide), mono (30 + i) (by omega) (by omega), mp18 _ (by omega)]; exact (sx.2.2.1 i hi).2
    · rw [pA_sI, kk.W lS (by decide) (by decide), mono (42 + m) (by omega) (by omega), mp18 _ (by omega)]; exact (sx.2.2.2 m hm).1
    · rw [pA_sI, kk.W lS (by decide) (by decide), mono (45 + m) (by omega) (by omega), mp18 _ (by omega)]; exact (sx.2.2.2 m hm).2
  · exact ((k1.mono (F2 := rxF) (P2 := rxP) (A2 := rxA) (by simp) (by simp) (by decide)).tr (y2.mono (by simp) (by simp) (by decide))).wP (by decide)
/-- a plain step, on both sides -/
theorem d_step {r : Nat} {x y : Nat → Int32} (hn : 20000 ≤ n) (hx : XV g A S st) (hr : RV g A T st) (hlS : LW g S A) (hlT : LW g T A) (hR : r < 25) (ex : ∀ i, i < 5 → pA S (A 38) (5 * r + i) = x (5 * r + i)) (ey : ∀ i, i < 5 → pA T (A 79) (5 * r + i) = y (5 * r + i)) (hp : PL x y (gP g) (gW g) (gM g) r) : DO A g S T (m_X6_doStep n (A 36) (A 3) (nI r) S) (m_X12_goes n (A 60) (nI (5 * r)) T) := by
  have lS := hx.1
  have lT := hr.1
  have at_ : ∀ c, c < 5 → m_X9_at n (A 37) (nI r) (nI c) S = some (x (5 * r + c), S) := fun c hc => by
    rw [x_atN (w := 5) lS.r37_900 lS.n38 lS.w37 (by omega) (by decide), ex c hc]
  have a0 : m_X9_at n (A 37) (nI r) 0 S = some (x (5 * r + 0), S) := at_ 0 (by decide)
  have a1 : m_X9_at n (A 37) (nI r) 1 S = some (x (5 * r + 1), S) := at_ 1 (by decide)
  have a2 : m_X9_at n (A 37) (nI r) 2 S = some (x (5 * r + 2), S) := at_ 2 (by decide)
  have a3 : m_X9_at n (A 37) (nI r) 3 S = some (x (5 * r + 3), S) := at_ 3 (by decide)
  have a4 : m_X9_at n (A 37) (nI r) 4 S = some (x (5 * r + 4), S) := at_ 4 (by decide)
  have rf : m_X12_goes n (A 60) (nI (5 * r)) T = if y (5 * r + 0) = 0 then cb (m_X12_carries n (A 60) (y (5 * r + 1)) (y (5 * r + 2)) (y (5 * r + 3)) (y (5 * r + 4)) T) (fun r42 S_40 => some (r42, S_40)) else if y (5 * r + 0) = 1 then cb (m_X12_sells n (A 60) (y (5 * r + 1)) T) (fun r33 S_31 => some (r33, S_31)) else if y (5 * r + 0) = 3 then cb (m_X12_digsNow n (A 60) (y (5 * r + 2)) (y (5 * r + 1)) T) (fun r28 S_26 => some (r28, S_26)) else if y (5 * r + 0) = 4 then Option.bind (m_X12_month n (A 60) T) (fun S_23 => some (1, S_23)) else Option.bind (pR T 1247 (A 60)) fun q13 => ck (ix ((0 : Int32) + y (5 * r + 1)) (pN T q13)) (dix _ _) (if y (5 * r + 2) ≤ (pA T q13 (Int32.toNatClampNeg ((0 : Int32) + y (5 * r + 1)))) then Option.bind (pR T 1247 (A 60)) fun q16 => ck (ix ((0 : Int32) + y (5 * r + 1)) (pN T q16)) (dix _ _) (ck (ix ((0 : Int32) + y (5 * r + 1)) (pN T q16)) (dix _ _) (lt_ (sA T q16 (Int32.toNatClampNeg ((0 : Int32) + y (5 * r + 1))) ((pA T q16 (Int32.toNatClampNeg ((0 : Int32) + y (5 * r + 1)))) - y (5 * r + 2))) fun S_19 => Option.bind (m_X12_adds n (A 60) ((6 : Int32) + y (5 * r + 1)) ((2 : Int32) * y (5 * r + 2)) S_19) fun S_20 => some (1, S_20))) else some (0, T)) := by
    unfold m_X12_goes
    rw [lT.r60_1239, ob_mk, lT.n79, ck_pos (ix_nI (by omega) (by decide)), ob_mk, lT.n79, show nI (5 * r) + (1 : Int32) = nI (5 * r + 1) from nI_add _ _, ck_pos (ix_nI (by omega) (by decide)), lt_mk, ob_mk, lT.n79, show nI (5 * r) + (2 : Int32) = nI (5 * r + 2) from nI_add _ _, ck_pos (ix_nI (by omega) (by decide)), lt_mk, nI_clamp (by omega), nI_clamp (by omega), nI_clamp (by omega), ob_mk, lT.n79, show nI (5 * r) + (3 : Int32) = nI (5 * r + 3) from nI_add _ _, ck_pos (ix_nI (by omega) (by decide)), ob_mk, lT.n79, show nI (5 * r) + (4 : Int32) = nI (5 * r + 4) from nI_add _ _, ck_pos (ix_nI (by omega) (by decide)), nI_clamp (by omega), nI_clamp (by omega), show pA T (A 79) (5 * r) = y (5 * r + 0) from ey 0 (by decide), ey 1 (by decide), ey 2 (by decide), ey 3 (by decide), ey 4 (by decide)]
  have dd : ∀ (o1 o2 : Option (Int32 × pq_S)), DO A g S T o1 o2 → DO A g S T (cb o1 fun r S_ => some (r, S_)) (cb o2 fun r S_ => some (r, S_)) := by
    rintro o1 o2 ⟨r, S', T', st', rfl, rfl, q⟩
    exact ⟨r, S', T', st', rfl, rfl, q⟩
  unfold m_X6_doStep
  rw [rf, lS.r36_600, ob_mk, a1, cb_mk, lS.r36_600, ob_mk, a2, cb_mk, lS.r36_600, ob_mk, a0, cb_mk, lS.r36_600, ob_mk, a3, cb_mk, lS.r36_600, ob_mk, a4, cb_mk]
  rcases hp with ⟨a, c, k, d, h1, h2, h3, h4, h5, h6, ⟨x0, x1, x2, x3, x4⟩, y0, y1, y2, y3, y4⟩ | ⟨a, h1, ⟨x0, x1⟩, y0, y1⟩ | ⟨a, k, h1, h2, h3, ⟨x0, x1, x2⟩, y0, y1, y2⟩ | ⟨a, k, h1, h2, h3, ⟨x0, x1, x2⟩, y0, y1, y2⟩ | ⟨x0, y0⟩
  · rw [x0, y0, if_pos (show nI 0 = 0 from rfl), if_pos (show nI 0 = 0 from rfl), x1, x2, x3, x4, y1, y2, y3, y4]
    exact dd _ _ (d_carry hn hx hr hlS hlT h1 h2 h3 h5 h6)
  · rw [x0, y0, if_neg (show ¬ nI 1 = 0 by decide), if_neg (show ¬ nI 1 = 0 by decide), if_pos (show nI 1 = 1 from rfl), if_pos (show nI 1 = 1 from rfl), x1, y1]
    exact dd _ _ (d_sell hx hr h1)
  · rw [x0, y0, if_neg (show ¬ nI 2 = 0 by decide), if_neg (show ¬ nI 2 = 0 by decide), if_neg (show ¬ nI 2 = 1 by decide), if_neg (show ¬ nI 2 = 1 by decide), if_pos (show nI 2 = 2 from rfl), if_neg (show ¬ nI 2 = 3 by decide), if_neg (show ¬ nI 2 = 4 by decide), x1, x2, y1, y2]
    obtain ⟨q, S', T', st', e1, e2, e3⟩ := d_water (n := n) hx hr h1 h3
    exact ⟨q, S', T', st', by rw [e1, cb_mk], e2, e3⟩
  · rw [x0, y0, if_neg (show ¬ nI 3 = 0 by decide), if_neg (show ¬ nI 3 = 0 by decide), if_neg (show ¬ nI 3 = 1 by decide), if_neg (show ¬ nI 3 = 1 by decide), if_neg (show ¬ nI 3 = 2 by decide), if_pos (show nI 3 = 3 from rfl), if_pos (show nI 3 = 3 from rfl), x1, x2, y1, y2]
    exact dd _ _ (d_dig hn hx hr hlS hlT h1 h3)
  · rw [x0, y0, if_neg (show ¬ nI 4 = 0 by decide), if_neg (show ¬ nI 4 = 0 by decide), if_neg (show ¬ nI 4 = 1 by decide), if_neg (show ¬ nI 4 = 1 by decide), if_neg (show ¬ nI 4 = 2 by decide), if_neg (show ¬ nI 4 = 3 by decide), if_neg (show ¬ nI 4 = 3 by decide), if_pos (show nI 4 = 4 from rfl)]
    exact d_month hn hx hr
end
