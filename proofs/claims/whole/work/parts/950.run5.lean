/-! work: the steps run -/
def RK (A : Nat → Nat) (g : GH) (x y : Nat → Int32) (S T : pq_S) (st : Nat → Int32) (bg : Nat) : Prop := XV g A S st ∧ RV g A T st ∧ LW g S A ∧ LW g T A ∧ (pI S 601 (A 36) = nI bg ∧ pI T 1243 (A 60) = nI bg ∧ bg ≤ 200) ∧ pI S 602 (A 36) = pI T 1244 (A 60) ∧ pI S 603 (A 36) = pI T 1245 (A 60) ∧ (∀ i, i < 125 → pA S (A 38) i = x i) ∧ ∀ i, i < 125 → pA T (A 79) i = y i
/-- what a run comes to -/
def RO (A : Nat → Nat) (g : GH) (x y : Nat → Int32) (S T : pq_S) (o1 o2 : Option pq_S) : Prop := ∃ S' T' st' bg', o1 = some S' ∧ o2 = some T' ∧ RK A g x y S' T' st' bg' ∧ FXR A S S' ∧ FXS A T T'
def ROK (A : Nat → Nat) (n : Nat) (g : GH) (x y : Nat → Int32) (o : Nat) : Prop := ∀ (D D' lo hi : Nat) (S T : pq_S) (st : Nat → Int32) (bg : Nat), 8 - o ≤ D → 8 - o ≤ D' → hi ≤ 25 → lo ≤ hi → BL x y (gP g) (gW g) (gM g) (6 - o) lo hi → RK A g x y S T st bg → RO A g x y S T ((m_runS_d n D) (A 36) (A 3) (nI lo) (nI hi) (nI o) S) ((m_goeS_d n D') (A 60) (nI (5 * lo)) (nI (5 * hi)) T)
section
variable {A : Nat → Nat} {n : Nat} {S T : pq_S} {g : GH} {st : Nat → Int32} {x y : Nat → Int32}
theorem RV.i (h : RV g A T st) {f : Nat} {v : Int32} (hf : f = 1243 ∨ f = 1244 ∨ f = 1245) : RV g A (sI T f (A 60) v) st := by
  refine ⟨h.1.eqv rfl rfl rfl rfl (fun a => pI_n (by omega)), h.2.1, h.2.2.1, h.2.2.2.1.cg (fun e he => ?_) (fun c hc i => rfl), h.2.2.2.2⟩
  have : e.1 ≠ 1243 ∧ e.1 ≠ 1244 ∧ e.1 ≠ 1245 := by revert e; decide
  exact pI_n (by omega)
theorem rs_stop {D : Nat} {a b c : Int32} {bg : Nat} (hn : 20000 ≤ n) (e : pI S 601 (A 36) = nI bg) (hb : 200 ≤ bg) (hb2 : bg ≤ 200) : (m_runS_d n (D + 1)) (A 36) (A 3) a b c S = some S := by
  obtain ⟨n', rfl⟩ : ∃ n', n = n' + 1 := ⟨n - 1, by omega⟩
  show g_X6_runSteps (n' + 1) (m_runS_d (n' + 1) D) (A 36) (A 3) a b c S = _
  unfold g_X6_runSteps
  rw [b_X6_runSteps_3]
  by_cases q : b ≤ a
  · rw [if_pos q]
  · rw [if_neg q, e, if_pos (show (200 : Int32) ≤ nI bg from nI_le (a := 200) hb (by omega))]
theorem rs_idle {D e row o hi t : Nat} {k2 : Nat → Nat → Int32 → Int32 → Int32 → pq_S → Option pq_S} {bg : Nat} (hn : 20000 ≤ n) (lS : LAY A S) (hrow : row < 25) (ex : pA S (A 38) (5 * row + 1) = nI t) (ht : t ≤ 20) (eb : pI S 601 (A 36) = nI bg) (hb : 200 ≤ bg) (hb2 : bg ≤ 200) (ho : o < 6) : ∀ (v i f : Nat), i + v = t → v < f → b_X6_runSteps_65 n (m_runS_d n (D + 1)) k2 f (A 36) (A 3) (nI hi) (nI o) (nI row) (nI e) (nI i) S = k2 (A 36) (A 3) (nI hi) (nI o) (nI e) S := by
  intro v
  induction v with
  | zero =>
    intro i f h1 h2
    obtain ⟨f, rfl⟩ : ∃ g, f = g + 1 := ⟨f - 1, by omega⟩
    rw [b_X6_runSteps_65, lS.r36_600, ob_mk, show m_X9_at n (A 37) (nI row) 1 S = some (pA S (A 38) (5 * row + 1), S) from x_atN (k := 1) (w := 5) lS.r37_900 lS.n38 lS.w37 (by omega) (by decide), cb_mk, ex, if_pos (nI_le (by omega) (by omega)), b_X6_runSteps_108]
  | succ v ih =>
    intro i f h1 h2
    obtain ⟨f, rfl⟩ : ∃ g, f = g + 1 := ⟨f - 1, by omega⟩
    rw [b_X6_runSteps_65, lS.r36_600, ob_mk, show m_X9_at n (A 37) (nI row) 1 S = some (pA S (A 38) (5 * row + 1), S) from x_atN (k := 1) (w := 5) lS.r37_900 lS.n38 lS.w37 (by omega) (by decide), cb_mk, ex, if_neg (nI_ge (by omega) (by omega)), if_neg (show ¬ (6 : Int32) ≤ nI o from nI_ge (b := 6) (by omega) (by decide)), rs_stop hn eb hb hb2, ob_mk, show nI i + 1 = nI (i + 1) from nI_1 i]
    exact ih (i + 1) f (by omega) (by omega)
theorem j_agl {D D' row e t o hi : Nat} {k2 : Nat → Nat → Int32 → Int32 → Int32 → pq_S → Option pq_S} {k2' : Nat → Int32 → Int32 → pq_S → Option pq_S} (hn : 20000 ≤ n) (hROK : ROK A n g x y (o + 1)) (ho : o < 6) (hD : 7 - o ≤ D) (hD' : 7 - o ≤ D') (hrow : row < 25) (hre : row < e) (he : e ≤ 25) (ha : AG x y row t e) (ht : t ≤ 20) (hb : BL x y (gP g) (gW g) (gM g) (6 - (o + 1)) (row + 1) e) : ∀ (v i f f' : Nat) (S T : pq_S) (st : Nat → Int32) (bg : Nat), i + v = t → v < f → v < f' → RK A g x y S T st bg → ∃ S' T' st' bg', b_X6_runSteps_65 n (m_runS_d n D) k2 f (A 36) (A 3) (nI hi) (nI o) (nI row) (nI e) (nI i) S = k2 (A 36) (A 3) (nI hi) (nI o) (nI e) S' ∧ b_X12_goesSteps_50 n (m_goeS_d n D') k2' f' (A 60) (nI (5 * hi)) (nI (5 * row)) (nI (5 * e)) (nI i) T = k2' (A 60) (nI (5 * hi)) (nI (5 * e)) T' ∧ RK A g x y S' T' st' bg' ∧ FXR A S S' ∧ FXS A T T' := by
  obtain ⟨D0, eD⟩ : ∃ d, D = d + 1 := ⟨D - 1, by omega⟩
  intro v
  induction v with
  | zero =>
    intro i f f' S T st bg h1 h2 h3 rk
    obtain ⟨f, rfl⟩ : ∃ g, f = g + 1 := ⟨f - 1, by omega⟩
    obtain ⟨f', rfl⟩ : ∃ g, f' = g + 1 := ⟨f' - 1, by omega⟩
    have lS := rk.1.1
    have lT := rk.2.1.1
    have ex : pA S (A 38) (5 * row + 1) = nI t := by rw [rk.2.2.2.2.2.2.2.1 _ (by omega)]; exact ha.1.2.1
    have ey : pA T (A 79) (5 * row + 1) = nI t := by rw [rk.2.2.2.2.2.2.2.2 _ (by omega)]; exact ha.2.2.1
    refine ⟨S, T, st, bg, ?_, ?_, rk, FX.rf _ _ _ _ _, FX.rf _ _ _ _ _⟩
    · rw [b_X6_runSteps_65, lS.r36_600, ob_mk, show m_X9_at n (A 37) (nI row) 1 S = some (pA S (A 38) (5 * row + 1), S) from x_atN (k := 1) (w := 5) lS.r37_900 lS.n38 lS.w37 (by omega) (by decide), cb_mk, ex, if_pos (nI_le (by omega) (by omega)), b_X6_runSteps_108]
    · rw [b_X12_goesSteps_50, lT.r60_1239, ob_mk, lT.n79, nI_1, ck_pos (ix_nI (by omega) (by decide)), nI_clamp (by omega), ey, if_pos (nI_le (by omega) (by omega)), b_X12_goesSteps_88]
  | succ v ih =>
    intro i f f' S T st bg h1 h2 h3 rk
    obtain ⟨f, rfl⟩ : ∃ g, f = g + 1 := ⟨f - 1, by omega⟩
    obtain ⟨f', rfl⟩ : ∃ g, f' = g + 1 := ⟨f' - 1, by omega⟩
    have lS := rk.1.1
    have lT := rk.2.1.1
    have ex : pA S (A 38) (5 * row + 1) = nI t := by rw [rk.2.2.2.2.2.2.2.1 _ (by omega)]; exact ha.1.2.1
    have ey : pA T (A 79) (5 * row + 1) = nI t := by rw [rk.2.2.2.2.2.2.2.2 _ (by omega)]; exact ha.2.2.1
    have eb := rk.2.2.2.2.1
    by_cases hbg : 200 ≤ bg
    · refine ⟨S, T, st, bg, ?_, ?_, rk, FX.rf _ _ _ _ _, FX.rf _ _ _ _ _⟩
      · subst eD
        exact rs_idle hn lS hrow ex ht eb.1 hbg eb.2.2 ho (v + 1) i (f + 1) (by omega) (by omega)
      · rw [b_X12_goesSteps_50, lT.r60_1239, ob_mk, lT.n79, nI_1, ck_pos (ix_nI (by omega) (by decide)), nI_clamp (by omega), ey, if_neg (nI_ge (by omega) (by omega)), eb.2.1, if_pos (show (200 : Int32) ≤ nI bg from nI_le (a := 200) hbg (by omega)), b_X12_goesSteps_88]
    · obtain ⟨S1, T1, st1, bg1, r1, r2, r3, r4, r5⟩ := hROK D D' (row + 1) e S T st bg (by omega) (by omega) he (by omega) hb rk
      obtain ⟨S2, T2, st2, bg2, i1, i2, i3, i4, i5⟩ := ih (i + 1) f f' S1 T1 st1 bg1 (by omega) (by omega) (by omega) r3
      refine ⟨S2, T2, st2, bg2, ?_, ?_, i3, r4.tr i4, r5.tr i5⟩
      · rw [b_X6_runSteps_65, lS.r36_600, ob_mk, show m_X9_at n (A 37) (nI row) 1 S = some (pA S (A 38) (5 * row + 1), S) from x_atN (k := 1) (w := 5) lS.r37_900 lS.n38 lS.w37 (by omega) (by decide), cb_mk, ex, if_neg (nI_ge (by omega) (by omega)), if_neg (show ¬ (6 : Int32) ≤ nI o from nI_ge (b := 6) (by omega) (by decide)), nI_1, nI_1, r1, ob_mk, show nI i + 1 = nI (i + 1) from nI_1 i]
        exact i1
      · rw [b_X12_goesSteps_50, lT.r60_1239, ob_mk, lT.n79, nI_1, ck_pos (ix_nI (by omega) (by decide)), nI_clamp (by omega), ey, if_neg (nI_ge (by omega) (by omega)), eb.2.1, if_neg (show ¬ (200 : Int32) ≤ nI bg from nI_ge (b := 200) (by omega) (by decide)), show nI (5 * row) + (5 : Int32) = nI (5 * (row + 1)) from by rw [show 5 * (row + 1) = 5 * row + 5 by omega]; exact nI_add _ _, r2, ob_mk, show nI i + 1 = nI (i + 1) from nI_1 i]
        exact i2
theorem j_run {D D' lo hi o : Nat} (hn : 20000 ≤ n) (ho : o ≤ 6) (hROK : o < 6 → ROK A n g x y (o + 1)) (hD : 7 - o ≤ D) (hD' : 7 - o ≤ D') (hhi : hi ≤ 25) (hB : BL x y (gP g) (gW g) (gM g) (6 - o) lo hi) : ∀ (w row f f' : Nat) (S T : pq_S) (st : Nat → Int32) (bg : Nat), hi - row ≤ w → w < f → w < f' → lo ≤ row → row ≤ hi → RK A g x y S T st bg → RO A g x y S T (b_X6_runSteps_3 n (m_runS_d n D) f (A 36) (A 3) (nI hi) (nI o) (nI row) S) (b_X12_goesSteps_2 n (m_goeS_d n D') f' (A 60) (nI (5 * hi)) (nI (5 * row)) T) := by
  intro w
  induction w with
  | zero =>
    intro row f f' S T st bg h1 h2 h3 h4 h5 rk
    obtain ⟨f, rfl⟩ : ∃ g, f = g + 1 := ⟨f - 1, by omega⟩
    obtain ⟨f', rfl⟩ : ∃ g, f' = g + 1 := ⟨f' - 1, by omega⟩
    refine ⟨S, T, st, bg, ?_, ?_, rk, FX.rf _ _ _ _ _, FX.rf _ _ _ _ _⟩
    · rw [b_X6_runSteps_3, if_pos (nI_le (by omega) (by omega))]
    · rw [b_X12_goesSteps_2, if_pos (nI_le (by omega) (by omega))]
  | succ w ih =>
    intro row f f' S T st bg h1 h2 h3 h4 h5 rk
    obtain ⟨f, rfl⟩ : ∃ g, f = g + 1 := ⟨f - 1, by omega⟩
    obtain ⟨f', rfl⟩ : ∃ g, f' = g + 1 := ⟨f' - 1, by omega⟩
    obtain ⟨hx, hr, hlS, hlT, ⟨e1, e2, e3⟩, e4, e5, e6, e7⟩ := rk
    have lS := hx.1
    have lT := hr.1
    rw [b_X6_runSteps_3, b_X12_goesSteps_2]
    by_cases hq : row = hi
    · rw [if_pos (nI_le (by omega) (by omega)), if_pos (nI_le (by omega) (by omega))]
      exact ⟨S, T, st, bg, rfl, rfl, ⟨hx, hr, hlS, hlT, ⟨e1, e2, e3⟩, e4, e5, e6, e7⟩, FX.rf _ _ _ _ _, FX.rf _ _ _ _ _⟩
    have hrow : row < hi := by omega
    rw [if_neg (nI_ge hrow (by omega)), if_neg (nI_ge (by omega) (by omega)), e1, e2]
    by_cases hbg : 200 ≤ bg
    · rw [if_pos (show (200 : Int32) ≤ nI bg from nI_le (a := 200) hbg (by omega)), if_pos (show (200 : Int32) ≤ nI bg from nI_le (a := 200) hbg (by omega))]
      exact ⟨S, T, st, bg, rfl, rfl, ⟨hx, hr, hlS, hlT, ⟨e1, e2, e3⟩, e4, e5, e6, e7⟩, FX.rf _ _ _ _ _, FX.rf _ _ _ _ _⟩
    rw [if_neg (show ¬ (200 : Int32) ≤ nI bg from nI_ge (b := 200) (by omega) (by decide)), if_neg (show ¬ (200 : Int32) ≤ nI bg from nI_ge (b := 200) (by omega) (by decide)), nI_1]
    have k1 : FXR A S (sI S 601 (A 36) (nI (bg + 1))) := (FX.rf _ _ _ _ _).wI (by decide)
    have k2 : FXS A T (sI T 1243 (A 60) (nI (bg + 1))) := (FX.rf _ _ _ _ _).wI (by decide)
    have x1 : XV g A (sI S 601 (A 36) (nI (bg + 1))) st := xv_I hx (by decide)
    have r1 : RV g A (sI T 1243 (A 60) (nI (bg + 1))) st := hr.i (Or.inl rfl)
    have l1 := x1.1
    have m1 := r1.1
    have hlS1 := lw_fR hlS lS k1
    have hlT1 := lw_fS hlT lT k2
    have cx : ∀ i, i < 125 → pA (sI S 601 (A 36) (nI (bg + 1))) (A 38) i = x i := e6
    have cy : ∀ i, i < 125 → pA (sI T 1243 (A 60) (nI (bg + 1))) (A 79) i = y i := e7
    have rk1 : RK A g x y (sI S 601 (A 36) (nI (bg + 1))) (sI T 1243 (A 60) (nI (bg + 1))) st (bg + 1) := ⟨x1, r1, hlS1, hlT1, ⟨pI_e .., pI_e .., by omega⟩, by rw [pI_n (by decide), pI_n (by decide)]; exact e4, by rw [pI_n (by decide), pI_n (by decide)]; exact e5, cx, cy⟩
    rw [l1.r36_600, ob_mk, show m_X9_at n (A 37) (nI row) 0 (sI S 601 (A 36) (nI (bg + 1))) = some (pA (sI S 601 (A 36) (nI (bg + 1))) (A 38) (5 * row + 0), sI S 601 (A 36) (nI (bg + 1))) from x_atN (k := 0) (w := 5) l1.r37_900 l1.n38 l1.w37 (by omega) (by decide), cb_mk, cx _ (by omega), m1.r60_1239, ob_mk, m1.n79, ck_pos (ix_nI (by omega) (by decide)), nI_clamp (by omega), show pA (sI T 1243 (A 60) (nI (bg + 1))) (A 79) (5 * row) = y (5 * row + 0) from cy (5 * row + 0) (by omega)]
    have plain : PL x y (gP g) (gW g) (gM g) row → RO A g x y S T (if x (5 * row + 0) = 5 then Option.bind (pR (sI S 601 (A 36) (nI (bg + 1))) 600 (A 36)) fun q17 => cb (m_X9_at n q17 (nI row) 2 (sI S 601 (A 36) (nI (bg + 1)))) fun r20 S_18 => lt_ (if r20 < (nI row + (1 : Int32)) then (nI row + (1 : Int32)) else r20) fun v22 => b_X6_runSteps_65 n (m_runS_d n D) (b_X6_runSteps_3 n (m_runS_d n D) f) n (A 36) (A 3) (nI hi) (nI o) (nI row) v22 0 S_18 else cb (m_X6_doStep n (A 36) (A 3) (nI row) (sI S 601 (A 36) (nI (bg + 1)))) fun r11 S_9 => Option.bind (m_X6_keepAnswer n (A 36) r11 S_9) fun S_14 => b_X6_runSteps_3 n (m_runS_d n D) f (A 36) (A 3) (nI hi) (nI o) (nI row + 1) S_14) (if y (5 * row + 0) = 5 then Option.bind (some (A 79)) fun q12 => ck (ix (nI (5 * row) + (2 : Int32)) (pN (sI T 1243 (A 60) (nI (bg + 1))) q12)) (dix _ _) (lt_ (pA (sI T 1243 (A 60) (nI (bg + 1))) q12 (Int32.toNatClampNeg (nI (5 * row) + (2 : Int32)))) fun v14 => b_X12_goesSteps_50 n (m_goeS_d n D') (b_X12_goesSteps_2 n (m_goeS_d n D') f') n (A 60) (nI (5 * hi)) (nI (5 * row)) v14 0 (sI T 1243 (A 60) (nI (bg + 1)))) else cb (m_X12_goes n (A 60) (nI (5 * row)) (sI T 1243 (A 60) (nI (bg + 1)))) fun r8 S_6 => if r8 = 0 then b_X12_goesSteps_125 n (m_goeS_d n D') (b_X12_goesSteps_2 n (m_goeS_d n D') f') (A 60) (nI (5 * hi)) (nI (5 * row)) (sI S_6 1245 (A 60) ((pI S_6 1245 (A 60)) + (1 : Int32))) else b_X12_goesSteps_125 n (m_goeS_d n D') (b_X12_goesSteps_2 n (m_goeS_d n D') f') (A 60) (nI (5 * hi)) (nI (5 * row)) (sI S_6 1244 (A 60) ((pI S_6 1244 (A 60)) + (1 : Int32)))) := by
      intro hp
      have n5 : ¬ x (5 * row + 0) = 5 ∧ ¬ y (5 * row + 0) = 5 := by
        rcases hp with ⟨a, c, k, d, _, _, _, _, _, _, ⟨q, _⟩, q', _⟩ | ⟨a, _, ⟨q, _⟩, q', _⟩ | ⟨a, k, _, _, _, ⟨q, _⟩, q', _⟩ | ⟨a, k, _, _, _, ⟨q, _⟩, q', _⟩ | ⟨q, q'⟩ <;> rw [q, q'] <;> decide
      rw [if_neg n5.1, if_neg n5.2]
      obtain ⟨r, S2, T2, st2, d1, d2, d3, d4, d5, d6, d7⟩ := d_step (n := n) (r := row) (x := x) (y := y) hn x1 r1 hlS1 hlT1 (by omega) (fun i hi => cx _ (by omega)) (fun i hi => cy _ (by omega)) hp
      have l2 := d5.lay l1 (by decide) (by decide)
      have m2 := d6.lay m1 (by decide) (by decide)
      have hlS2 := lw_fR hlS1 l1 d5.R
      have hlT2 := lw_fS hlT1 m1 d6.Sg
      have q1 : ∀ i, i < 125 → pA S2 (A 38) i = x i := fun i hi => by rw [d5.W l1 (by decide) (by decide)]; exact cx i hi
      have q2 : ∀ i, i < 125 → pA T2 (A 79) i = y i := fun i hi => by rw [d6.W m1 (by decide) (by decide)]; exact cy i hi
      rw [d1, cb_mk, d2, cb_mk]
      have fin : ∀ S3 T3, RK A g x y S3 T3 st2 (bg + 1) → FXR A S2 S3 → FXS A T2 T3 → RO A g x y S T (b_X6_runSteps_3 n (m_runS_d n D) f (A 36) (A 3) (nI hi) (nI o) (nI row + 1) S3) (b_X12_goesSteps_125 n (m_goeS_d n D') (b_X12_goesSteps_2 n (m_goeS_d n D') f') (A 60) (nI (5 * hi)) (nI (5 * row)) T3) := by
        intro S3 T3 rk3 kx kt
        rw [b_X12_goesSteps_125, show nI row + 1 = nI (row + 1) from nI_1 row, show nI (5 * row) + 5 = nI (5 * (row + 1)) from by rw [show 5 * (row + 1) = 5 * row + 5 by omega]; exact nI_add _ _]
        obtain ⟨S4, T4, st4, bg4, i1, i2, i3, i4, i5⟩ := ih (row + 1) f f' S3 T3 st2 (bg + 1) (by omega) (by omega) (by omega) (by omega) (by omega) rk3
        exact ⟨S4, T4, st4, bg4, i1, i2, i3, ((k1.tr d5.R).tr kx).tr i4, ((k2.tr d6.Sg).tr kt).tr i5⟩
      have c1 : pI S2 601 (A 36) = nI (bg + 1) := by rw [d5.I l1 (by decide) (by decide) (by decide), pI_e]
      have c2 : pI T2 1243 (A 60) = nI (bg + 1) := by rw [d6.I m1 (by decide) (by decide) (by decide), pI_e]
      have c3 : pI S2 602 (A 36) = pI T2 1244 (A 60) := by rw [d5.I l1 (by decide) (by decide) (by decide), d6.I m1 (by decide) (by decide) (by decide), pI_n (by decide), pI_n (by decide)]; exact e4
      have c4 : pI S2 603 (A 36) = pI T2 1245 (A 60) := by rw [d5.I l1 (by decide) (by decide) (by decide), d6.I m1 (by decide) (by decide) (by decide), pI_n (by decide), pI_n (by decide)]; exact e5
      unfold m_X6_keepAnswer
      rcases d7 with rfl | rfl
      · rw [if00, if00, ob_mk]
        have kx : FXR A S2 (sI S2 603 (A 36) (pI S2 603 (A 36) + 1)) := (FX.rf _ _ _ _ _).wI (by decide)
        have kt : FXS A T2 (sI T2 1245 (A 60) (pI T2 1245 (A 60) + 1)) := (FX.rf _ _ _ _ _).wI (by decide)
        exact fin _ _ ⟨xv_I d3 (by decide), d4.i (by decide), lw_fR hlS2 l2 kx, lw_fS hlT2 m2 kt, ⟨by rw [pI_n (by decide)]; exact c1, by rw [pI_n (by decide)]; exact c2, by omega⟩, by rw [pI_n (by decide), pI_n (by decide)]; exact c3, by rw [pI_e, pI_e, c4], q1, q2⟩ kx kt
      · rw [if10, if10, ob_mk]
        have kx : FXR A S2 (sI S2 602 (A 36) (pI S2 602 (A 36) + 1)) := (FX.rf _ _ _ _ _).wI (by decide)
        have kt : FXS A T2 (sI T2 1244 (A 60) (pI T2 1244 (A 60) + 1)) := (FX.rf _ _ _ _ _).wI (by decide)
        exact fin _ _ ⟨xv_I d3 (by decide), d4.i (by decide), lw_fR hlS2 l2 kx, lw_fS hlT2 m2 kt, ⟨by rw [pI_n (by decide)]; exact c1, by rw [pI_n (by decide)]; exact c2, by omega⟩, by rw [pI_e, pI_e, c3], by rw [pI_n (by decide), pI_n (by decide)]; exact c4, q1, q2⟩ kx kt
    by_cases ho6 : o < 6
    · obtain ⟨d, hd⟩ : ∃ d, 6 - o = d + 1 := ⟨6 - o - 1, by omega⟩
      rw [hd] at hB
      rcases hB row h4 hrow with hp | ⟨t, e, ht, hre, heh, ha, hb⟩
      · exact plain hp
      · rw [show d = 6 - (o + 1) by omega] at hb
        obtain ⟨⟨ax0, ax1, ax2⟩, ay0, ay1, ay2⟩ := ha
        obtain ⟨S2, T2, st2, bg2, g1, g2, g3, g4, g5⟩ := j_agl (n := n) (D := D) (D' := D') (row := row) (e := e) (t := t) (o := o) (hi := hi) (k2 := b_X6_runSteps_3 n (m_runS_d n D) f) (k2' := b_X12_goesSteps_2 n (m_goeS_d n D') f') hn (hROK ho6) ho6 hD hD' (by omega) hre (by omega) ⟨⟨ax0, ax1, ax2⟩, ay0, ay1, ay2⟩ ht hb t 0 n n _ _ st (bg + 1) (by omega) (by omega) (by omega) rk1
        obtain ⟨S3, T3, st3, bg3, i1, i2, i3, i4, i5⟩ := ih e f f' S2 T2 st2 bg2 (by omega) (by omega) (by omega) (by omega) heh g3
        refine ⟨S3, T3, st3, bg3, ?_, ?_, i3, (k1.tr g4).tr i4, (k2.tr g5).tr i5⟩
        · rw [ax0, if_pos (show nI 5 = 5 from rfl), l1.r36_600, ob_mk, show m_X9_at n (A 37) (nI row) 2 (sI S 601 (A 36) (nI (bg + 1))) = some (pA (sI S 601 (A 36) (nI (bg + 1))) (A 38) (5 * row + 2), sI S 601 (A 36) (nI (bg + 1))) from x_atN (k := 2) (w := 5) l1.r37_900 l1.n38 l1.w37 (by omega) (by decide), cb_mk, cx _ (by omega), ax2, nI_1, if_neg (nI_nlt (by omega) (by omega)), lt_mk]
          rw [nI_0] at g1
          rw [g1]
          exact i1
        · rw [ay0, if_pos (show nI 5 = 5 from rfl), ob_mk, m1.n79, show nI (5 * row) + (2 : Int32) = nI (5 * row + 2) from nI_add _ _, ck_pos (ix_nI (by omega) (by decide)), lt_mk, nI_clamp (by omega), cy _ (by omega), ay2]
          rw [nI_0] at g2
          rw [g2]
          exact i2
    · rw [show 6 - o = 0 by omega] at hB
      exact plain (hB row h4 hrow)
theorem r_all (hn : 20000 ≤ n) : ∀ k o, o + k = 6 → ROK A n g x y o := by
  have st : ∀ o, o ≤ 6 → (o < 6 → ROK A n g x y (o + 1)) → ROK A n g x y o := by
    intro o ho hR D D' lo hi S T st bg hD hD' hhi hlo hB rk
    obtain ⟨D, rfl⟩ : ∃ d, D = d + 1 := ⟨D - 1, by omega⟩
    obtain ⟨D', rfl⟩ : ∃ d, D' = d + 1 := ⟨D' - 1, by omega⟩
    exact j_run (n := n) hn ho hR (by omega) (by omega) hhi hB hi lo n n S T st bg (by omega) (by omega) (by omega) (Nat.le_refl _) hlo rk
  intro k
  induction k with
  | zero => intro o ho; exact st o (by omega) (fun q => by omega)
  | succ k ih => intro o ho; exact st o (by omega) (fun _ => ih (o + 1) (by omega))
end
