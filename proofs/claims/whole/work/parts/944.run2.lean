section
variable {A : Nat → Nat} {n : Nat} {S T : pq_S} {g : GH} {st : Nat → Int32}
theorem FX.R {S' : pq_S} (h : FXr A S S') : FXR A S S' := h.mono (by decide) (fun _ q => q) (fun _ q => q)
theorem FX.Sg {S' : pq_S} (h : FXs A T S') : FXS A T S' := h.mono (by decide) (fun _ q => q) (fun _ q => q)
theorem lw_fR {S' : pq_S} (h : LW g S A) (lS : LAY A S) (k : FXR A S S') : LW g S' A := h.cg (fun e he => by
  have : e.1 ∉ rxG ∧ e.2 < 92 ∧ ∀ x ∈ rxP, x.2 < 92 ∧ (e.1 = x.1 → e.2 ≠ x.2) := by revert e; decide
  exact k.I lS this.1 this.2.1 this.2.2) (fun c hc i => by
  have : c < 92 ∧ ∀ j ∈ rxA, j < 92 ∧ c ≠ j := by revert c; decide
  exact k.W lS this.1 this.2 i)
theorem lw_fS {S' : pq_S} (h : LW g S A) (lS : LAY A S) (k : FXS A S S') : LW g S' A := h.cg (fun e he => by
  have : e.1 ∉ rmG ∧ e.2 < 92 := by revert e; decide
  exact k.I lS this.1 this.2 (by simp)) (fun c hc i => by
  have : c < 92 ∧ ∀ j ∈ rmA, j < 92 ∧ c ≠ j := by revert c; decide
  exact k.W lS this.1 this.2 i)
theorem lw_fr {S' : pq_S} (h : LW g S A) (lS : LAY A S) (k : FXr A S S') : LW g S' A := lw_fR h lS k.R
/-- a step done on both sides -/
def DO (A : Nat → Nat) (g : GH) (S T : pq_S) (x y : Option (Int32 × pq_S)) : Prop := ∃ r S' T' st', x = some (r, S') ∧ y = some (r, T') ∧ XV g A S' st' ∧ RV g A T' st' ∧ FXr A S S' ∧ FXs A T T' ∧ (r = 0 ∨ r = 1)
theorem z0n (p : Nat) : (0 : Int32) + nI p = nI p := by rw [show (0 : Int32) = nI 0 from rfl, nI_add, Nat.zero_add]
theorem d_carry {a c k d : Nat} (hn : 20000 ≤ n) (hx : XV g A S st) (hr : RV g A T st) (hlS : LW g S A) (hlT : LW g T A) (ha : a < gP g) (hc : c < gP g) (hac : a ≠ c) (hk : k ≤ 99) (hd : d ≤ 1) : DO A g S T (m_X7_carryHours n (A 3) (nI a) (nI c) (nI k) (nI (1 - d)) S) (m_X12_carries n (A 60) (nI a) (nI c) (nI k) (nI d) T) := by
  have hg := hx.2.1
  have hb := hg.b
  have hs := hx.2.2.1
  have hS : ∀ q, q < gP g → ∃ m, m ≤ 999 ∧ st (6 * (1 - d) + q) = nI m := by
    intro q hq
    have : d = 0 ∨ d = 1 := by omega
    rcases this with rfl | rfl
    · exact hs.2.1 q hq
    · have := hs.1 q hq
      rw [show 6 * (1 - 1) + q = q by omega]
      exact this
  obtain ⟨h, h9, eh⟩ := hS a ha
  obtain ⟨h2, h29, eh2⟩ := hS c hc
  have ez : (if nI d = 1 then (0 : Int32) else 6) = nI (6 * (1 - d)) := by
    have : d = 0 ∨ d = 1 := by omega
    rcases this with rfl | rfl <;> decide
  have eg : (if nI (1 - d) = 0 then (1 : Int32) else 0) = nI d := by
    have : d = 0 ∨ d = 1 := by omega
    rcases this with rfl | rfl <;> decide
  have ref0 : m_X12_carries n (A 60) (nI a) (nI c) (nI k) (nI d) T = b_X12_carries_12 n (A 60) (nI a) (nI c) (nI k) (nI d) (nI (6 * (1 - d))) T := by
    unfold m_X12_carries
    rw [← ez]
    split <;> rfl
  rw [ref0, b_X12_carries_12, hr.1.r60_1247, ob_mk, hr.1.n81, nI_add, ck_pos (ix_nI (by omega) (by decide)), nI_clamp (by omega), hr.2.2.2.2 _ (by omega), eh]
  unfold m_X7_carryHours
  rw [hx.1.r3_701, ob_mk, hx.1.r13_800, ob_mk, hx.ho ha (by omega), cb_mk, eh]
  by_cases hkh : k ≤ h
  · rw [if_pos (nI_le hkh (by omega)), if_pos (nI_le hkh (by omega)), hx.1.r3_701, ob_mk, hx.1.r13_800, ob_mk, x_addh hx ha (by omega), ob_mk, eh, nI_negadd hkh]
    have sb1 : SB g (stu st (6 * (1 - d) + a) (nI (h - k))) := hs.u hg (fun _ => ⟨_, by omega, rfl⟩) (fun q => by omega) (fun q => by omega)
    have x1 := hx.wh ha (c := 1 - d) (by omega) sb1
    have k1 : FXr A S (sA S (A 15) (3 * a + (1 - d)) (nI (h - k))) := (FX.rf _ _ _ _ _).wA (by decide)
    obtain ⟨S2, y1, y2⟩ := xv_arr (n := n) (gd := d) x1 (lw_fr hlS hx.1 k1) (by omega) ha hc (show k < 2 ^ 31 by omega)
    rw [stu_ne (by omega)] at y1
    have x2 := y2.xv x1
    obtain ⟨T1, w1, w2⟩ := rv_arr (n := n) (gd := d) hr hlT (by omega) ha hc (show k < 2 ^ 31 by omega)
    have r1 := w2.rv hr
    have come : arF g (st 48) a c k d ≤ k := cp_le' _ _
    have e2 : stu st (6 * (1 - d) + a) (nI (h - k)) (6 * (1 - d) + c) = nI h2 := by rw [stu_ne (by omega)]; exact eh2
    have r2 := r1.w sb1
    have sb2 : SB g (stu (stu st (6 * (1 - d) + a) (nI (h - k))) (6 * (1 - d) + c) (nI (mn9 (h2 + arF g (st 48) a c k d)))) := sb1.u hg (fun _ => ⟨_, mn9_le _, rfl⟩) (fun q => by omega) (fun q => by omega)
    have x3 := x2.wh hc (c := 1 - d) (by omega) sb2
    have r3 := r2.w sb2
    refine ⟨1, _, _, _, ?_, ?_, x3, r3, (k1.tr y2.fx).wA (by decide), (w2.fx.wA (by decide)).wA (by decide), Or.inr rfl⟩
    · have q55 : ∀ z, b_X7_carryHours_55 n (A 13) (nI c) (nI (1 - d)) (A 3) (nI a) (nI c) (nI k) z (sA S (A 15) (3 * a + (1 - d)) (nI (h - k))) = b_X7_carryHours_55 n (A 13) (nI c) (nI (1 - d)) (A 3) (nI a) (nI c) (nI k) z (sA S (A 15) (3 * a + (1 - d)) (nI (h - k))) := fun _ => rfl
      rw [x1.1.r3_701, ob_mk]
      have e5 : (if nI (1 - d) = 0 then b_X7_carryHours_55 n (A 13) (nI c) (nI (1 - d)) (A 3) (nI a) (nI c) (nI k) 1 (sA S (A 15) (3 * a + (1 - d)) (nI (h - k))) else b_X7_carryHours_55 n (A 13) (nI c) (nI (1 - d)) (A 3) (nI a) (nI c) (nI k) 0 (sA S (A 15) (3 * a + (1 - d)) (nI (h - k)))) = b_X7_carryHours_55 n (A 13) (nI c) (nI (1 - d)) (A 3) (nI a) (nI c) (nI k) (nI d) (sA S (A 15) (3 * a + (1 - d)) (nI (h - k))) := by
        rw [← eg]
        split <;> rfl
      rw [e5, b_X7_carryHours_55, y1, cb_mk, x_bring x2 hc (by omega) e2 h29 (by omega), ob_mk]
    · rw [w1, cb_mk, r1.1.r60_1247, ob_mk, r1.1.n81, ck_pos (ix_nI (by omega) (by decide)), ck_pos (ix_nI (by omega) (by decide)), lt_mk, r1.2.2.2.2 _ (by omega), eh, nI_sub' hkh]
      have e6 : (if nI d = 1 then b_X12_carries_64 n (nI c) (nI (arF g (st 48) a c k d)) (A 60) 0 (sA T1 (A 81) (6 * (1 - d) + a) (nI (h - k))) else b_X12_carries_64 n (nI c) (nI (arF g (st 48) a c k d)) (A 60) 6 (sA T1 (A 81) (6 * (1 - d) + a) (nI (h - k)))) = b_X12_carries_64 n (nI c) (nI (arF g (st 48) a c k d)) (A 60) (nI (6 * (1 - d))) (sA T1 (A 81) (6 * (1 - d) + a) (nI (h - k))) := by
        rw [← ez]
        split <;> rfl
      rw [e6, b_X12_carries_64, nI_add, r_addk r2 (by omega) e2 h29 (by omega), ob_mk]
  · rw [if_neg (nI_ge (by omega) (by omega)), if_neg (nI_ge (by omega) (by omega))]
    exact ⟨0, S, T, st, rfl, rfl, hx, hr, FX.rf _ _ _ _ _, FX.rf _ _ _ _ _, Or.inl rfl⟩
theorem d_water {a k : Nat} (hx : XV g A S st) (hr : RV g A T st) (ha : a < gP g) (hk : k ≤ 99) : DO A g S T (m_X7_waterHours n (A 3) (nI a) (nI k) S) (Option.bind (pR T 1247 (A 60)) fun q13 => ck (ix ((0 : Int32) + nI a) (pN T q13)) (dix _ _) (if nI k ≤ (pA T q13 (Int32.toNatClampNeg ((0 : Int32) + nI a))) then Option.bind (pR T 1247 (A 60)) fun q16 => ck (ix ((0 : Int32) + nI a) (pN T q16)) (dix _ _) (ck (ix ((0 : Int32) + nI a) (pN T q16)) (dix _ _) (lt_ (sA T q16 (Int32.toNatClampNeg ((0 : Int32) + nI a)) ((pA T q16 (Int32.toNatClampNeg ((0 : Int32) + nI a))) - nI k)) fun S_19 => Option.bind (m_X12_adds n (A 60) ((6 : Int32) + nI a) ((2 : Int32) * nI k) S_19) fun S_20 => some (1, S_20))) else some (0, T))) := by
  have hg := hx.2.1
  have hb := hg.b
  have hs := hx.2.2.1
  obtain ⟨h, h9, eh⟩ := hs.1 a ha
  obtain ⟨h2, h29, eh2⟩ := hs.2.1 a ha
  rw [hr.1.r60_1247, ob_mk, hr.1.n81, z0n, ck_pos (ix_nI (by omega) (by decide)), nI_clamp (by omega), hr.2.2.2.2 _ (by omega), eh, ob_mk, hr.1.n81, ck_pos (ix_nI (by omega) (by decide)), ck_pos (ix_nI (by omega) (by decide)), lt_mk, hr.2.2.2.2 _ (by omega), eh]
  unfold m_X7_waterHours
  have e0 : m_X9_at n (A 14) (nI a) 0 S = some (nI h, S) := by
    have := hx.ho (n := n) ha (c := 0) (by decide)
    rw [show 6 * 0 + a = a by omega, eh] at this
    exact this
  rw [hx.1.r3_701, ob_mk, hx.1.r13_800, ob_mk, e0, cb_mk]
  by_cases hkh : k ≤ h
  · have sb1 : SB g (stu st (6 * 0 + a) (nI (h - k))) := hs.u hg (fun _ => ⟨_, by omega, rfl⟩) (fun q => by omega) (fun q => by omega)
    have ad : m_X9_add n (A 14) (nI a) 0 (-nI k) S = some (sA S (A 15) (3 * a + 0) (nI (h - k))) := by
      have := x_addh (n := n) (d := -nI k) hx ha (c := 0) (by decide)
      rw [show 6 * 0 + a = a by omega, eh, nI_negadd hkh] at this
      exact this
    have x1 := hx.wh ha (c := 0) (by omega) sb1
    have e2 : stu st (6 * 0 + a) (nI (h - k)) (6 * 1 + a) = nI h2 := by rw [stu_ne (by omega)]; exact eh2
    have br := x_bring (n := n) x1 ha (c := 1) (by decide) e2 h29 (show 2 * k ≤ 100000 by omega)
    have sb2 : SB g (stu (stu st (6 * 0 + a) (nI (h - k))) (6 * 1 + a) (nI (mn9 (h2 + 2 * k)))) := sb1.u hg (fun _ => ⟨_, mn9_le _, rfl⟩) (fun q => by omega) (fun q => by omega)
    have x2 := x1.wh ha (c := 1) (by omega) sb2
    have r1 := hr.w sb1
    have r2 := r1.w sb2
    rw [if_pos (nI_le hkh (by omega)), if_pos (nI_le hkh (by omega)), hx.1.r3_701, ob_mk, hx.1.r13_800, ob_mk, ad, ob_mk, x1.1.r3_701, ob_mk, show (2 : Int32) * nI k = nI (2 * k) from nI_mulp 2 k, show m_X8_bring n (A 13) (nI a) 1 (nI (2 * k)) (sA S (A 15) (3 * a + 0) (nI (h - k))) = _ from br, ob_mk, nI_sub' hkh, show (6 : Int32) + nI a = nI (6 * 1 + a) from nI_add _ _]
    rw [show 6 * 0 + a = a by omega] at r1 e2 r2 x2
    rw [r_addk r1 (by omega) e2 h29 (by omega), ob_mk]
    exact ⟨1, _, _, _, rfl, rfl, x2, r2, ((FX.rf _ _ _ _ _).wA (by decide)).wA (by decide), ((FX.rf _ _ _ _ _).wA (by decide)).wA (by decide), Or.inr rfl⟩
  · rw [if_neg (nI_ge (by omega) (by omega)), if_neg (nI_ge (by omega) (by omega))]
    exact ⟨0, S, T, st, rfl, rfl, hx, hr, FX.rf _ _ _ _ _, FX.rf _ _ _ _ _, Or.inl rfl⟩
end
