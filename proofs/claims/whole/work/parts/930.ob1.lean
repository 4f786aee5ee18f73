section
variable {A : Nat → Nat} {n : Nat} {S T : pq_S} {g : GH}
/-- the reference's row s while the coast is set -/
theorem r_s140 (lT : LAY A T) : ∀ (m j f : Nat) (u : Nat → Int32), j + m = 50 → m < f → (∀ i, i < j → u i = 0) → ∃ u', b_X12_sets_140 n f (A 60) (nI j) (sF T (A 81) u) = b_X12_sets_159 n (A 60) (sF T (A 81) u') ∧ ∀ i, i < 50 → u' i = 0 := by
  intro m
  induction m with
  | zero =>
    intro j f u h1 h2 h3
    obtain ⟨f, rfl⟩ : ∃ g, f = g + 1 := ⟨f - 1, by omega⟩
    rw [b_X12_sets_140, if_pos (show (50 : Int32) ≤ nI j from nI_le (a := 50) (by omega) (by omega))]
    exact ⟨u, rfl, fun i hi => h3 i (by omega)⟩
  | succ m ih =>
    intro j f u h1 h2 h3
    obtain ⟨f, rfl⟩ : ∃ g, f = g + 1 := ⟨f - 1, by omega⟩
    rw [b_X12_sets_140, if_neg (show ¬ (50 : Int32) ≤ nI j from nI_ge (b := 50) (by omega) (by decide)), pR_sF, lT.r60_1247, ob_mk, pN_sF, lT.n81, ck_pos (ix_nI (by omega) (by decide)), nI_clamp (by omega), sA_sF, show nI j + 1 = nI (j + 1) from nI_1 j]
    exact ih (j + 1) f _ (by omega) (by omega) (fun i hi => by
      unfold upd
      by_cases e : i = j
      · rw [if_pos e]
      · rw [if_neg e]; exact h3 i (by omega))
/-- the row s when the first j places are set -/
def s1F (g : GH) (j i : Nat) : Int32 := if i < 6 then (if i < j then nI (gpl g (4 * i + 1)) else 0) else if i < 12 then (if i - 6 < j then nI (gpl g (4 * (i - 6) + 2)) else 0) else 0
theorem r_s161 (lT : LAY A T) (hg : GB g) (hP : pI T 1224 (A 60) = nI (gP g)) (hr : ∀ i, i < 4 * gP g → pA T (A 67) i = nI (gpl g i)) : ∀ (m j f : Nat) (u : Nat → Int32), j + m = gP g → m < f → (∀ i, i < 50 → u i = s1F g j i) → ∃ u', b_X12_sets_161 n f (A 60) (nI j) (sF T (A 81) u) = b_X12_sets_212 n (A 60) (sF T (A 81) u') ∧ ∀ i, i < 50 → u' i = s1F g (gP g) i := by
  have hb := hg.b
  have n1 : A 67 ≠ A 81 := lT.ne (by decide) (by decide) (by decide)
  intro m
  induction m with
  | zero =>
    intro j f u h1 h2 h3
    obtain ⟨f, rfl⟩ : ∃ g, f = g + 1 := ⟨f - 1, by omega⟩
    rw [b_X12_sets_161, pI_sF, hP, if_pos (nI_le (by omega) (by omega))]
    exact ⟨u, rfl, fun i hi => by rw [h3 i hi, show j = gP g by omega]⟩
  | succ m ih =>
    intro j f u h1 h2 h3
    obtain ⟨f, rfl⟩ : ∃ g, f = g + 1 := ⟨f - 1, by omega⟩
    rw [b_X12_sets_161, pI_sF, hP, if_neg (nI_ge (by omega) (by omega)), pR_sF, lT.r60_1247, ob_mk, lT.r60_1214, ob_mk, pN_sF, lT.n67, show (4 : Int32) * nI j = nI (4 * j) from nI_mulp 4 j, nI_1, ck_pos (ix_nI (by omega) (by decide)), lT.n81, show (0 : Int32) + nI j = nI j from by rw [show (0 : Int32) = nI 0 from rfl, nI_add, Nat.zero_add], ck_pos (ix_nI (by omega) (by decide)), lt_mk, nI_clamp (by omega), nI_clamp (by omega), pA_sF, if_neg n1, hr _ (by omega), sA_sF, pR_sF, lT.r60_1247, ob_mk, lT.r60_1214, ob_mk, pN_sF, lT.n67, show nI (4 * j) + (2 : Int32) = nI (4 * j + 2) from nI_add _ _, ck_pos (ix_nI (by omega) (by decide)), lT.n81, show (6 : Int32) + nI j = nI (6 + j) from nI_add _ _, ck_pos (ix_nI (by omega) (by decide)), lt_mk, nI_clamp (by omega), nI_clamp (by omega), pA_sF, if_neg n1, hr _ (by omega), sA_sF, show nI j + 1 = nI (j + 1) from nI_1 j]
    refine ih (j + 1) f _ (by omega) (by omega) (fun i hi => ?_)
    unfold upd
    by_cases e1 : i = 6 + j
    · subst e1
      rw [if_pos rfl]
      unfold s1F
      rw [if_neg (by omega), if_pos (by omega), if_pos (by omega), show 6 + j - 6 = j by omega]
    · rw [if_neg e1]
      by_cases e2 : i = j
      · subst e2
        rw [if_pos rfl]
        unfold s1F
        rw [if_pos (by omega), if_pos (by omega)]
      · rw [if_neg e2, h3 i hi]
        unfold s1F
        by_cases c1 : i < 6
        · rw [if_pos c1, if_pos c1]
          by_cases c2 : i < j
          · rw [if_pos c2, if_pos (by omega)]
          · rw [if_neg c2, if_neg (by omega)]
        · rw [if_neg c1, if_neg c1]
          by_cases c3 : i < 12
          · rw [if_pos c3, if_pos c3]
            by_cases c2 : i - 6 < j
            · rw [if_pos c2, if_pos (by omega)]
            · rw [if_neg c2, if_neg (by omega)]
          · rw [if_neg c3, if_neg c3]
def s2F (g : GH) (j i : Nat) : Int32 := if 18 ≤ i ∧ i < 30 then (if i - 18 < j ∧ i - 18 < gW g then 1 else 0) else s1F g (gP g) i
theorem r_s214 (lT : LAY A T) (hg : GB g) (hP : pI T 1225 (A 60) = nI (gW g)) : ∀ (m j f : Nat) (u : Nat → Int32), j + m = 12 → m < f → (∀ i, i < 50 → u i = s2F g j i) → ∃ u', b_X12_sets_214 n f (A 60) (nI j) (sF T (A 81) u) = b_X12_sets_248 n (A 60) (sF T (A 81) u') ∧ ∀ i, i < 50 → u' i = s2F g 12 i := by
  have hb := hg.b
  intro m
  induction m with
  | zero =>
    intro j f u h1 h2 h3
    obtain ⟨f, rfl⟩ : ∃ g, f = g + 1 := ⟨f - 1, by omega⟩
    rw [b_X12_sets_214, if_pos (show (12 : Int32) ≤ nI j from nI_le (a := 12) (by omega) (by omega))]
    exact ⟨u, rfl, fun i hi => by rw [h3 i hi, show j = 12 by omega]⟩
  | succ m ih =>
    intro j f u h1 h2 h3
    obtain ⟨f, rfl⟩ : ∃ g, f = g + 1 := ⟨f - 1, by omega⟩
    have key : ∀ v, (v = if j < gW g then (1 : Int32) else 0) → ∃ u', b_X12_sets_241 n (b_X12_sets_214 n f) (A 60) (nI j) (A 81) ((18 : Int32) + nI j) v (sF T (A 81) u) = b_X12_sets_248 n (A 60) (sF T (A 81) u') ∧ ∀ i, i < 50 → u' i = s2F g 12 i := by
      intro v hv
      rw [b_X12_sets_241, pN_sF, lT.n81, show (18 : Int32) + nI j = nI (18 + j) from nI_add _ _, ck_pos (ix_nI (by omega) (by decide)), nI_clamp (by omega), sA_sF, show nI j + 1 = nI (j + 1) from nI_1 j]
      refine ih (j + 1) f _ (by omega) (by omega) (fun i hi => ?_)
      unfold upd
      by_cases e1 : i = 18 + j
      · subst e1
        rw [if_pos rfl, hv]
        unfold s2F
        rw [if_pos (show 18 ≤ 18 + j ∧ 18 + j < 30 by omega), show 18 + j - 18 = j by omega]
        by_cases c : j < gW g
        · rw [if_pos c, if_pos (by omega)]
        · rw [if_neg c, if_neg (by omega)]
      · rw [if_neg e1, h3 i hi]
        unfold s2F
        by_cases c1 : 18 ≤ i ∧ i < 30
        · rw [if_pos c1, if_pos c1]
          by_cases c2 : i - 18 < j ∧ i - 18 < gW g
          · rw [if_pos c2, if_pos (by omega)]
          · rw [if_neg c2, if_neg (by omega)]
        · rw [if_neg c1, if_neg c1]
    rw [b_X12_sets_214, if_neg (show ¬ (12 : Int32) ≤ nI j from nI_ge (b := 12) (by omega) (by decide)), pR_sF, lT.r60_1247, ob_mk, pI_sF, hP]
    by_cases c : j < gW g
    · rw [if_neg (nI_ge c (by omega))]
      exact key 1 (by rw [if_pos c])
    · rw [if_pos (nI_le (by omega) (by omega))]
      exact key 0 (by rw [if_neg c])
def s3F (g : GH) (j i : Nat) : Int32 := if 42 ≤ i ∧ i < 45 then (if i - 42 < j then nI (gmi g (3 * (i - 42) + 1)) else 0) else s2F g 12 i
theorem r_s250 (lT : LAY A T) (hg : GB g) (hP : pI T 1226 (A 60) = nI (gM g)) (hr : ∀ i, i < 3 * gM g → pA T (A 69) i = nI (gmi g i)) : ∀ (m j f : Nat) (u : Nat → Int32), j + m = gM g → m < f → (∀ i, i < 50 → u i = s3F g j i) → ∃ u', b_X12_sets_250 n f (A 60) (nI j) (sF T (A 81) u) = b_X12_sets_283 n (A 60) (sF T (A 81) u') ∧ ∀ i, i < 50 → u' i = s3F g (gM g) i := by
  have hb := hg.b
  have n1 : A 69 ≠ A 81 := lT.ne (by decide) (by decide) (by decide)
  intro m
  induction m with
  | zero =>
    intro j f u h1 h2 h3
    obtain ⟨f, rfl⟩ : ∃ g, f = g + 1 := ⟨f - 1, by omega⟩
    rw [b_X12_sets_250, pI_sF, hP, if_pos (nI_le (by omega) (by omega))]
    exact ⟨u, rfl, fun i hi => by rw [h3 i hi, show j = gM g by omega]⟩
  | succ m ih =>
    intro j f u h1 h2 h3
    obtain ⟨f, rfl⟩ : ∃ g, f = g + 1 := ⟨f - 1, by omega⟩
    rw [b_X12_sets_250, pI_sF, hP, if_neg (nI_ge (by omega) (by omega)), pR_sF, lT.r60_1247, ob_mk, lT.r60_1216, ob_mk, pN_sF, lT.n69, show (3 : Int32) * nI j = nI (3 * j) from nI_mulp 3 j, nI_1, ck_pos (ix_nI (by omega) (by decide)), lT.n81, show (42 : Int32) + nI j = nI (42 + j) from nI_add _ _, ck_pos (ix_nI (by omega) (by decide)), lt_mk, nI_clamp (by omega), nI_clamp (by omega), pA_sF, if_neg n1, hr _ (by omega), sA_sF, show nI j + 1 = nI (j + 1) from nI_1 j]
    refine ih (j + 1) f _ (by omega) (by omega) (fun i hi => ?_)
    unfold upd
    by_cases e1 : i = 42 + j
    · subst e1
      rw [if_pos rfl]
      unfold s3F
      rw [if_pos (by omega), if_pos (by omega), show 42 + j - 42 = j by omega]
    · rw [if_neg e1, h3 i hi]
      unfold s3F
      by_cases c1 : 42 ≤ i ∧ i < 45
      · rw [if_pos c1, if_pos c1]
        by_cases c2 : i - 42 < j
        · rw [if_pos c2, if_pos (by omega)]
        · rw [if_neg c2, if_neg (by omega)]
      · rw [if_neg c1, if_neg c1]
theorem s3F_st (hg : GB g) (i : Nat) (hi : i < 50) : s3F g (gM g) i = stF g i := by
  have hb := hg.b
  unfold s3F s2F s1F stF
  by_cases c1 : i < 6
  · rw [if_neg (by omega), if_neg (by omega), if_pos c1, if_pos c1]
  by_cases c2 : i < 12
  · rw [if_neg (by omega), if_neg (by omega), if_neg c1, if_pos c2, if_neg c1, if_pos c2]
  by_cases c3 : i < 18
  · rw [if_neg (by omega), if_neg (by omega), if_neg c1, if_neg c2, if_neg c1, if_neg c2, if_pos c3]
  by_cases c4 : i < 30
  · rw [if_neg (by omega), if_pos (by omega), if_neg c1, if_neg c2, if_neg c3, if_pos c4]
    by_cases c : i - 18 < gW g
    · rw [if_pos (by omega), if_pos c]
    · rw [if_neg (by omega), if_neg c]
  by_cases c5 : i < 42
  · rw [if_neg (by omega), if_neg (by omega), if_neg c1, if_neg c2, if_neg c1, if_neg c2, if_neg c3, if_neg c4, if_pos c5]
  by_cases c6 : i < 45
  · rw [if_pos (by omega), if_neg c1, if_neg c2, if_neg c3, if_neg c4, if_neg c5, if_pos c6]
  · rw [if_neg (by omega), if_neg (by omega), if_neg c1, if_neg c2, if_neg c1, if_neg c2, if_neg c3, if_neg c4, if_neg c5, if_neg c6]
def FsL : List Nat := [1224, 1225, 1226, 1227, 1228, 1229, 1251, 1241, 1272, 1242]
def AsL : List Nat := [67, 68, 69, 70, 75, 80, 81]
theorem r_cp {x y K : Nat} (lT : LAY A T) (hx : x < 92) (hy : y < 92) (hxy : x ≠ y) (n1 : pN T (A x) = K) (n2 : pN T (A y) = K) (hK : K < 1000) (hn : 20000 ≤ n) : ∃ T', m_X12_copies n (A 60) (A x) (A y) (nI K) T = some T' ∧ FX [] [] [y] A T T' ∧ ∀ i, i < K → pA T' (A y) i = pA T (A x) i := ⟨_, sp_copies (lT.ne hx hy hxy) (by omega) (by omega) (by omega) (by omega) (by omega), (FX.rf _ _ _ _ _).wF (by simp), fun i hi => by rw [pA_sF, if_pos rfl]; unfold mixr; rw [if_pos hi]⟩
theorem r_setsA (hn : 20000 ≤ n) (lT : LAY A T) (hC : CI A g S T) : ∃ T', m_X12_sets n (A 60) T = some T' ∧ FX FsL [] AsL A T T' ∧ CM g T' A ∧ (∀ i, i < 50 → pA T' (A 80) i = stF g i) ∧ (pI T' 1251 (A 60) = 0 ∧ pI T' 1241 (A 60) = 0 ∧ pI T' 1272 (A 60) = 0 ∧ pI T' 1242 (A 60) = 0) ∧ pA T' (A 75) 0 = 0 ∧ pA T' (A 75) 1 = 0 := by
  obtain ⟨hg, _, ⟨c1, c2, c3, c4, c5, c6⟩, _, d1, d2, d3, d4⟩ := hC
  have hb := hg.b
  have k0 : FX FsL [] AsL A T (sI (sI (sI (sI (sI (sI T 1224 (A 60) (nI (gP g))) 1225 (A 60) (nI (gW g))) 1226 (A 60) (nI (gM g))) 1227 (A 60) (nI (gK g))) 1228 (A 60) (nI (gLk g))) 1229 (A 60) (nI (gSh g))) := ((((((FX.rf _ _ _ _ _).wI (by decide)).wI (by decide)).wI (by decide)).wI (by decide)).wI (by decide)).wI (by decide)
  have l0 := k0.lay lT (by decide) (by decide)
  have y1 : pI (sI (sI (sI (sI (sI (sI T 1224 (A 60) (nI (gP g))) 1225 (A 60) (nI (gW g))) 1226 (A 60) (nI (gM g))) 1227 (A 60) (nI (gK g))) 1228 (A 60) (nI (gLk g))) 1229 (A 60) (nI (gSh g))) 1224 (A 60) = nI (gP g) := by rw [pI_n (by decide), pI_n (by decide), pI_n (by decide), pI_n (by decide), pI_n (by decide), pI_e]
  have y2 : pI (sI (sI (sI (sI (sI (sI T 1224 (A 60) (nI (gP g))) 1225 (A 60) (nI (gW g))) 1226 (A 60) (nI (gM g))) 1227 (A 60) (nI (gK g))) 1228 (A 60) (nI (gLk g))) 1229 (A 60) (nI (gSh g))) 1225 (A 60) = nI (gW g) := by rw [pI_n (by decide), pI_n (by decide), pI_n (by decide), pI_n (by decide), pI_e]
  have y3 : pI (sI (sI (sI (sI (sI (sI T 1224 (A 60) (nI (gP g))) 1225 (A 60) (nI (gW g))) 1226 (A 60) (nI (gM g))) 1227 (A 60) (nI (gK g))) 1228 (A 60) (nI (gLk g))) 1229 (A 60) (nI (gSh g))) 1226 (A 60) = nI (gM g) := by rw [pI_n (by decide), pI_n (by decide), pI_n (by decide), pI_e]
  have y4 : pI (sI (sI (sI (sI (sI (sI T 1224 (A 60) (nI (gP g))) 1225 (A 60) (nI (gW g))) 1226 (A 60) (nI (gM g))) 1227 (A 60) (nI (gK g))) 1228 (A 60) (nI (gLk g))) 1229 (A 60) (nI (gSh g))) 1227 (A 60) = nI (gK g) := by rw [pI_n (by decide), pI_n (by decide), pI_e]
  have y5 : pI (sI (sI (sI (sI (sI (sI T 1224 (A 60) (nI (gP g))) 1225 (A 60) (nI (gW g))) 1226 (A 60) (nI (gM g))) 1227 (A 60) (nI (gK g))) 1228 (A 60) (nI (gLk g))) 1229 (A 60) (nI (gSh g))) 1228 (A 60) = nI (gLk g) := by rw [pI_n (by decide), pI_e]
  have y6 : pI (sI (sI (sI (sI (sI (sI T 1224 (A 60) (nI (gP g))) 1225 (A 60) (nI (gW g))) 1226 (A 60) (nI (gM g))) 1227 (A 60) (nI (gK g))) 1228 (A 60) (nI (gLk g))) 1229 (A 60) (nI (gSh g))) 1229 (A 60) = nI (gSh g) := pI_e ..
  have run0 : m_X12_sets n (A 60) T = lt_ (sI (sI (sI (sI (sI (sI T 1224 (A 60) (nI (gP g))) 1225 (A 60) (nI (gW g))) 1226 (A 60) (nI (gM g))) 1227 (A 60) (nI (gK g))) 1228 (A 60) (nI (gLk g))) 1229 (A 60) (nI (gSh g))) fun S_3 => Option.bind (pR S_3 1210 (A 60)) fun q4 => Option.bind (pR S_3 1214 (A 60)) fun q5 => Option.bind (m_X12_copies n (A 60) q4 q5 24 S_3) fun S_6 => Option.bind (pR S_6 1211 (A 60)) fun q9 => Option.bind (pR S_6 1215 (A 60)) fun q10 => Option.bind (m_X12_copies n (A 60) q9 q10 48 S_6) fun S_11 => Option.bind (pR S_11 1212 (A 60)) fun q14 => Option.bind (pR S_11 1216 (A 60)) fun q15 => Option.bind (m_X12_copies n (A 60) q14 q15 9 S_11) fun S_16 => Option.bind (pR S_16 1213 (A 60)) fun q19 => Option.bind (pR S_16 1217 (A 60)) fun q20 => Option.bind (m_X12_copies n (A 60) q19 q20 6 S_16) fun S_21 => Option.bind (pR S_21 1234 (A 60)) fun q24 => ck (ix 0 (pN S_21 q24)) (dix _ _) (Option.bind (pR (sA S_21 q24 (Int32.toNatClampNeg 0) 0) 1234 (A 60)) fun q26 => ck (ix 1 (pN (sA S_21 q24 (Int32.toNatClampNeg 0) 0) q26)) (dix _ _) (lt_ (sA (sA S_21 q24 (Int32.toNatClampNeg 0) 0) q26 (Int32.toNatClampNeg 1) 0) fun S_28 => b_X12_sets_140 n n (A 60) 0 (sI (sI (sI (sI S_28 1251 (A 60) 0) 1241 (A 60) 0) 1272 (A 60) 0) 1242 (A 60) 0))) := by
    unfold m_X12_sets
    rw [lt_mk, lt_mk, c1, pI_n (by decide), c2, pI_n (by decide), pI_n (by decide), c3, pI_n (by decide), pI_n (by decide), pI_n (by decide), c4, pI_n (by decide), pI_n (by decide), pI_n (by decide), pI_n (by decide), c5, pI_n (by decide), pI_n (by decide), pI_n (by decide), pI_n (by decide), pI_n (by decide), c6]
  rw [run0, lt_mk]
  have hAA : ∀ c i, pA (sI (sI (sI (sI (sI (sI T 1224 (A 60) (nI (gP g))) 1225 (A 60) (nI (gW g))) 1226 (A 60) (nI (gM g))) 1227 (A 60) (nI (gK g))) 1228 (A 60) (nI (gLk g))) 1229 (A 60) (nI (gSh g))) c i = pA T c i := fun c i => by rw [pA_sI, pA_sI, pA_sI, pA_sI, pA_sI, pA_sI]
  generalize sI (sI (sI (sI (sI (sI T 1224 (A 60) (nI (gP g))) 1225 (A 60) (nI (gW g))) 1226 (A 60) (nI (gM g))) 1227 (A 60) (nI (gK g))) 1228 (A 60) (nI (gLk g))) 1229 (A 60) (nI (gSh g)) = T0 at *
  obtain ⟨T1, a1, k1, w1⟩ := r_cp (n := n) (A := A) (T := T0) (x := 63) (y := 67) (K := 24) l0 (by decide) (by decide) (by decide) l0.n63 l0.n67 (by decide) hn
  have l1 := k1.lay l0 (by decide) (by decide)
  obtain ⟨T2, a2, k2, w2⟩ := r_cp (n := n) (A := A) (T := T1) (x := 64) (y := 68) (K := 48) l1 (by decide) (by decide) (by decide) l1.n64 l1.n68 (by decide) hn
  have l2 := k2.lay l1 (by decide) (by decide)
  obtain ⟨T3, a3, k3, w3⟩ := r_cp (n := n) (A := A) (T := T2) (x := 65) (y := 69) (K := 9) l2 (by decide) (by decide) (by decide) l2.n65 l2.n69 (by decide) hn
  have l3 := k3.lay l2 (by decide) (by decide)
  obtain ⟨T4, a4, k4, w4⟩ := r_cp (n := n) (A := A) (T := T3) (x := 66) (y := 70) (K := 6) l3 (by decide) (by decide) (by decide) l3.n66 l3.n70 (by decide) hn
  have l4 := k4.lay l3 (by decide) (by decide)
  have x67 : ∀ i, i < 4 * gP g → pA T4 (A 67) i = nI (gpl g i) := fun i hi => by rw [k4.W l3 (by decide) (by decide), k3.W l2 (by decide) (by decide), k2.W l1 (by decide) (by decide), w1 i (by omega), hAA, d1 i hi]
  have x68 : ∀ i, i < 4 * gW g → pA T4 (A 68) i = nI (gwa g i) := fun i hi => by rw [k4.W l3 (by decide) (by decide), k3.W l2 (by decide) (by decide), w2 i (by omega), k1.W l0 (by decide) (by decide), hAA, d2 i hi]
  have x69 : ∀ i, i < 3 * gM g → pA T4 (A 69) i = nI (gmi g i) := fun i hi => by rw [k4.W l3 (by decide) (by decide), w3 i (by omega), k2.W l1 (by decide) (by decide), k1.W l0 (by decide) (by decide), hAA, d3 i hi]
  have x70 : ∀ i, i < 2 * gK g → pA T4 (A 70) i = nI (gmo g i) := fun i hi => by rw [w4 i (by omega), k3.W l2 (by decide) (by decide), k2.W l1 (by decide) (by decide), k1.W l0 (by decide) (by decide), hAA, d4 i hi]
  have kA : FX [] [] [67, 68, 69, 70] A T0 T4 := (((k1.mono (by simp) (by simp) (by simp)).tr (k2.mono (by simp) (by simp) (by simp))).tr (k3.mono (by simp) (by simp) (by simp))).tr (k4.mono (by simp) (by simp) (by simp))
  rw [l0.r60_1210, ob_mk, l0.r60_1214, ob_mk, show m_X12_copies n (A 60) (A 63) (A 67) 24 T0 = some T1 from a1, ob_mk, l1.r60_1211, ob_mk, l1.r60_1215, ob_mk, show m_X12_copies n (A 60) (A 64) (A 68) 48 T1 = some T2 from a2, ob_mk, l2.r60_1212, ob_mk, l2.r60_1216, ob_mk, show m_X12_copies n (A 60) (A 65) (A 69) 9 T2 = some T3 from a3, ob_mk, l3.r60_1213, ob_mk, l3.r60_1217, ob_mk, show m_X12_copies n (A 60) (A 66) (A 70) 6 T3 = some T4 from a4, ob_mk, l4.r60_1234, ob_mk, l4.n75, ck_pos (show ix 0 2 from ix_nI (k := 0) (by decide) (by decide)), pR_sA, l4.r60_1234, ob_mk, pN_sA, l4.n75, ck_pos (show ix 1 2 from ix_nI (k := 1) (by decide) (by decide)), lt_mk, show Int32.toNatClampNeg 0 = 0 from rfl, show Int32.toNatClampNeg 1 = 1 from rfl]
  have k5 : FX [1251, 1241, 1272, 1242] [] [75] A T4 (sI (sI (sI (sI (sA (sA T4 (A 75) 0 0) (A 75) 1 0) 1251 (A 60) 0) 1241 (A 60) 0) 1272 (A 60) 0) 1242 (A 60) 0) := ((((((FX.rf _ _ _ _ _).wA (by decide)).wA (by decide)).wI (by decide)).wI (by decide)).wI (by decide)).wI (by decide)
  have u1 : pI (sI (sI (sI (sI (sA (sA T4 (A 75) 0 0) (A 75) 1 0) 1251 (A 60) 0) 1241 (A 60) 0) 1272 (A 60) 0) 1242 (A 60) 0) 1251 (A 60) = 0 := by rw [pI_n (by decide), pI_n (by decide), pI_n (by decide), pI_e]
  have u2 : pI (sI (sI (sI (sI (sA (sA T4 (A 75) 0 0) (A 75) 1 0) 1251 (A 60) 0) 1241 (A 60) 0) 1272 (A 60) 0) 1242 (A 60) 0) 1241 (A 60) = 0 := by rw [pI_n (by decide), pI_n (by decide), pI_e]
  have u3 : pI (sI (sI (sI (sI (sA (sA T4 (A 75) 0 0) (A 75) 1 0) 1251 (A 60) 0) 1241 (A 60) 0) 1272 (A 60) 0) 1242 (A 60) 0) 1272 (A 60) = 0 := by rw [pI_n (by decide), pI_e]
  have u4 : pI (sI (sI (sI (sI (sA (sA T4 (A 75) 0 0) (A 75) 1 0) 1251 (A 60) 0) 1241 (A 60) 0) 1272 (A 60) 0) 1242 (A 60) 0) 1242 (A 60) = 0 := pI_e ..
  have q0 : pA (sI (sI (sI (sI (sA (sA T4 (A 75) 0 0) (A 75) 1 0) 1251 (A 60) 0) 1241 (A 60) 0) 1272 (A 60) 0) 1242 (A 60) 0) (A 75) 0 = 0 := by rw [pA_sI, pA_sI, pA_sI, pA_sI, pA_sA, if_neg (by simp), pA_sA, if_pos ⟨rfl, rfl⟩]
  have q1 : pA (sI (sI (sI (sI (sA (sA T4 (A 75) 0 0) (A 75) 1 0) 1251 (A 60) 0) 1241 (A 60) 0) 1272 (A 60) 0) 1242 (A 60) 0) (A 75) 1 = 0 := by rw [pA_sI, pA_sI, pA_sI, pA_sI, pA_sA, if_pos ⟨rfl, rfl⟩]
  generalize sI (sI (sI (sI (sA (sA T4 (A 75) 0 0) (A 75) 1 0) 1251 (A 60) 0) 1241 (A 60) 0) 1272 (A 60) 0) 1242 (A 60) 0 = T5 at *
  have l5 := k5.lay l4 (by decide) (by decide)
  have P5 : pI T5 1224 (A 60) = nI (gP g) := by rw [k5.I l4 (by decide) (by decide) (by decide), kA.I l0 (by simp) (by decide) (by simp)]; exact y1
  have W5 : pI T5 1225 (A 60) = nI (gW g) := by rw [k5.I l4 (by decide) (by decide) (by decide), kA.I l0 (by simp) (by decide) (by simp)]; exact y2
  have M5 : pI T5 1226 (A 60) = nI (gM g) := by rw [k5.I l4 (by decide) (by decide) (by decide), kA.I l0 (by simp) (by decide) (by simp)]; exact y3
  obtain ⟨v1, r1, r1'⟩ := r_s140 (n := n) l5 50 0 n (pA T5 (A 81)) (by omega) (by omega) (fun i hi => by omega)
  rw [sF_self, nI_0] at r1
  obtain ⟨v2, r2, r2'⟩ := r_s161 (n := n) l5 hg P5 (fun i hi => by rw [k5.W l4 (by decide) (by decide)]; exact x67 i hi) (gP g) 0 n v1 (by omega) (by omega) (fun i hi => by
    rw [r1' i hi]
    unfold s1F
    by_cases c1 : i < 6
    · rw [if_pos c1, if_neg (by omega)]
    · rw [if_neg c1]
      by_cases c2 : i < 12
      · rw [if_pos c2, if_neg (by omega)]
      · rw [if_neg c2])
  rw [nI_0] at r2
  obtain ⟨v3, r3, r3'⟩ := r_s214 (n := n) l5 hg W5 12 0 n v2 (by omega) (by omega) (fun i hi => by
    rw [r2' i hi]
    unfold s2F
    by_cases c1 : 18 ≤ i ∧ i < 30
    · rw [if_pos c1, if_neg (by omega)]
      unfold s1F
      rw [if_neg (by omega), if_neg (by omega)]
    · rw [if_neg c1])
  rw [nI_0] at r3
  obtain ⟨v4, r4, r4'⟩ := r_s250 (n := n) l5 hg M5 (fun i hi => by rw [k5.W l4 (by decide) (by decide)]; exact x69 i hi) (gM g) 0 n v3 (by omega) (by omega) (fun i hi => by
    rw [r3' i hi]
    unfold s3F
    by_cases c1 : 42 ≤ i ∧ i < 45
    · rw [if_pos c1, if_neg (by omega)]
      unfold s2F s1F
      rw [if_neg (by omega), if_neg (by omega), if_neg (by omega)]
    · rw [if_neg c1])
  rw [nI_0] at r4
  have k6 : FX [] [] [81] A T5 (sF T5 (A 81) v4) := (FX.rf _ _ _ _ _).wF (by decide)
  have l6 := k6.lay l5 (by decide) (by decide)
  obtain ⟨T7, a7, k7, w7⟩ := r_cp (n := n) (A := A) (T := sF T5 (A 81) v4) (x := 81) (y := 80) (K := 50) l6 (by decide) (by decide) (by decide) l6.n81 l6.n80 (by decide) hn
  have fin : b_X12_sets_140 n n (A 60) 0 T5 = some T7 := by
    rw [r1, b_X12_sets_159, r2, b_X12_sets_212, r3, b_X12_sets_248, r4, b_X12_sets_283, l6.r60_1247, ob_mk, l6.r60_1246, ob_mk, show m_X12_copies n (A 60) (A 81) (A 80) 50 (sF T5 (A 81) v4) = some T7 from a7, ob_mk]
  have kB : FX [] [] [81, 80] A T5 T7 := (k6.mono (by simp) (by simp) (by simp)).tr (k7.mono (by simp) (by simp) (by simp))
  have l7 := kB.lay l5 (by decide) (by decide)
  refine ⟨T7, fin, ((k0.tr (kA.mono (by simp) (by simp) (by decide))).tr (k5.mono (by decide) (by decide) (by decide))).tr (kB.mono (by simp) (by simp) (by decide)), ⟨⟨?_, ?_, ?_, ?_, ?_, ?_⟩, fun i hi => ?_, fun i hi => ?_, fun i hi => ?_, fun i hi => ?_⟩, fun i hi => ?_, ⟨?_, ?_, ?_, ?_⟩, ?_, ?_⟩
  · rw [kB.I l5 (by simp) (by decide) (by simp)]; exact P5
  · rw [kB.I l5 (by simp) (by decide) (by simp)]; exact W5
  · rw [kB.I l5 (by simp) (by decide) (by simp)]; exact M5
  · rw [kB.I l5 (by simp) (by decide) (by simp), k5.I l4 (by decide) (by decide) (by decide), kA.I l0 (by simp) (by decide) (by simp)]; exact y4
  · rw [kB.I l5 (by simp) (by decide) (by simp), k5.I l4 (by decide) (by decide) (by decide), kA.I l0 (by simp) (by decide) (by simp)]; exact y5
  · rw [kB.I l5 (by simp) (by decide) (by simp), k5.I l4 (by decide) (by decide) (by decide), kA.I l0 (by simp) (by decide) (by simp)]; exact y6
  · rw [kB.W l5 (by decide) (by decide), k5.W l4 (by decide) (by decide)]; exact x67 i hi
  · rw [kB.W l5 (by decide) (by decide), k5.W l4 (by decide) (by decide)]; exact x68 i hi
  · rw [kB.W l5 (by decide) (by decide), k5.W l4 (by decide) (by decide)]; exact x69 i hi
  · rw [kB.W l5 (by decide) (by decide), k5.W l4 (by decide) (by decide)]; exact x70 i hi
  · rw [w7 i hi, pA_sF, if_pos rfl, r4' i hi, s3F_st hg i hi]
  · rw [kB.I l5 (by simp) (by decide) (by simp)]; exact u1
  · rw [kB.I l5 (by simp) (by decide) (by simp)]; exact u2
  · rw [kB.I l5 (by simp) (by decide) (by simp)]; exact u3
  · rw [kB.I l5 (by simp) (by decide) (by simp)]; exact u4
  · rw [kB.W l5 (by decide) (by decide)]; exact q0
  · rw [kB.W l5 (by decide) (by decide)]; exact q1
end
