/-! coast: what is told becomes the coast -/
def stF (g : GH) (i : Nat) : Int32 := if i < 6 then (if i < gP g then nI (gpl g (4 * i + 1)) else 0) else if i < 12 then (if i - 6 < gP g then nI (gpl g (4 * (i - 6) + 2)) else 0) else if i < 18 then 0 else if i < 30 then (if i - 18 < gW g then 1 else 0) else if i < 42 then 0 else if i < 45 then (if i - 42 < gM g then nI (gmi g (3 * (i - 42) + 1)) else 0) else 0
theorem stF_0 {g : GH} {p : Nat} (h6 : p < 6) (hp : p < gP g) : stF g p = nI (gpl g (4 * p + 1)) := by unfold stF; rw [if_pos h6, if_pos hp]
theorem stF_6 {g : GH} {p : Nat} (h6 : p < 6) (hp : p < gP g) : stF g (6 + p) = nI (gpl g (4 * p + 2)) := by unfold stF; rw [if_neg (by omega), if_pos (by omega), show 6 + p - 6 = p by omega, if_pos hp]
theorem stF_12 {g : GH} {p : Nat} (h6 : p < 6) : stF g (12 + p) = 0 := by unfold stF; rw [if_neg (by omega), if_neg (by omega), if_pos (by omega)]
theorem stF_18 {g : GH} {p : Nat} (h6 : p < 12) (hp : p < gW g) : stF g (18 + p) = 1 := by unfold stF; rw [if_neg (by omega), if_neg (by omega), if_neg (by omega), if_pos (by omega), show 18 + p - 18 = p by omega, if_pos hp]
theorem stF_30 {g : GH} {p : Nat} (h6 : p < 12) : stF g (30 + p) = 0 := by unfold stF; rw [if_neg (by omega), if_neg (by omega), if_neg (by omega), if_neg (by omega), if_pos (by omega)]
theorem stF_42 {g : GH} {p : Nat} (h6 : p < 3) (hp : p < gM g) : stF g (42 + p) = nI (gmi g (3 * p + 1)) := by unfold stF; rw [if_neg (by omega), if_neg (by omega), if_neg (by omega), if_neg (by omega), if_neg (by omega), if_pos (by omega), show 42 + p - 42 = p by omega, if_pos hp]
theorem stF_45 {g : GH} {i : Nat} (h : 45 ≤ i) : stF g i = 0 := by unfold stF; rw [if_neg (by omega), if_neg (by omega), if_neg (by omega), if_neg (by omega), if_neg (by omega), if_neg (by omega)]
theorem stF_sb {g : GH} (hg : GB g) : SB g (stF g) := by
  have hb := hg.b
  refine ⟨fun p hp => ⟨_, ?_, stF_0 (by omega) hp⟩, fun p hp => ⟨_, ?_, stF_6 (by omega) hp⟩, fun i hi => Or.inr (stF_18 (by omega) hi), fun m hm => ⟨_, ?_, stF_42 (by omega) hm⟩⟩
  · have := hg.2.1 (4 * p + 1) (by omega); omega
  · have := hg.2.1 (4 * p + 2) (by omega); omega
  · exact (hg.2.2.2.1 m hm).2.1
section
variable {A : Nat → Nat} {n : Nat} {S T : pq_S} {g : GH}
theorem TBC.fx {t c t' c' N : Nat} (h : TBC (A t) (A t') (A c) (A c') N S T) : FX [] [(902, t)] [c] A S T := ⟨⟨h.1, h.2.1, h.2.2.1, h.2.2.2.1, h.2.2.2.2.1⟩, fun f a _ q => h.2.2.2.2.2.2.1 f a (fun z => q (902, t) (by simp) z.1 z.2), fun a i q => h.2.2.2.2.2.2.2.2 a i (q c (by simp))⟩
/-- a cell of a table is put, is read -/
theorem x_putN {t c w r k N : Nat} {v : Int32} (h0 : pR S 900 (A t) = some (A c)) (hN : pN S (A c) = N) (hw : pI S 901 (A t) = nI w) (hi : w * r + k < N) (hb : N < 1000) : m_X9_put n (A t) (nI r) (nI k) v S = some (sA S (A c) (w * r + k) v) := by
  have ew : nI r * pI S 901 (A t) + nI k = nI (w * r + k) := by rw [hw, nI_mulp, nI_add, Nat.mul_comm]
  have := sp_put (n := n) (r := nI r) (k := nI k) (v := v) h0 (by omega) (by rw [ew]; exact nI_pos' (by omega)) (by rw [ew, nI_clamp (by omega)]; omega)
  rw [ew, nI_clamp (by omega)] at this
  exact this
theorem x_atN {t c w r k N : Nat} (h0 : pR S 900 (A t) = some (A c)) (hN : pN S (A c) = N) (hw : pI S 901 (A t) = nI w) (hi : w * r + k < N) (hb : N < 1000) : m_X9_at n (A t) (nI r) (nI k) S = some (pA S (A c) (w * r + k), S) := by
  have ew : nI r * pI S 901 (A t) + nI k = nI (w * r + k) := by rw [hw, nI_mulp, nI_add, Nat.mul_comm]
  have := sp_at (n := n) (r := nI r) (k := nI k) h0 (by omega) (by rw [ew]; exact nI_pos' (by omega)) (by rw [ew, nI_clamp (by omega)]; omega)
  rw [ew, nI_clamp (by omega)] at this
  exact this
theorem x_ow (hW : gW g ≤ 12) : ∀ (m j f : Nat) (S : pq_S), j + m = gW g → m < f → LAY A S → pI S 902 (A 16) = nI (gW g) → ∃ S', b_X8_openWants_2 n f (A 13) (nI j) S = some S' ∧ FX [] [] [17] A S S' ∧ (∀ i, j ≤ i → i < gW g → pA S' (A 17) (2 * i) = 1) ∧ ∀ i, (i < 2 * j ∨ i % 2 = 1) → pA S' (A 17) i = pA S (A 17) i := by
  intro m
  induction m with
  | zero =>
    intro j f S h1 h2 l h3
    obtain ⟨f, rfl⟩ : ∃ g, f = g + 1 := ⟨f - 1, by omega⟩
    rw [b_X8_openWants_2, l.r13_801, ob_mk, h3, if_pos (nI_le (by omega) (by omega))]
    exact ⟨S, rfl, FX.rf _ _ _ _ _, fun i q1 q2 => by omega, fun _ _ => rfl⟩
  | succ m ih =>
    intro j f S h1 h2 l h3
    obtain ⟨f, rfl⟩ : ∃ g, f = g + 1 := ⟨f - 1, by omega⟩
    have kk : FX [] [] [17] A S (sA S (A 17) (2 * j + 0) 1) := (FX.rf _ _ _ _ _).wA (by decide)
    obtain ⟨S', t1, t2, t3, t4⟩ := ih (j + 1) f (sA S (A 17) (2 * j + 0) 1) (by omega) (by omega) (kk.lay l (by decide) (by decide)) h3
    refine ⟨S', ?_, kk.tr t2, fun i q1 q2 => ?_, fun i hi => ?_⟩
    · rw [b_X8_openWants_2, l.r13_801, ob_mk, h3, if_neg (nI_ge (by omega) (by omega)), ob_mk, show m_X9_put n (A 16) (nI j) 0 1 S = some (sA S (A 17) (2 * j + 0) 1) from x_putN (k := 0) l.r16_900 l.n17 l.w16 (by omega) (by decide), ob_mk, show nI j + 1 = nI (j + 1) from nI_1 j]
      exact t1
    · by_cases e : i = j
      · subst e
        rw [t4 _ (Or.inl (by omega)), pA_sA, if_pos ⟨rfl, by omega⟩]
      · exact t3 i (by omega) q2
    · rw [t4 i (by omega), pA_sA, if_neg (fun q => by omega)]
theorem x_b120 (hg : GB g) : ∀ (m j f : Nat) (S : pq_S), j + m = gM g → m < f → LAY A S → pI S 902 (A 18) = nI (gM g) → (∀ i, i < 3 * gM g → pA S (A 10) i = nI (gmi g i)) → ∃ S', b_X8_begin_120 n f (A 13) (A 4) (nI j) S = b_X8_begin_155 n (A 13) S' ∧ FX [] [] [19] A S S' ∧ (∀ i, j ≤ i → i < gM g → pA S' (A 19) (2 * i) = nI (gmi g (3 * i + 1))) ∧ ∀ i, (i < 2 * j ∨ i % 2 = 1) → pA S' (A 19) i = pA S (A 19) i := by
  have hb := hg.b
  intro m
  induction m with
  | zero =>
    intro j f S h1 h2 l h3 h4
    obtain ⟨f, rfl⟩ : ∃ g, f = g + 1 := ⟨f - 1, by omega⟩
    rw [b_X8_begin_120, l.r13_802, ob_mk, h3, if_pos (nI_le (by omega) (by omega))]
    exact ⟨S, rfl, FX.rf _ _ _ _ _, fun i q1 q2 => by omega, fun _ _ => rfl⟩
  | succ m ih =>
    intro j f S h1 h2 l h3 h4
    obtain ⟨f, rfl⟩ : ∃ g, f = g + 1 := ⟨f - 1, by omega⟩
    have kk : FX [] [] [19] A S (sA S (A 19) (2 * j + 0) (nI (gmi g (3 * j + 1)))) := (FX.rf _ _ _ _ _).wA (by decide)
    obtain ⟨S', t1, t2, t3, t4⟩ := ih (j + 1) f _ (by omega) (by omega) (kk.lay l (by decide) (by decide)) h3 (fun i hi => by rw [kk.W l (by decide) (by decide)]; exact h4 i hi)
    refine ⟨S', ?_, kk.tr t2, fun i q1 q2 => ?_, fun i hi => ?_⟩
    · rw [b_X8_begin_120, l.r13_802, ob_mk, h3, if_neg (nI_ge (by omega) (by omega)), ob_mk, l.r4_102, ob_mk, show m_X9_at n (A 9) (nI j) 1 S = some (pA S (A 10) (3 * j + 1), S) from x_atN (k := 1) l.r9_900 l.n10 l.w9 (by omega) (by decide), cb_mk, h4 _ (by omega), show m_X9_put n (A 18) (nI j) 0 (nI (gmi g (3 * j + 1))) S = some (sA S (A 19) (2 * j + 0) (nI (gmi g (3 * j + 1)))) from x_putN (k := 0) l.r18_900 l.n19 l.w18 (by omega) (by decide), ob_mk, show nI j + 1 = nI (j + 1) from nI_1 j]
      exact t1
    · by_cases e : i = j
      · subst e
        rw [t4 _ (Or.inl (by omega)), pA_sA, if_pos ⟨rfl, by omega⟩]
      · exact t3 i (by omega) q2
    · rw [t4 i (by omega), pA_sA, if_neg (fun q => by omega)]
theorem x_b65 (hg : GB g) : ∀ (m j f : Nat) (S : pq_S), j + m = gP g → m < f → LAY A S → pI S 902 (A 14) = nI (gP g) → (∀ i, i < 4 * gP g → pA S (A 6) i = nI (gpl g i)) → ∃ S', b_X8_begin_65 n f (A 13) (A 4) (nI j) S = b_X8_begin_118 n (A 13) (A 4) S' ∧ FX [] [] [15] A S S' ∧ (∀ i, j ≤ i → i < gP g → pA S' (A 15) (3 * i) = nI (gpl g (4 * i + 1)) ∧ pA S' (A 15) (3 * i + 1) = nI (gpl g (4 * i + 2))) ∧ ∀ i, (i < 3 * j ∨ i % 3 = 2) → pA S' (A 15) i = pA S (A 15) i := by
  have hb := hg.b
  intro m
  induction m with
  | zero =>
    intro j f S h1 h2 l h3 h4
    obtain ⟨f, rfl⟩ : ∃ g, f = g + 1 := ⟨f - 1, by omega⟩
    rw [b_X8_begin_65, l.r13_800, ob_mk, h3, if_pos (nI_le (by omega) (by omega))]
    exact ⟨S, rfl, FX.rf _ _ _ _ _, fun i q1 q2 => by omega, fun _ _ => rfl⟩
  | succ m ih =>
    intro j f S h1 h2 l h3 h4
    obtain ⟨f, rfl⟩ : ∃ g, f = g + 1 := ⟨f - 1, by omega⟩
    have k1 : FX [] [] [15] A S (sA S (A 15) (3 * j + 0) (nI (gpl g (4 * j + 1)))) := (FX.rf _ _ _ _ _).wA (by decide)
    have l1 := k1.lay l (by decide) (by decide)
    have kk : FX [] [] [15] A S (sA (sA S (A 15) (3 * j + 0) (nI (gpl g (4 * j + 1)))) (A 15) (3 * j + 1) (nI (gpl g (4 * j + 2)))) := k1.wA (by decide)
    obtain ⟨S', t1, t2, t3, t4⟩ := ih (j + 1) f _ (by omega) (by omega) (kk.lay l (by decide) (by decide)) h3 (fun i hi => by rw [kk.W l (by decide) (by decide)]; exact h4 i hi)
    refine ⟨S', ?_, kk.tr t2, fun i q1 q2 => ?_, fun i hi => ?_⟩
    · rw [b_X8_begin_65, l.r13_800, ob_mk, h3, if_neg (nI_ge (by omega) (by omega)), ob_mk, l.r4_100, ob_mk, show m_X9_at n (A 5) (nI j) 1 S = some (pA S (A 6) (4 * j + 1), S) from x_atN (k := 1) l.r5_900 l.n6 l.w5 (by omega) (by decide), cb_mk, h4 _ (by omega), show m_X9_put n (A 14) (nI j) 0 (nI (gpl g (4 * j + 1))) S = some (sA S (A 15) (3 * j + 0) (nI (gpl g (4 * j + 1)))) from x_putN (k := 0) l.r14_900 l.n15 l.w14 (by omega) (by decide), ob_mk, l1.r13_800, ob_mk, l1.r4_100, ob_mk, show m_X9_at n (A 5) (nI j) 2 (sA S (A 15) (3 * j + 0) (nI (gpl g (4 * j + 1)))) = some (pA (sA S (A 15) (3 * j + 0) (nI (gpl g (4 * j + 1)))) (A 6) (4 * j + 2), sA S (A 15) (3 * j + 0) (nI (gpl g (4 * j + 1)))) from x_atN (k := 2) l1.r5_900 l1.n6 l1.w5 (by omega) (by decide), cb_mk, k1.W l (by decide) (by decide), h4 _ (by omega), show m_X9_put n (A 14) (nI j) 1 (nI (gpl g (4 * j + 2))) (sA S (A 15) (3 * j + 0) (nI (gpl g (4 * j + 1)))) = some (sA (sA S (A 15) (3 * j + 0) (nI (gpl g (4 * j + 1)))) (A 15) (3 * j + 1) (nI (gpl g (4 * j + 2)))) from x_putN (k := 1) l1.r14_900 l1.n15 l1.w14 (by omega) (by decide), ob_mk, show nI j + 1 = nI (j + 1) from nI_1 j]
      exact t1
    · by_cases e : i = j
      · subst e
        rw [t4 _ (Or.inl (by omega)), t4 _ (Or.inl (by omega))]
        exact ⟨by rw [pA_sA, if_neg (fun q => by omega), pA_sA, if_pos ⟨rfl, by omega⟩], by rw [pA_sA, if_pos ⟨rfl, rfl⟩]⟩
      · exact t3 i (by omega) q2
    · rw [t4 i (by omega), pA_sA, if_neg (fun q => by omega), pA_sA, if_neg (fun q => by omega)]
def F7 : List Nat := [902, 104, 105, 803, 804, 203]
def A7 : List Nat := [6, 8, 10, 12, 15, 17, 19]
theorem fx_mo {P : List (Nat × Nat)} {AA : List Nat} {X Y : pq_S} (h : FX [] P AA A X Y) (h1 : ∀ e ∈ P, e.1 ∈ F7) (h2 : ∀ j ∈ AA, j ∈ A7) : FX F7 [] A7 A X Y := ⟨h.1, fun f a q1 _ => h.2.1 f a (by simp) (fun e he q => absurd (q ▸ h1 e he) q1), fun a i q => h.2.2 a i (fun j hj => q j (h2 j hj))⟩
theorem x_cpC (lS : LAY A S) (hC : CI A g S T) : ∃ S', m_X1_copyFrom n (A 4) (A 39) S = some S' ∧ FX F7 [] A7 A S S' ∧ CX g S' A := by
  obtain ⟨hg, ⟨c1, c2, c3, c4, c5, c6⟩, _, ⟨d1, d2, d3, d4⟩, _⟩ := hC
  have hb := hg.b
  obtain ⟨S1, a1, b1⟩ := cp_tb n (a0 := A 5) (a1 := A 40) lS.r5_900 lS.r40_900 lS.n6 lS.n41 (by decide)
  have k1 := b1.fx
  have l1 := k1.lay lS (by decide) (by decide)
  obtain ⟨S2, a2, b2⟩ := cp_tb n (a0 := A 7) (a1 := A 42) l1.r7_900 l1.r42_900 l1.n8 l1.n43 (by decide)
  have k2 := b2.fx
  have l2 := k2.lay l1 (by decide) (by decide)
  obtain ⟨S3, a3, b3⟩ := cp_tb n (a0 := A 9) (a1 := A 44) l2.r9_900 l2.r44_900 l2.n10 l2.n45 (by decide)
  have k3 := b3.fx
  have l3 := k3.lay l2 (by decide) (by decide)
  obtain ⟨S4, a4, b4⟩ := cp_tb n (a0 := A 11) (a1 := A 46) l3.r11_900 l3.r46_900 l3.n12 l3.n47 (by decide)
  have k4 := b4.fx
  have l4 := k4.lay l3 (by decide) (by decide)
  have v5 : pI S4 902 (A 5) = nI (gP g) := by rw [k4.I l3 (by decide) (by decide) (by decide), k3.I l2 (by decide) (by decide) (by decide), k2.I l1 (by decide) (by decide) (by decide), b1.2.2.2.2.2.1, c1]
  have v7 : pI S4 902 (A 7) = nI (gW g) := by rw [k4.I l3 (by decide) (by decide) (by decide), k3.I l2 (by decide) (by decide) (by decide), b2.2.2.2.2.2.1, k1.I lS (by decide) (by decide) (by decide), c2]
  have v9 : pI S4 902 (A 9) = nI (gM g) := by rw [k4.I l3 (by decide) (by decide) (by decide), b3.2.2.2.2.2.1, k2.I l1 (by decide) (by decide) (by decide), k1.I lS (by decide) (by decide) (by decide), c3]
  have v11 : pI S4 902 (A 11) = nI (gK g) := by rw [b4.2.2.2.2.2.1, k3.I l2 (by decide) (by decide) (by decide), k2.I l1 (by decide) (by decide) (by decide), k1.I lS (by decide) (by decide) (by decide), c4]
  have v104 : pI S4 104 (A 39) = nI (gLk g) := by rw [k4.I l3 (by decide) (by decide) (by decide), k3.I l2 (by decide) (by decide) (by decide), k2.I l1 (by decide) (by decide) (by decide), k1.I lS (by decide) (by decide) (by decide), c5]
  have v105 : pI S4 105 (A 39) = nI (gSh g) := by rw [k4.I l3 (by decide) (by decide) (by decide), k3.I l2 (by decide) (by decide) (by decide), k2.I l1 (by decide) (by decide) (by decide), k1.I lS (by decide) (by decide) (by decide), c6]
  have w6 : ∀ i, i < 4 * gP g → pA S4 (A 6) i = nI (gpl g i) := fun i hi => by rw [k4.W l3 (by decide) (by decide), k3.W l2 (by decide) (by decide), k2.W l1 (by decide) (by decide), b1.2.2.2.2.2.2.2.1 i (by omega), d1 i hi]
  have w8 : ∀ i, i < 4 * gW g → pA S4 (A 8) i = nI (gwa g i) := fun i hi => by rw [k4.W l3 (by decide) (by decide), k3.W l2 (by decide) (by decide), b2.2.2.2.2.2.2.2.1 i (by omega), k1.W lS (by decide) (by decide), d2 i hi]
  have w10 : ∀ i, i < 3 * gM g → pA S4 (A 10) i = nI (gmi g i) := fun i hi => by rw [k4.W l3 (by decide) (by decide), b3.2.2.2.2.2.2.2.1 i (by omega), k2.W l1 (by decide) (by decide), k1.W lS (by decide) (by decide), d3 i hi]
  have w12 : ∀ i, i < 2 * gK g → pA S4 (A 12) i = nI (gmo g i) := fun i hi => by rw [b4.2.2.2.2.2.2.2.1 i (by omega), k3.W l2 (by decide) (by decide), k2.W l1 (by decide) (by decide), k1.W lS (by decide) (by decide), d4 i hi]
  have m4 : FX F7 [] A7 A S S4 := (((fx_mo k1 (by decide) (by decide)).tr (fx_mo k2 (by decide) (by decide))).tr (fx_mo k3 (by decide) (by decide))).tr (fx_mo k4 (by decide) (by decide))
  have k5 : FX F7 [] A7 A S4 (sI (sI S4 104 (A 4) (nI (gLk g))) 105 (A 4) (nI (gSh g))) := ((FX.rf _ _ _ _ _).wI (by decide)).wI (by decide)
  refine ⟨_, ?_, m4.tr k5, ⟨by rw [pI_n (by decide), pI_n (by decide)]; exact v5, by rw [pI_n (by decide), pI_n (by decide)]; exact v7, by rw [pI_n (by decide), pI_n (by decide)]; exact v9, by rw [pI_n (by decide), pI_n (by decide)]; exact v11, by rw [pI_n (by decide), pI_e], by rw [pI_e]⟩, w6, w8, w10, w12⟩
  unfold m_X1_copyFrom
  rw [lS.r4_100, ob_mk, lS.r39_100, ob_mk, a1, ob_mk, l1.r4_101, ob_mk, l1.r39_101, ob_mk, a2, ob_mk, l2.r4_102, ob_mk, l2.r39_102, ob_mk, a3, ob_mk, l3.r4_103, ob_mk, l3.r39_103, ob_mk, a4, ob_mk, lt_mk, v104, pI_n (by decide), v105]
/-- one table emptied, as a frame -/
theorem x_clrF {t c N : Nat} (h0 : pR S 900 (A t) = some (A c)) (hN : pN S (A c) = N) (hb : N < 1000) (hn : 20000 ≤ n) : ∃ S', m_X9_clear n (A t) S = some S' ∧ FX [] [(902, t)] [c] A S S' ∧ ∀ i, i < N → pA S' (A c) i = 0 := ⟨_, x_clr h0 hN hb hn, ((FX.rf _ _ _ _ _).wP (by simp)).wF (by simp), fun i hi => by rw [pA_sF, if_pos rfl]; unfold mixr; rw [if_pos hi]⟩
theorem sI902 (lS : LAY A S) {c d : Nat} {v : Int32} (hc : c < 92) (hd : d < 92) (h : c ≠ d) : pI (sI S 902 (A d) v) 902 (A c) = pI S 902 (A c) := by rw [pI_sI, if_neg (fun q => lS.ne hc hd h q.2)]
theorem x_clr3 (hn : 20000 ≤ n) (l5 : LAY A S) (cx : CX g S A) : ∃ S', (∀ R, b_X8_begin_65 n n (A 13) (A 4) 0 S' = R → m_X8_begin n (A 13) (A 4) S = R) ∧ FX F7 [] A7 A S S' ∧ CX g S' A ∧ (pI S' 902 (A 14) = nI (gP g) ∧ pI S' 902 (A 16) = nI (gW g) ∧ pI S' 902 (A 18) = nI (gM g)) ∧ (∀ i, i < 18 → pA S' (A 15) i = 0) ∧ (∀ i, i < 24 → pA S' (A 17) i = 0) ∧ ∀ i, i < 6 → pA S' (A 19) i = 0 := by
  obtain ⟨S6, e1, k6, z15⟩ := x_clrF (n := n) (A := A) (S := S) (t := 14) (c := 15) l5.r14_900 l5.n15 (by decide) hn
  have l6 := k6.lay l5 (by decide) (by decide)
  obtain ⟨S7, e2, k7, z17⟩ := x_clrF (n := n) (A := A) (S := S6) (t := 16) (c := 17) l6.r16_900 l6.n17 (by decide) hn
  have l7 := k7.lay l6 (by decide) (by decide)
  obtain ⟨S8, e3, k8, z19⟩ := x_clrF (n := n) (A := A) (S := S7) (t := 18) (c := 19) l7.r18_900 l7.n19 (by decide) hn
  have l8 := k8.lay l7 (by decide) (by decide)
  have u5 : pI S8 902 (A 5) = nI (gP g) := by rw [k8.I l7 (by decide) (by decide) (by decide), k7.I l6 (by decide) (by decide) (by decide), k6.I l5 (by decide) (by decide) (by decide)]; exact cx.1.1
  have u7 : pI S8 902 (A 7) = nI (gW g) := by rw [k8.I l7 (by decide) (by decide) (by decide), k7.I l6 (by decide) (by decide) (by decide), k6.I l5 (by decide) (by decide) (by decide)]; exact cx.1.2.1
  have u9 : pI S8 902 (A 9) = nI (gM g) := by rw [k8.I l7 (by decide) (by decide) (by decide), k7.I l6 (by decide) (by decide) (by decide), k6.I l5 (by decide) (by decide) (by decide)]; exact cx.1.2.2.1
  have u11 : pI S8 902 (A 11) = nI (gK g) := by rw [k8.I l7 (by decide) (by decide) (by decide), k7.I l6 (by decide) (by decide) (by decide), k6.I l5 (by decide) (by decide) (by decide)]; exact cx.1.2.2.2.1
  have u4 : pI S8 104 (A 4) = nI (gLk g) := by rw [k8.I l7 (by decide) (by decide) (by decide), k7.I l6 (by decide) (by decide) (by decide), k6.I l5 (by decide) (by decide) (by decide)]; exact cx.1.2.2.2.2.1
  have u4' : pI S8 105 (A 4) = nI (gSh g) := by rw [k8.I l7 (by decide) (by decide) (by decide), k7.I l6 (by decide) (by decide) (by decide), k6.I l5 (by decide) (by decide) (by decide)]; exact cx.1.2.2.2.2.2
  have lA : LAY A (sI S8 902 (A 14) (nI (gP g))) := l8.eqv rfl rfl rfl rfl (fun a => pI_n (by decide))
  have lB : LAY A (sI (sI S8 902 (A 14) (nI (gP g))) 902 (A 16) (nI (gW g))) := lA.eqv rfl rfl rfl rfl (fun a => pI_n (by decide))
  have k9 : FX [] [(902, 14), (902, 16), (902, 18)] [] A S8 (sI (sI (sI S8 902 (A 14) (nI (gP g))) 902 (A 16) (nI (gW g))) 902 (A 18) (nI (gM g))) := (((FX.rf _ _ _ _ _).wP (by decide)).wP (by decide)).wP (by decide)
  have hA : ∀ c i, pA (sI (sI (sI S8 902 (A 14) (nI (gP g))) 902 (A 16) (nI (gW g))) 902 (A 18) (nI (gM g))) c i = pA S8 c i := fun c i => by rw [pA_sI, pA_sI, pA_sI]
  refine ⟨_, fun R hR => ?_, ((fx_mo k6 (by decide) (by decide)).tr ((fx_mo k7 (by decide) (by decide)).tr (fx_mo k8 (by decide) (by decide)))).tr (fx_mo k9 (by decide) (by decide)), ⟨⟨?_, ?_, ?_, ?_, ?_, ?_⟩, fun i hi => ?_, fun i hi => ?_, fun i hi => ?_, fun i hi => ?_⟩, ⟨?_, ?_, pI_e ..⟩, fun i hi => ?_, fun i hi => ?_, fun i hi => ?_⟩
  · unfold m_X8_begin
    rw [l5.r13_800, ob_mk, e1, ob_mk, l6.r13_801, ob_mk, e2, ob_mk, l7.r13_802, ob_mk, e3, ob_mk, l8.r13_800, ob_mk, l8.r4_100, ob_mk, u5, lA.r13_801, ob_mk, lA.r4_101, ob_mk, lt_mk, sI902 l8 (c := 7) (d := 14) (by decide) (by decide) (by decide), u7, lB.r13_802, ob_mk, lB.r4_102, ob_mk, sI902 lA (c := 9) (d := 16) (by decide) (by decide) (by decide), sI902 l8 (c := 9) (d := 14) (by decide) (by decide) (by decide), u9]
    exact hR
  · rw [k9.I l8 (by decide) (by decide) (by decide)]; exact u5
  · rw [k9.I l8 (by decide) (by decide) (by decide)]; exact u7
  · rw [k9.I l8 (by decide) (by decide) (by decide)]; exact u9
  · rw [k9.I l8 (by decide) (by decide) (by decide)]; exact u11
  · rw [k9.I l8 (by decide) (by decide) (by decide)]; exact u4
  · rw [k9.I l8 (by decide) (by decide) (by decide)]; exact u4'
  · rw [hA, k8.W l7 (by decide) (by decide), k7.W l6 (by decide) (by decide), k6.W l5 (by decide) (by decide)]; exact cx.2.1 i hi
  · rw [hA, k8.W l7 (by decide) (by decide), k7.W l6 (by decide) (by decide), k6.W l5 (by decide) (by decide)]; exact cx.2.2.1 i hi
  · rw [hA, k8.W l7 (by decide) (by decide), k7.W l6 (by decide) (by decide), k6.W l5 (by decide) (by decide)]; exact cx.2.2.2.1 i hi
  · rw [hA, k8.W l7 (by decide) (by decide), k7.W l6 (by decide) (by decide), k6.W l5 (by decide) (by decide)]; exact cx.2.2.2.2 i hi
  · rw [sI902 lB (c := 14) (d := 18) (by decide) (by decide) (by decide), sI902 lA (c := 14) (d := 16) (by decide) (by decide) (by decide), pI_e]
  · rw [sI902 lB (c := 16) (d := 18) (by decide) (by decide) (by decide), pI_e]
  · rw [hA, k8.W l7 (by decide) (by decide), k7.W l6 (by decide) (by decide), z15 i hi]
  · rw [hA, k8.W l7 (by decide) (by decide), z17 i hi]
  · rw [hA, z19 i hi]
/-- the class's coast and state, begun -/
theorem x_begin7 (hn : 20000 ≤ n) (lS : LAY A S) (hC : CI A g S T) : ∃ S', m_X7_begin n (A 3) (A 39) S = some S' ∧ FX F7 [] A7 A S S' ∧ CX g S' A ∧ STX g S' (A 13) (A 14) (A 16) (A 18) (A 15) (A 17) (A 19) (stF g) ∧ pI S' 203 (A 20) = 0 ∧ pI S' 203 (A 24) = 0 := by
  have hg := hC.1
  have hb := hg.b
  obtain ⟨S5, hcp, m5, cx5⟩ := x_cpC (n := n) lS hC
  have l5 := m5.lay lS (by decide) (by decide)
  obtain ⟨S9, hrun, m9, cx9, ⟨y14, y16, y18⟩, z15, z17, z19⟩ := x_clr3 (n := n) hn l5 cx5
  have l9 := m9.lay l5 (by decide) (by decide)
  obtain ⟨S10, f1, f2, f3, f4⟩ := x_b65 (n := n) (A := A) hg (gP g) 0 n S9 (by omega) (by omega) l9 y14 cx9.2.1
  have l10 := f2.lay l9 (by decide) (by decide)
  obtain ⟨S11, h1, h2, h3, h4⟩ := x_b120 (n := n) (A := A) hg (gM g) 0 n S10 (by omega) (by omega) l10 (by rw [f2.I l9 (by decide) (by decide) (by decide)]; exact y18) (fun i hi => by rw [f2.W l9 (by decide) (by decide)]; exact cx9.2.2.2.1 i hi)
  have l11 := h2.lay l10 (by decide) (by decide)
  obtain ⟨S12, i1, i2, i3, i4⟩ := x_ow (n := n) (A := A) (g := g) hb.2.1 (gW g) 0 n S11 (by omega) (by omega) l11 (by rw [h2.I l10 (by decide) (by decide) (by decide), f2.I l9 (by decide) (by decide) (by decide)]; exact y16)
  have l12 := i2.lay l11 (by decide) (by decide)
  have fin : b_X8_begin_65 n n (A 13) (A 4) 0 S9 = some (sI (sI S12 803 (A 13) 0) 804 (A 13) 0) := by
    rw [show (0 : Int32) = nI 0 from rfl, f1, b_X8_begin_118, show (0 : Int32) = nI 0 from rfl, h1, b_X8_begin_155, m_X8_openWants, show (0 : Int32) = nI 0 from rfl, i1, ob_mk]
  have k12 : FX [] [] [15, 19, 17] A S9 S12 := ((f2.mono (by simp) (by simp) (by simp)).tr (h2.mono (by simp) (by simp) (by simp))).tr (i2.mono (by simp) (by simp) (by simp))
  have lC : LAY A (sI (sI S12 803 (A 13) 0) 804 (A 13) 0) := l12.eqv rfl rfl rfl rfl (fun a => by rw [pI_n (by decide), pI_n (by decide)])
  have lD : LAY A (sI (sI (sI S12 803 (A 13) 0) 804 (A 13) 0) 203 (A 20) 0) := lC.eqv rfl rfl rfl rfl (fun a => pI_n (by decide))
  have kE : FX F7 [] A7 A S12 (sI (sI (sI (sI S12 803 (A 13) 0) 804 (A 13) 0) 203 (A 20) 0) 203 (A 24) 0) := ((((FX.rf _ _ _ _ _).wI (by decide)).wI (by decide)).wI (by decide)).wI (by decide)
  have hA : ∀ c i, pA (sI (sI (sI (sI S12 803 (A 13) 0) 804 (A 13) 0) 203 (A 20) 0) 203 (A 24) 0) c i = pA S12 c i := fun c i => by rw [pA_sI, pA_sI, pA_sI, pA_sI]
  have hI : ∀ f a, f ≠ 203 → f ≠ 803 → f ≠ 804 → pI (sI (sI (sI (sI S12 803 (A 13) 0) 804 (A 13) 0) 203 (A 20) 0) 203 (A 24) 0) f a = pI S12 f a := fun f a q1 q2 q3 => by rw [pI_n q1, pI_n q1, pI_n q3, pI_n q2]
  refine ⟨_, ?_, ((m5.tr m9).tr (fx_mo k12 (by simp) (by decide))).tr kE, ⟨⟨?_, ?_, ?_, ?_, ?_, ?_⟩, fun i hi => ?_, fun i hi => ?_, fun i hi => ?_, fun i hi => ?_⟩, ⟨⟨?_, ?_, ?_, ?_, ?_⟩, fun p hp => ?_, fun i hi => ?_, fun m hm => ?_⟩, ?_, pI_e ..⟩
  · unfold m_X7_begin
    rw [lS.r3_700, ob_mk, hcp, ob_mk, l5.r3_701, ob_mk, l5.r3_700, ob_mk, hrun _ fin, ob_mk, lC.r3_702, ob_mk, lD.r3_703, ob_mk]
  · rw [hI _ _ (by decide) (by decide) (by decide), k12.I l9 (by simp) (by decide) (by simp)]; exact cx9.1.1
  · rw [hI _ _ (by decide) (by decide) (by decide), k12.I l9 (by simp) (by decide) (by simp)]; exact cx9.1.2.1
  · rw [hI _ _ (by decide) (by decide) (by decide), k12.I l9 (by simp) (by decide) (by simp)]; exact cx9.1.2.2.1
  · rw [hI _ _ (by decide) (by decide) (by decide), k12.I l9 (by simp) (by decide) (by simp)]; exact cx9.1.2.2.2.1
  · rw [hI _ _ (by decide) (by decide) (by decide), k12.I l9 (by simp) (by decide) (by simp)]; exact cx9.1.2.2.2.2.1
  · rw [hI _ _ (by decide) (by decide) (by decide), k12.I l9 (by simp) (by decide) (by simp)]; exact cx9.1.2.2.2.2.2
  · rw [hA, k12.W l9 (by decide) (by decide)]; exact cx9.2.1 i hi
  · rw [hA, k12.W l9 (by decide) (by decide)]; exact cx9.2.2.1 i hi
  · rw [hA, k12.W l9 (by decide) (by decide)]; exact cx9.2.2.2.1 i hi
  · rw [hA, k12.W l9 (by decide) (by decide)]; exact cx9.2.2.2.2 i hi
  · rw [hI _ _ (by decide) (by decide) (by decide), k12.I l9 (by simp) (by decide) (by simp)]; exact y14
  · rw [hI _ _ (by decide) (by decide) (by decide), k12.I l9 (by simp) (by decide) (by simp)]; exact y16
  · rw [hI _ _ (by decide) (by decide) (by decide), k12.I l9 (by simp) (by decide) (by simp)]; exact y18
  · rw [pI_n (by decide), pI_n (by decide), pI_n (by decide), pI_e, stF_45 (by decide)]
  · rw [pI_n (by decide), pI_n (by decide), pI_e, stF_45 (by decide)]
  · rw [hA, hA, hA, i2.W l11 (by decide) (by decide), i2.W l11 (by decide) (by decide), i2.W l11 (by decide) (by decide), h2.W l10 (by decide) (by decide), h2.W l10 (by decide) (by decide), h2.W l10 (by decide) (by decide), (f3 p (by omega) hp).1, (f3 p (by omega) hp).2, f4 (3 * p + 2) (by omega), z15 _ (by omega), stF_0 (by omega) hp, stF_6 (by omega) hp, stF_12 (by omega)]
    exact ⟨rfl, rfl, rfl⟩
  · rw [hA, hA, i3 i (by omega) hi, i4 (2 * i + 1) (by omega), h2.W l10 (by decide) (by decide), f2.W l9 (by decide) (by decide), z17 _ (by omega), stF_18 (by omega) hi, stF_30 (by omega)]
    exact ⟨rfl, rfl⟩
  · rw [hA, hA, i2.W l11 (by decide) (by decide), i2.W l11 (by decide) (by decide), h3 m (by omega) hm, h4 (2 * m + 1) (by omega), f2.W l9 (by decide) (by decide), z19 _ (by omega), stF_42 (by omega) hm, stF_45 (by omega)]
    exact ⟨rfl, rfl⟩
  · rw [pI_sI, if_neg (fun q => l12.ne (i := 20) (j := 24) (by decide) (by decide) (by decide) q.2), pI_e]
end
