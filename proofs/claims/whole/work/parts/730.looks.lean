/-- looks behind a first one at j of k nights -/
def vkF (L : Nat → Nat) (k j : Nat) : Nat := 1 + (if L j < L (k - j) then L (k - j) else L j)
/-- the first of the best looks: c more from the j-th on, b so far -/
def fbF (L : Nat → Nat) (k : Nat) : Nat → Nat → Nat → Nat
  | 0, _, b => b
  | c + 1, j, b => fbF L k c (j + 1) (if vkF L k j < vkF L k b then j else b)
def mnF (m k : Nat) : Nat := if m < k - 1 then m else k - 1
/-- the first look at k nights -/
def flF (L : Nat → Nat) (m k : Nat) : Nat := fbF L k (mnF m k - 1) 2 1
/-- looks for up to c + 1 nights -/
def lkT (m : Nat) : Nat → Nat → Nat
  | 0, _ => 0
  | c + 1, j => if j = c + 2 then vkF (lkT m c) (c + 2) (flF (lkT m c) m (c + 2)) else lkT m c j
theorem lkT_le (m : Nat) : ∀ c j, lkT m c j ≤ c := by
  intro c
  induction c with
  | zero => intro j; exact Nat.le_refl _
  | succ c ih =>
    intro j
    rw [lkT]
    split
    · unfold vkF
      have h1 := ih (flF (lkT m c) m (c + 2))
      have h2 := ih (c + 2 - flF (lkT m c) m (c + 2))
      split <;> omega
    · have := ih j; omega
theorem lkT_01 (m : Nat) : ∀ c j, j < 2 → lkT m c j = 0 := by
  intro c
  induction c with
  | zero => intro j _; rfl
  | succ c ih => intro j hj; rw [lkT, if_neg (by omega)]; exact ih j hj
theorem fb_rng {L : Nat → Nat} {k : Nat} : ∀ c j b, 1 ≤ b → b < k → j + c ≤ k → 1 ≤ j → 1 ≤ fbF L k c j b ∧ fbF L k c j b < k := by
  intro c
  induction c with
  | zero => intro j b h1 h2 _ _; exact ⟨h1, h2⟩
  | succ c ih =>
    intro j b h1 h2 h3 h4
    rw [fbF]
    by_cases q : vkF L k j < vkF L k b
    · rw [if_pos q]; exact ih (j + 1) j h4 (by omega) (by omega) (by omega)
    · rw [if_neg q]; exact ih (j + 1) b h1 h2 (by omega) (by omega)
theorem fl_rng {L : Nat → Nat} {m k : Nat} (hk : 2 ≤ k) : 1 ≤ flF L m k ∧ flF L m k < k := by
  unfold flF
  refine fb_rng _ _ _ (by omega) (by omega) ?_ (by omega)
  unfold mnF
  split <;> omega
theorem fl_eq {L : Nat → Nat} {m k : Nat} (hk : 2 ≤ k) : flF L m k = fbF L k (mnF m k + 1 - 2) 2 1 := by
  unfold flF
  rw [show mnF m k + 1 - 2 = mnF m k - 1 by omega]
section
variable {A : Nat → Nat} {T : pq_S} {n : Nat}
theorem x_vk {L : Nat → Nat} {k j : Nat} (hL : LAY A T) (hA : ∀ j, j < k → pA T (A 59) j = nI (L j)) (hb : ∀ j, L j ≤ 50) (h1 : 1 ≤ j) (h2 : j < k) (h3 : k ≤ 40) : m_X11_looksBehind n (A 0) (nI k) (nI j) T = some (nI (vkF L k j), T) := by
  have b1 := hb j
  have b2 := hb (k - j)
  unfold m_X11_looksBehind vkF
  rw [if_neg (nI_nle (by omega) (by omega)), if_neg (nI_ge h2 (by omega)), hL.r0_1111, ob_mk, hL.n59, ofN, if_neg (nI_ge (by omega) (by omega)), ob_mk, hL.n59, ck_pos (ixn (by omega) (by omega)), ob_mk, hL.n59, pk_sub (by omega), ck_pos (ixn (by omega) (by omega)), nI_clamp (show j < 2 ^ 31 by omega), nI_clamp (show k - j < 2 ^ 31 by omega), hA j (by omega), hA (k - j) (by omega)]
  by_cases c : L j < L (k - j)
  · rw [if_pos (nI_lt c (by omega)), if_pos c, show (1 : Int32) = nI 1 from rfl, nI_add]
  · rw [if_neg (nI_nlt (by omega) (by omega)), if_neg c, show (1 : Int32) = nI 1 from rfl, nI_add]
theorem vk_le {L : Nat → Nat} (hb : ∀ j, L j ≤ 50) (k j : Nat) : vkF L k j ≤ 51 := by
  have b1 := hb j
  have b2 := hb (k - j)
  unfold vkF
  split <;> omega
theorem x_fl {L : Nat → Nat} {k m : Nat} (hL : LAY A T) (hA : ∀ j, j < k → pA T (A 59) j = nI (L j)) (hb : ∀ j, L j ≤ 50) (h3 : k ≤ 40) (hk : 2 ≤ k) (hm : 1 ≤ m) (hm2 : m ≤ 40) : ∀ (f j b : Nat), 2 ≤ j → j ≤ mnF m k + 1 → mnF m k + 1 < j + f → 1 ≤ b → b < k → b_X11_firstLook_5 n f (A 0) (nI k) (nI m) (nI b) (nI j) T = some (nI (fbF L k (mnF m k + 1 - j) j b), T) := by
  have hmn : mnF m k ≤ m ∧ mnF m k ≤ k - 1 ∧ (mnF m k = m ∨ mnF m k = k - 1) := by unfold mnF; split <;> omega
  intro f
  induction f with
  | zero => intro j b h1 h2 h4; omega
  | succ f ih =>
    intro j b h1 h2 h4 h5 h6
    rw [b_X11_firstLook_5]
    by_cases c : mnF m k < j
    · rw [show mnF m k + 1 - j = 0 by omega, fbF]
      by_cases c1 : m < j
      · rw [if_pos (nI_lt c1 (by omega))]
      · rw [if_neg (nI_nlt (by omega) (by omega)), if_pos (nI_le (by omega) (by omega))]
    · have v1 := vk_le hb k j
      have v2 := vk_le hb k b
      rw [if_neg (nI_nlt (by omega) (by omega)), if_neg (nI_ge (by omega) (by omega)), x_vk hL hA hb (by omega) (by omega) h3, cb_mk, x_vk hL hA hb h5 h6 h3, cb_mk, show mnF m k + 1 - j = (mnF m k + 1 - (j + 1)) + 1 by omega, fbF]
      by_cases c2 : vkF L k j < vkF L k b
      · rw [if_neg (nI_ge c2 (by omega)), if_pos c2, b_X11_firstLook_36, nI_1]
        exact ih (j + 1) j (by omega) (by omega) (by omega) (by omega) (by omega)
      · rw [if_pos (nI_le (by omega) (by omega)), if_neg c2, b_X11_firstLook_36, nI_1]
        exact ih (j + 1) b (by omega) (by omega) (by omega) h5 h6
theorem x_looks {V : Nat → Prop} {g : GH} {S : pq_S} {N m bc bs : Nat} {w : Int32} {E : Nat → pq_S → Prop} {Q : Int32 → pq_S → Prop} (hn : 100 ≤ n) (hN : N ≤ 40) (hN1 : 1 ≤ N) (hm : 1 ≤ m) (hm2 : m ≤ 40) (hJ : JG A V g S) : ∀ (f c fi : Nat) (T : pq_S), c + 1 ≤ N → N < c + 1 + f → KPK A S T → (∀ j, j < c + 2 → pA T (A 59) j = nI (lkT m c j)) → (fi = if c = 0 then 0 else flF (lkT m (c - 1)) m (c + 1)) → (∀ T', KPK A S T' → (∀ j, j ≤ N → pA T' (A 59) j = nI (lkT m (N - 1) j)) → pb_X11_looks_80 n (A 0) (nI N) w (nI (if N = 1 then 0 else flF (lkT m (N - 2)) m N)) T' bc bs E Q) → pb_X11_looks_44 n f (A 0) (nI N) (nI m) w (nI fi) (nI (c + 2)) T bc bs E Q := by
  intro f
  induction f with
  | zero => intro c fi T h1 h2; omega
  | succ f ih =>
    intro c fi T h1 h2 hK hA hfi hQ
    rw [pb_X11_looks_44]
    by_cases c0 : N < c + 2
    · rw [if_pos (nI_lt c0 (by omega))]
      have e : N = c + 1 := by omega
      subst e
      have := hQ T hK (fun j hj => hA j (by omega))
      by_cases z : c = 0
      · subst z; rw [hfi]; exact this
      · rw [hfi, if_neg z]; rw [if_neg (by omega)] at this; exact this
    · rw [if_neg (nI_nlt (by omega) (by omega))]
      have hJ1 := hJ.kpk hK ⟨by rw [hA 0 (by omega), lkT_01 m c 0 (by decide)]; rfl, by rw [hA 1 (by omega), lkT_01 m c 1 (by decide)]; rfl⟩
      have hb : ∀ j, lkT m c j ≤ 50 := fun j => by have := lkT_le m c j; omega
      have hr := fl_rng (L := lkT m c) (m := m) (k := c + 2) (by omega)
      refine ⟨_, _, x_fl (n := n) hJ1.lay hA hb (k := c + 2) (by omega) (by omega) hm hm2 n 2 1 (by omega) ?_ ?_ (by omega) (by omega), _, hJ1.lay.r0_1111, _, _, x_vk hJ1.lay hA hb hr.1 hr.2 (by omega), by rw [hJ1.lay.n59]; exact ixn (by omega) (by omega), ?_⟩
      · unfold mnF; split <;> omega
      · have : mnF m (c + 2) ≤ 40 := by unfold mnF; split <;> omega
        omega
      · rw [nI_clamp (by omega), nI_1]
        refine ih (c + 1) _ _ (by omega) (by omega) (KPL.wA hK (by decide)) (fun j hj => ?_) ?_ hQ
        · rw [pA_sA, lkT]
          by_cases e : j = c + 2
          · rw [if_pos ⟨rfl, e⟩, if_pos e, fl_eq (by omega)]
          · rw [if_neg (fun q => e q.2), if_neg e]; exact hA j (by omega)
        · rw [if_neg (by omega), show c + 1 - 1 = c by omega, fl_eq (by omega)]
/-- the reference's row for k nights: c more from the j-th on -/
theorem r_lk {V : Nat → Prop} {g : GH} {S : pq_S} {k m N : Nat} {w : Int32} {L : Nat → Nat} (hk : 2 ≤ k) (h3 : k ≤ 40) (hm : 1 ≤ m) (hm2 : m ≤ 40) (hb : ∀ j, L j ≤ 50) (hJ : JG A V g S) {K : Nat → Int32 → Int32 → Int32 → Int32 → pq_S → Option (Int32 × pq_S)} : ∀ (f j b : Nat) (T : pq_S), 2 ≤ j → j ≤ mnF m k + 1 → mnF m k + 1 < j + f → 1 ≤ b → b < k → KP A S T → pI T 1200 (A 60) = 0 → (∀ i, 1 ≤ i → i < k → pA T (A 88) i = nI (L i)) → pA T (A 88) k = nI (vkF L k b) → pA T (A 89) k = nI b → ∃ T', b_X12_looks_84 n K f (A 60) (nI N) (nI m) w (nI k) (nI j) T = K (A 60) (nI N) (nI m) w (nI (k + 1)) T' ∧ KP A S T' ∧ pI T' 1200 (A 60) = 0 ∧ (∀ i, 1 ≤ i → i < k → pA T' (A 88) i = nI (L i)) ∧ pA T' (A 88) k = nI (vkF L k (fbF L k (mnF m k + 1 - j) j b)) ∧ pA T' (A 89) k = nI (fbF L k (mnF m k + 1 - j) j b) ∧ ∀ i, i ≠ k → pA T' (A 89) i = pA T (A 89) i := by
  have hmn : mnF m k ≤ m ∧ mnF m k ≤ k - 1 ∧ (mnF m k = m ∨ mnF m k = k - 1) := by unfold mnF; split <;> omega
  have d : A 88 ≠ A 89 := hJ.lay.ne (by decide) (by decide) (by decide)
  intro f
  induction f with
  | zero => intro j b T h1 h2 h4; omega
  | succ f ih =>
    intro j b T h1 h2 h4 h5 h6 hK ht hA hV hF
    rw [b_X12_looks_84]
    by_cases c : mnF m k < j
    · refine ⟨T, ?_, hK, ht, hA, ?_, ?_, fun _ _ => rfl⟩
      · by_cases c1 : m < j
        · rw [if_pos (nI_lt c1 (by omega)), b_X12_looks_191, nI_1]
        · rw [if_neg (nI_nlt (by omega) (by omega)), if_pos (nI_le (by omega) (by omega)), b_X12_looks_191, nI_1]
      · rw [show mnF m k + 1 - j = 0 by omega, fbF]; exact hV
      · rw [show mnF m k + 1 - j = 0 by omega, fbF]; exact hF
    · have hJ1 := hJ.kp hK
      have v1 := vk_le hb k j
      have v2 := vk_le hb k b
      have b1 := hb j
      have b2 := hb (k - j)
      have cj : (nI j).toNatClampNeg = j := nI_clamp (by omega)
      have ckk : (nI k).toNatClampNeg = k := nI_clamp (by omega)
      have ckj : (nI (k - j)).toNatClampNeg = k - j := nI_clamp (by omega)
      rw [if_neg (nI_nlt (by omega) (by omega)), if_neg (nI_ge (by omega) (by omega)), pk_sub (show j ≤ k by omega), cj, ckj, hJ1.lay.r60_1262, ob_mk, hJ1.lay.n88, ck_pos (ixn (by omega) (by omega)), ob_mk, hJ1.lay.n88, ck_pos (ixn (by omega) (by omega)), hA j (by omega) (by omega), hA (k - j) (by omega) (by omega), show mnF m k + 1 - j = (mnF m k + 1 - (j + 1)) + 1 by omega, fbF]
      have X : ∀ z : Nat, z = (if L j < L (k - j) then L (k - j) else L j) → ∃ T', b_X12_looks_138 n K (b_X12_looks_84 n K f) (A 60) (nI N) (nI m) w (nI k) (nI j) 1 (nI z) T = K (A 60) (nI N) (nI m) w (nI (k + 1)) T' ∧ KP A S T' ∧ pI T' 1200 (A 60) = 0 ∧ (∀ i, 1 ≤ i → i < k → pA T' (A 88) i = nI (L i)) ∧ pA T' (A 88) k = nI (vkF L k (fbF L k (mnF m k + 1 - (j + 1)) (j + 1) (if vkF L k j < vkF L k b then j else b))) ∧ pA T' (A 89) k = nI (fbF L k (mnF m k + 1 - (j + 1)) (j + 1) (if vkF L k j < vkF L k b then j else b)) ∧ ∀ i, i ≠ k → pA T' (A 89) i = pA T (A 89) i := by
        intro z hz
        have hv : (1 : Int32) + nI z = nI (vkF L k j) := by rw [hz, show (1 : Int32) = nI 1 from rfl, nI_add]; rfl
        have e2 : ¬ nI (vkF L k b) = -1 := fun e => by
          have h9 : (nI (vkF L k b)).toInt = (-1 : Int32).toInt := congrArg Int32.toInt e
          rw [nI_toInt (by omega)] at h9
          have : (-1 : Int32).toInt = -1 := by decide
          omega
        rw [b_X12_looks_138, hJ1.lay.r60_1262, ob_mk, hJ1.lay.n88, ck_pos (ixn (by omega) (by omega)), ckk, hV, if_neg e2, ob_mk, hJ1.lay.n88, ck_pos (ixn (by omega) (by omega)), hv, hV]
        by_cases c2 : vkF L k j < vkF L k b
        · rw [if_pos (nI_lt c2 (by omega)), if_pos c2, b_X12_looks_167, hJ1.lay.r60_1262, ob_mk, hJ1.lay.n88, ck_pos (ixn (by omega) (by omega)), ckk, pR_sA, hJ1.lay.r60_1263, ob_mk, pN_sA, hJ1.lay.n89, ck_pos (ixn (by omega) (by omega)), lt_mk, b_X12_looks_185, nI_1]
          obtain ⟨T', a1, a2, a3, a4, a5, a6, a7⟩ := ih (j + 1) j (sA (sA T (A 88) k (nI (vkF L k j))) (A 89) k (nI j)) (by omega) (by omega) (by omega) (by omega) (by omega) (KPL.wA (KPL.wA hK (by decide)) (by decide)) ht (fun i q1 q2 => by
            rw [pA_sA, if_neg (fun q => d q.1), pA_sA, if_neg (fun q => by omega)]; exact hA i q1 q2) (by rw [pA_sA, if_neg (fun q => d q.1), pA_sA, if_pos ⟨rfl, rfl⟩]) (by rw [pA_sA, if_pos ⟨rfl, rfl⟩])
          exact ⟨T', a1, a2, a3, a4, a5, a6, fun i hi => by rw [a7 i hi, pA_sA, if_neg (fun q => hi q.2), pA_sA, if_neg (fun q => d q.1.symm)]⟩
        · rw [if_neg (nI_nlt (by omega) (by omega)), if_neg c2, b_X12_looks_185, nI_1]
          exact ih (j + 1) b T (by omega) (by omega) (by omega) h5 h6 hK ht hA hV hF
      by_cases c1 : L j ≤ L (k - j)
      · rw [if_pos (nI_le c1 (by omega)), ob_mk, hJ1.lay.n88, ck_pos (ixn (by omega) (by omega)), hA (k - j) (by omega) (by omega)]
        exact X (L (k - j)) (by split <;> omega)
      · rw [if_neg (nI_ge (by omega) (by omega)), ob_mk, hJ1.lay.n88, ck_pos (ixn (by omega) (by omega)), hA j (by omega) (by omega)]
        exact X (L j) (by split <;> omega)
theorem r_looks {V : Nat → Prop} {g : GH} {S : pq_S} {N m : Nat} {w : Int32} (hn : 100 ≤ n) (hN : N ≤ 40) (hN1 : 1 ≤ N) (hm : 1 ≤ m) (hm2 : m ≤ 40) (hJ : JG A V g S) : ∀ (f c : Nat) (T : pq_S), c + 1 ≤ N → N < c + 1 + f → KP A S T → pI T 1200 (A 60) = 0 → (∀ j, 1 ≤ j → j ≤ c + 1 → pA T (A 88) j = nI (lkT m c j)) → pA T (A 89) (c + 1) = nI (if c = 0 then 0 else flF (lkT m (c - 1)) m (c + 1)) → ∃ T', b_X12_looks_67 n f (A 60) (nI N) (nI m) w (nI (c + 2)) T = b_X12_looks_197 n (A 60) (nI N) w T' ∧ KP A S T' ∧ pI T' 1200 (A 60) = 0 ∧ pA T' (A 88) N = nI (lkT m (N - 1) N) ∧ pA T' (A 89) N = nI (if N = 1 then 0 else flF (lkT m (N - 2)) m N) := by
  have d : A 88 ≠ A 89 := hJ.lay.ne (by decide) (by decide) (by decide)
  intro f
  induction f with
  | zero => intro c T h1 h2; omega
  | succ f ih =>
    intro c T h1 h2 hK ht hA hF
    rw [b_X12_looks_67]
    by_cases c0 : N < c + 2
    · rw [if_pos (nI_lt c0 (by omega))]
      have e : N = c + 1 := by omega
      subst e
      refine ⟨T, rfl, hK, ht, by rw [show c + 1 - 1 = c by omega]; exact hA _ (by omega) (by omega), ?_⟩
      by_cases z : c = 0
      · subst z; exact hF
      · rw [hF, if_neg z, if_neg (by omega), show c + 1 - 2 = c - 1 by omega]
    · have hJ1 := hJ.kp hK
      have hb : ∀ j, lkT m c j ≤ 50 := fun j => by have := lkT_le m c j; omega
      rw [if_neg (nI_nlt (by omega) (by omega)), hJ1.lay.r60_1262, ob_mk, hJ1.lay.n88, ck_pos (ixn (by omega) (by omega)), nI_clamp (by omega)]
      -- the first look, at one night
      have hn1 : n = (n - 1) + 1 := by omega
      obtain ⟨T0, hT0⟩ : ∃ T0, T0 = sA T (A 88) (c + 2) (-1) := ⟨_, rfl⟩
      have k0 : KP A S T0 := by rw [hT0]; exact KPL.wA hK (by decide)
      have hJ0 := hJ.kp k0
      have A0 : ∀ j, 1 ≤ j → j < c + 2 → pA T0 (A 88) j = nI (lkT m c j) := fun j q1 q2 => by
        rw [hT0, pA_sA, if_neg (fun q => by omega)]; exact hA j q1 (by omega)
      have A1 : pA T0 (A 88) (c + 2) = -1 := by rw [hT0, pA_sA, if_pos ⟨rfl, rfl⟩]
      have b1 := hb 1
      have b2 := hb (c + 1)
      have st1 : b_X12_looks_84 n (b_X12_looks_67 n f) n (A 60) (nI N) (nI m) w (nI (c + 2)) 1 T0 = b_X12_looks_84 n (b_X12_looks_67 n f) (n - 1) (A 60) (nI N) (nI m) w (nI (c + 2)) (nI 2) (sA (sA T0 (A 88) (c + 2) (nI (vkF (lkT m c) (c + 2) 1))) (A 89) (c + 2) (nI 1)) := by
        have e1 : (nI (c + 2)).toNatClampNeg = c + 2 := nI_clamp (by omega)
        have e2 : (nI (c + 1)).toNatClampNeg = c + 1 := nI_clamp (by omega)
        have e3 : (nI 1).toNatClampNeg = 1 := nI_clamp (by omega)
        have X : ∀ z : Nat, z = (if lkT m c 1 < lkT m c (c + 1) then lkT m c (c + 1) else lkT m c 1) → b_X12_looks_138 n (b_X12_looks_67 n f) (b_X12_looks_84 n (b_X12_looks_67 n f) (n - 1)) (A 60) (nI N) (nI m) w (nI (c + 2)) (nI 1) 1 (nI z) T0 = b_X12_looks_84 n (b_X12_looks_67 n f) (n - 1) (A 60) (nI N) (nI m) w (nI (c + 2)) (nI 2) (sA (sA T0 (A 88) (c + 2) (nI (vkF (lkT m c) (c + 2) 1))) (A 89) (c + 2) (nI 1)) := fun z hz => by
          have hv : (1 : Int32) + nI z = nI (vkF (lkT m c) (c + 2) 1) := by rw [hz, show (1 : Int32) = nI 1 from rfl, nI_add]; rfl
          rw [b_X12_looks_138, hJ0.lay.r60_1262, ob_mk, hJ0.lay.n88, ck_pos (ixn (by omega) (by omega)), e1, A1, if_pos rfl, hv, b_X12_looks_167, hJ0.lay.r60_1262, ob_mk, hJ0.lay.n88, ck_pos (ixn (by omega) (by omega)), e1, pR_sA, hJ0.lay.r60_1263, ob_mk, pN_sA, hJ0.lay.n89, ck_pos (ixn (by omega) (by omega)), lt_mk, b_X12_looks_185]
          rfl
        rw [hn1, b_X12_looks_84, ← hn1, show (1 : Int32) = nI 1 from rfl, if_neg (nI_nlt (by omega) (by omega)), if_neg (nI_ge (by omega) (by omega)), pk_sub (show 1 ≤ c + 2 by omega), show c + 2 - 1 = c + 1 by omega, hJ0.lay.r60_1262, ob_mk, hJ0.lay.n88, ck_pos (ixn (by omega) (by omega)), ob_mk, hJ0.lay.n88, ck_pos (ixn (by omega) (by omega)), e2, e3, A0 1 (by omega) (by omega), A0 (c + 1) (by omega) (by omega)]
        by_cases c1 : lkT m c 1 ≤ lkT m c (c + 1)
        · rw [if_pos (nI_le c1 (by omega)), ob_mk, hJ0.lay.n88, ck_pos (ixn (by omega) (by omega)), A0 (c + 1) (by omega) (by omega)]
          exact X (lkT m c (c + 1)) (by split <;> omega)
        · rw [if_neg (nI_ge (by omega) (by omega)), ob_mk, hJ0.lay.n88, ck_pos (ixn (by omega) (by omega)), A0 1 (by omega) (by omega)]
          exact X (lkT m c 1) (by split <;> omega)
      rw [← hT0, st1]
      have k1 : KP A S (sA (sA T0 (A 88) (c + 2) (nI (vkF (lkT m c) (c + 2) 1))) (A 89) (c + 2) (nI 1)) := KPL.wA (KPL.wA k0 (by decide)) (by decide)
      have mn1 : 2 ≤ mnF m (c + 2) + 1 ∧ mnF m (c + 2) ≤ 40 := by unfold mnF; split <;> omega
      obtain ⟨T1, a1, a2, a3, a4, a5, a6, a7⟩ := r_lk (n := n) (N := N) (w := w) (L := lkT m c) (k := c + 2) (m := m) (K := b_X12_looks_67 n f) (by omega) (by omega) hm hm2 hb hJ (n - 1) 2 1 _ (by omega) mn1.1 (by omega) (by omega) (by omega) k1 (by rw [hT0]; exact ht) (fun i q1 q2 => by
        rw [pA_sA, if_neg (fun q => d q.1), pA_sA, if_neg (fun q => by omega)]; exact A0 i q1 q2) (by rw [pA_sA, if_neg (fun q => d q.1), pA_sA, if_pos ⟨rfl, rfl⟩]) (by rw [pA_sA, if_pos ⟨rfl, rfl⟩])
      rw [a1]
      exact ih (c + 1) T1 (by omega) (by omega) a2 a3 (fun j q1 q2 => by
        rw [lkT]
        by_cases e : j = c + 2
        · rw [if_pos e, e, a5, fl_eq (by omega)]
        · rw [if_neg e]; exact a4 j q1 (by omega)) (by rw [a6, if_neg (by omega), show c + 1 - 1 = c by omega, fl_eq (by omega)])
end
theorem ob_24 (n xa ma : Nat) (hn : 20000 ≤ n) : OB_24 n xa ma (JJ xa ma) := by
  rintro S f ⟨A, V, g, rfl, rfl, h⟩ y z w
  have h : JG A V g S := h
  refine ⟨200, 8000, by decide, by decide, _, _, sp_isWithin _ _ _ _ _, ?_⟩
  have B : m_X12_looks n (A 60) y z w (badS A S) = some (0, badM A 1 (st0 (badS A S) (A 60))) → pb_X11_looks_34 n (A 0) y z w (A 0) S 200 8000 (fun (k : Nat) (S1 : pq_S) => (k = 1 ∧ (KI (JJ (A 0) (A 60)) (A 60) (m_X12_looks n (A 60) y z w)) 1 f S1)) (fun r (S1 : pq_S) => (KI (JJ (A 0) (A 60)) (A 60) (m_X12_looks n (A 60) y z w)) 0 (vp_updL f 0 (Int32.toInt64 r)) S1) := fun hm => ⟨1, 6, by decide, by decide, wr_need0 (by decide) (by decide) ⟨rfl, ki_bad h (b := 0) (by decide) hm⟩⟩
  by_cases c0 : 1 ≤ y ∧ y ≤ 40
  · rw [if_pos c0, if_neg (by decide)]
    refine ⟨_, _, sp_isWithin _ _ _ _ _, ?_⟩
    by_cases c1 : 1 ≤ z ∧ z ≤ 40
    · rw [if_pos c1, if_neg (by decide)]
      refine ⟨_, _, sp_isWithin _ _ _ _ _, ?_⟩
      by_cases c2 : 0 ≤ w ∧ w ≤ 1
      · rw [if_pos c2, if_neg (by decide)]
        refine ⟨1, 6, by decide, by decide, wr_need1 ?_⟩
        rcases i32_wi y 1 40 (by decide) (by decide) with ⟨N, hN1, hN, rfl⟩ | r
        · rcases i32_wi z 1 40 (by decide) (by decide) with ⟨m, hm1, hm, rfl⟩ | r
          · refine x_looks (w := w) (by omega) hN hN1 hm1 hm h n 0 0 _ (by omega) (by omega) (KPL.rf _ _ _ _ _) (fun j hj => ?_) rfl (fun T1 k1 hT1 => ?_)
            · have : j = 0 ∨ j = 1 := by omega
              rcases this with rfl | rfl
              · exact h.2.2.1.1.2.1
              · exact h.2.2.1.1.2.2
            · have h1 := h.kpk k1 ⟨by rw [hT1 0 (by omega), lkT_01 m (N - 1) 0 (by decide)]; rfl, by rw [hT1 1 (by omega), lkT_01 m (N - 1) 1 (by decide)]; rfl⟩
              have k2 : KP A T1 (sA (sA (st0 T1 (A 60)) (A 88) 1 0) (A 89) 1 0) := KPL.wA (KPL.wA (KPL.st0 (KPL.rf _ _ _ _ _)) (by decide)) (by decide)
              have d : A 88 ≠ A 89 := h.lay.ne (by decide) (by decide) (by decide)
              obtain ⟨T2, a1, a2, a3, a4, a5⟩ := r_looks (n := n) (w := w) (by omega) hN hN1 hm1 hm h1 n 0 _ (by omega) (by omega) k2 (st0_th T1 (A 60)) (fun j q1 q2 => by
                rw [show j = 1 by omega, pA_sA, if_neg (fun q => d q.1), pA_sA, if_pos ⟨rfl, rfl⟩]; rfl) (by rw [pA_sA, if_pos ⟨rfl, rfl⟩]; rfl)
              have h2 := h1.kp a2
              have M : ∀ r, b_X12_looks_197 n (A 60) (nI N) w T2 = some (r, T2) → KI (JJ (A 0) (A 60)) (A 60) (m_X12_looks n (A 60) (nI N) (nI m) w) 0 (vp_updL f 0 (Int32.toInt64 r)) T1 := fun r e => ki_ok h1 (by
                unfold m_X12_looks b_X12_looks_40
                rw [sp_within, if_pos c0, cb_mk, if_neg (by decide), sp_within, if_pos c1, cb_mk, if_neg (by decide), sp_within, if_pos c2, cb_mk, if_neg (by decide), sp_mayS1, cb_mk, if_neg (by decide), pR_sI, h1.lay.r60_1262, ob_mk, pN_sI, h1.lay.n88, ck_pos (show ix 1 41 from ⟨by decide, by decide⟩), pR_sA, pR_sI, h1.lay.r60_1263, ob_mk, pN_sA, pN_sI, h1.lay.n89, ck_pos (show ix 1 41 from ⟨by decide, by decide⟩), lt_mk]
                exact a1.trans e) a2 a3
              unfold pb_X11_looks_80
              rcases w2 w with rfl | rfl | r
              · rw [if_pos rfl]
                refine ⟨_, h1.lay.r0_1111, by rw [h1.lay.n59]; exact ixn (by omega) (by omega), M _ ?_⟩
                rw [b_X12_looks_197, if_pos rfl, h2.lay.r60_1262, ob_mk, h2.lay.n88, ck_pos (ixn (by omega) (by omega)), nI_clamp (by omega), a4, hT1 N (by omega)]
              · rw [if_neg (by decide)]
                refine M _ ?_
                rw [b_X12_looks_197, if_neg (by decide), h2.lay.r60_1263, ob_mk, h2.lay.n89, ck_pos (ixn (by omega) (by omega)), nI_clamp (by omega), a5]
              · exact absurd c2 r
          · exact absurd c1 r
        · exact absurd c0 r
      · rw [if_neg c2, if_pos rfl]
        refine B ?_
        unfold m_X12_looks b_X12_looks_39 b_X12_looks_40
        rw [sp_within, if_pos c0, cb_mk, if_neg (by decide), sp_within, if_pos c1, cb_mk, if_neg (by decide), sp_within, if_neg c2, cb_mk, if_pos rfl, jg_bad h (by decide), cb_mk, if_pos rfl]
    · rw [if_neg c1, if_pos rfl]
      refine B ?_
      unfold m_X12_looks b_X12_looks_39 b_X12_looks_40
      rw [sp_within, if_pos c0, cb_mk, if_neg (by decide), sp_within, if_neg c1, cb_mk, if_pos rfl, jg_bad h (by decide), cb_mk, if_pos rfl]
  · rw [if_neg c0, if_pos rfl]
    refine B ?_
    unfold m_X12_looks b_X12_looks_39 b_X12_looks_40
    rw [sp_within, if_neg c0, cb_mk, if_pos rfl, jg_bad h (by decide), cb_mk, if_pos rfl]
