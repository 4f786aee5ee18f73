theorem ob_mk {α β : Type} (a : α) (k : α → Option β) : Option.bind (some a) k = k a := rfl
theorem nI_mulp (a b : Nat) : nI a * nI b = nI (a * b) := (Int32.ofNat_mul a b).symm
theorem sp_atn {n t c w j k : Nat} {kv : Int32} {S : pq_S} (hk : kv = nI k) (hR : pR S 900 t = some c) (hw : pI S 901 t = nI w) (hN : pN S c < 2 ^ 31) (hi : j * w + k < pN S c) : m_X9_at n t (nI j) kv S = some (pA S c (j * w + k), S) := by
  subst hk
  have e : nI j * pI S 901 t + nI k = nI (j * w + k) := by rw [hw, nI_mulp, nI_add]
  have h := sp_at (n := n) (r := nI j) (k := nI k) hR hN (by rw [e]; exact nI_pos' (by omega)) (by rw [e, nI_clamp (by omega)]; exact hi)
  rw [e, nI_clamp (by omega)] at h
  exact h
theorem sp_putn {n t c w j k : Nat} {kv v : Int32} {S : pq_S} (hk : kv = nI k) (hR : pR S 900 t = some c) (hw : pI S 901 t = nI w) (hN : pN S c < 2 ^ 31) (hi : j * w + k < pN S c) : m_X9_put n t (nI j) kv v S = some (sA S c (j * w + k) v) := by
  subst hk
  have e : nI j * pI S 901 t + nI k = nI (j * w + k) := by rw [hw, nI_mulp, nI_add]
  have h := sp_put (n := n) (r := nI j) (k := nI k) (v := v) hR hN (by rw [e]; exact nI_pos' (by omega)) (by rw [e, nI_clamp (by omega)]; exact hi)
  rw [e, nI_clamp (by omega)] at h
  exact h
/-- which moons rise on a day: k of them, from the j-th on, beside the bits b -/
def mn (g : Nat → Int32) (day : Int32) : Nat → Nat → Int32 → Int32
  | 0, _, b => b
  | k + 1, j, b => mn g day k (j + 1) (if day - day / g (2 * j) * g (2 * j) = g (2 * j + 1) then b ||| ((1 : Int32) <<< (nI j &&& (31 : Int32))) else b)
theorem sp_moonsX {n a t c K : Nat} {day : Int32} {S : pq_S} (e1 : pR S 103 a = some t) (e2 : pR S 900 t = some c) (ew : pI S 901 t = 2) (er : pI S 902 t = nI K) (hN : pN S c = 6) (hK : K ≤ 3) (hp : ∀ j, j < K → 0 < pA S c (2 * j)) : ∀ (f j : Nat) (b : Int32), j ≤ K → K < j + f → b_X1_moonsOn_4 n f a day b (nI j) S = some (mn (pA S c) day (K - j) j b, S) := by
  intro f
  induction f with
  | zero => intro j b h1 h2; omega
  | succ f ih =>
    intro j b h1 h2
    rw [b_X1_moonsOn_4, e1]
    show (if pI S 902 t ≤ nI j then _ else _) = _
    rw [er]
    by_cases hj : j = K
    · subst hj
      rw [if_pos (Int32.le_refl _), Nat.sub_self]
      rfl
    · have hlt : j < K := by omega
      rw [if_neg (nI_ge hlt (by omega))]
      rw [ob_mk, sp_atn (kv := 0) (k := 0) nI_0.symm e2 (w := 2) ew (by omega) (by omega), cb_mk]
      rw [show j * 2 + 0 = 2 * j by omega]
      have hp1 := hp j hlt
      rw [if_neg (Int32.not_le.mpr hp1)]
      rw [ck_pos (fun h => absurd hp1 (by rw [h]; decide)), e1]
      rw [ob_mk, sp_atn (kv := 1) (k := 1) rfl e2 (w := 2) ew (by omega) (by omega), cb_mk]
      rw [show j * 2 + 1 = 2 * j + 1 by omega, show K - j = (K - (j + 1)) + 1 by omega, mn]
      by_cases hc : day - day / pA S c (2 * j) * pA S c (2 * j) = pA S c (2 * j + 1)
      · rw [if_pos hc, if_pos hc, lt_mk, b_X1_moonsOn_53, show nI j + 1 = nI (j + 1) from (nI_succ j).symm]
        exact ih (j + 1) _ (by omega) (by omega)
      · rw [if_neg hc, if_neg hc, b_X1_moonsOn_53, show nI j + 1 = nI (j + 1) from (nI_succ j).symm]
        exact ih (j + 1) _ (by omega) (by omega)
theorem sp_moonsM {n a c K : Nat} {day : Int32} {S : pq_S} (e1 : pR S 1217 a = some c) (er : pI S 1227 a = nI K) (hN : pN S c = 6) (hK : K ≤ 3) (hp : ∀ j, j < K → 0 < pA S c (2 * j)) : ∀ (f j : Nat) (b : Int32), j ≤ K → K < j + f → b_X12_moonsOn_4 n f a day b (nI j) S = some (mn (pA S c) day (K - j) j b, S) := by
  intro f
  induction f with
  | zero => intro j b h1 h2; omega
  | succ f ih =>
    intro j b h1 h2
    rw [b_X12_moonsOn_4, er]
    by_cases hj : j = K
    · subst hj
      rw [if_pos (Int32.le_refl _), Nat.sub_self]
      rfl
    · have hlt : j < K := by omega
      have i1 : (2 : Int32) * nI j = nI (2 * j) := nI_mulp 2 j
      have i2 : (2 : Int32) * nI j + (1 : Int32) = nI (2 * j + 1) := by rw [i1]; exact nI_add (2 * j) 1
      have hp1 := hp j hlt
      rw [if_neg (nI_ge hlt (by omega)), e1]
      show ck _ _ (ck _ _ (ck _ _ _)) = _
      rw [ck_pos (by rw [i1]; exact ix_nI (by omega) (by omega)), i1, nI_clamp (by omega), ck_pos (fun h => absurd hp1 (by rw [h]; decide))]
      rw [show nI (2 * j) + (1 : Int32) = nI (2 * j + 1) from nI_add (2 * j) 1, ck_pos (ix_nI (by omega) (by omega)), nI_clamp (by omega)]
      rw [show K - j = (K - (j + 1)) + 1 by omega, mn]
      by_cases hc : day - day / pA S c (2 * j) * pA S c (2 * j) = pA S c (2 * j + 1)
      · rw [if_pos hc, if_pos hc, b_X12_moonsOn_43, show nI j + 1 = nI (j + 1) from (nI_succ j).symm]
        exact ih (j + 1) _ (by omega) (by omega)
      · rw [if_neg hc, if_neg hc, b_X12_moonsOn_43, show nI j + 1 = nI (j + 1) from (nI_succ j).symm, Int32.or_zero]
        exact ih (j + 1) _ (by omega) (by omega)
