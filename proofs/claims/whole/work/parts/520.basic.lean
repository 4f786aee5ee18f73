/-! plain pictures of the small methods -/
theorem sp_isWithin (n : Nat) (v a b : Int32) (S : pq_S) : m_X11_isWithin n v a b S = some (if a ≤ v ∧ v ≤ b then 1 else 0, S) := by
  unfold m_X11_isWithin
  by_cases h1 : v < a
  · rw [if_pos h1, if_neg (fun h => absurd h.1 (Int32.not_le.mpr h1))]
  · by_cases h2 : b < v
    · rw [if_neg h1, if_pos h2, if_neg (fun h => absurd h.2 (Int32.not_le.mpr h2))]
    · rw [if_neg h1, if_neg h2, if_pos ⟨Int32.not_lt.mp h1, Int32.not_lt.mp h2⟩]
theorem sp_within (n : Nat) (v a b : Int32) (S : pq_S) : m_X12_within n v a b S = some (if a ≤ v ∧ v ≤ b then 1 else 0, S) := by
  unfold m_X12_within
  by_cases h1 : v < a
  · rw [if_pos h1, if_neg (fun h => absurd h.1 (Int32.not_le.mpr h1))]
  · by_cases h2 : b < v
    · rw [if_neg h1, if_pos h2, if_neg (fun h => absurd h.2 (Int32.not_le.mpr h2))]
    · rw [if_neg h1, if_neg h2, if_pos ⟨Int32.not_lt.mp h1, Int32.not_lt.mp h2⟩]
theorem i32_le_ofNat {N : Nat} (hN : N < 2 ^ 31) {i : Int32} (h0 : 0 ≤ i) : Int32.ofNat N ≤ i ↔ N ≤ i.toNatClampNeg := by
  have h1 : (Int32.ofNat N).toInt = (N : Int) := nI_toInt (n := N) hN
  have h2 : 0 ≤ i.toInt := by have := Int32.le_iff_toInt_le.mp h0; simpa using this
  have h3 : (i.toNatClampNeg : Int) = i.toInt := by
    show (i.toInt.toNat : Int) = i.toInt
    omega
  rw [Int32.le_iff_toInt_le, h1]
  omega
theorem sp_at {n : Nat} {t c : Nat} {r k : Int32} {S : pq_S} (hR : pR S 900 t = some c) (hN : pN S c < 2 ^ 31) (h0 : 0 ≤ r * pI S 901 t + k) (hi : (r * pI S 901 t + k).toNatClampNeg < pN S c) : m_X9_at n t r k S = some (pA S c (r * pI S 901 t + k).toNatClampNeg, S) := by
  unfold m_X9_at
  rw [if_neg (Int32.not_lt.mpr h0), hR]
  show (if Int32.ofNat (pN S c) ≤ r * pI S 901 t + k then _ else _) = _
  rw [if_neg (fun h => absurd ((i32_le_ofNat hN h0).mp h) (Nat.not_le.mpr hi))]
  exact ck_pos ⟨h0, hi⟩
theorem sp_fault (n xa ma : Nat) (S : pq_S) (h : pI S 1113 xa = pI S 1208 ma) : ∃ r S1 S2, m_X11_fault n xa S = some (r, S1) ∧ m_X12_fault n ma S1 = some (r, S2) ∧ S1 = S ∧ S2 = sI S 1200 ma 0 := ⟨_, _, _, rfl, by
  unfold m_X12_fault
  rw [pI_sI, if_neg (fun q => absurd q.1 (by decide)), ← h], rfl, rfl⟩
theorem sp_put {n : Nat} {t c : Nat} {r k v : Int32} {S : pq_S} (hR : pR S 900 t = some c) (hN : pN S c < 2 ^ 31) (h0 : 0 ≤ r * pI S 901 t + k) (hi : (r * pI S 901 t + k).toNatClampNeg < pN S c) : m_X9_put n t r k v S = some (sA S c (r * pI S 901 t + k).toNatClampNeg v) := by
  unfold m_X9_put
  rw [if_neg (Int32.not_lt.mpr h0), hR]
  show (if Int32.ofNat (pN S c) ≤ r * pI S 901 t + k then _ else _) = _
  rw [if_neg (fun h => absurd ((i32_le_ofNat hN h0).mp h) (Nat.not_le.mpr hi))]
  exact ck_pos ⟨h0, hi⟩
theorem sp_has (n t : Nat) (v : Int32) (S : pq_S) : m_X9_has n t v S = some (if 0 ≤ v ∧ v < pI S 902 t then 1 else 0, S) := by
  unfold m_X9_has
  by_cases h1 : v < 0
  · rw [if_pos h1, if_neg (fun h => absurd h.1 (Int32.not_le.mpr h1))]
  · by_cases h2 : pI S 902 t ≤ v
    · rw [if_neg h1, if_pos h2, if_neg (fun h => absurd h2 (Int32.not_le.mpr h.2))]
    · rw [if_neg h1, if_neg h2, if_pos ⟨Int32.not_lt.mp h1, Int32.not_le.mp h2⟩]
theorem sF_ext {S : pq_S} {a : Nat} {g h : Nat → Int32} (e : ∀ i, g i = h i) : sF S a g = sF S a h := by rw [show g = h from funext e]
theorem sF_self (S : pq_S) (a : Nat) : sF S a (pA S a) = S := by
  have : (fun a1 i1 => if a1 = a then pA S a i1 else pA S a1 i1) = pA S := by
    funext a1 i1
    by_cases h : a1 = a
    · subst h; simp
    · simp [h]
  unfold sF
  rw [this]
  rfl
theorem sA_sF (S : pq_S) (a i : Nat) (g : Nat → Int32) (v : Int32) : sA (sF S a g) a i v = sF S a (upd g i v) := by
  have : (fun a1 i1 => if a1 = a ∧ i1 = i then v else pA (sF S a g) a1 i1) = (fun a1 i1 => if a1 = a then upd g i v i1 else pA S a1 i1) := by
    funext a1 i1
    rw [pA_sF]
    by_cases h : a1 = a
    · subst h
      by_cases h2 : i1 = i
      · subst h2; simp [upd]
      · simp [upd, h2]
    · simp [h]
  unfold sA
  rw [this]
  rfl
theorem ix_nI {k N : Nat} (h : k < N) (hN : N < 2 ^ 31) : ix (nI k) N := ⟨nI_pos' (by omega), by rw [nI_clamp (by omega)]; exact h⟩
/-- what a row is when its first j places are another's -/
def mixr (j : Nat) (g h : Nat → Int32) : Nat → Int32 := fun i => if i < j then g i else h i
theorem sp_copies_b {n a1 a2 K : Nat} {S : pq_S} (hne : a1 ≠ a2) (h1 : K ≤ pN S a1) (h2 : K ≤ pN S a2) (b1 : pN S a1 < 2 ^ 31) (b2 : pN S a2 < 2 ^ 31) : ∀ (f j : Nat), j ≤ K → K < j + f → b_X12_copies_3 n f a1 a2 (nI K) (nI j) (sF S a2 (mixr j (pA S a1) (pA S a2))) = some (sF S a2 (mixr K (pA S a1) (pA S a2))) := by
  intro f
  induction f with
  | zero => intro j h3 h4; omega
  | succ f ih =>
    intro j h3 h4
    rw [b_X12_copies_3]
    by_cases hj : j = K
    · subst hj
      rw [if_pos (Int32.le_refl _)]
    · have hlt : j < K := by omega
      rw [if_neg (nI_ge hlt (by omega))]
      simp only [pN_sF]
      rw [ck_pos (ix_nI (by omega) b1), ck_pos (ix_nI (by omega) b2)]
      rw [nI_clamp (by omega), sA_sF, pA_sF, if_neg hne, show nI j + 1 = nI (j + 1) from (nI_succ j).symm]
      rw [show upd (mixr j (pA S a1) (pA S a2)) j (pA S a1 j) = mixr (j + 1) (pA S a1) (pA S a2) from funext fun i => by
        unfold upd mixr
        by_cases e1 : i = j
        · subst e1; simp
        · by_cases e2 : i < j
          · simp [e1, e2, Nat.lt_succ_of_lt e2]
          · simp [e1, e2, show ¬ i < j + 1 by omega]]
      exact ih (j + 1) (by omega) (by omega)
theorem sp_copies {n a0 a1 a2 K : Nat} {S : pq_S} (hne : a1 ≠ a2) (h1 : K ≤ pN S a1) (h2 : K ≤ pN S a2) (b1 : pN S a1 < 2 ^ 31) (b2 : pN S a2 < 2 ^ 31) (hn : K < n) : m_X12_copies n a0 a1 a2 (nI K) S = some (sF S a2 (mixr K (pA S a1) (pA S a2))) := by
  unfold m_X12_copies
  have h := sp_copies_b (n := n) hne h1 h2 b1 b2 n 0 (Nat.zero_le _) (by omega)
  rw [show mixr 0 (pA S a1) (pA S a2) = pA S a2 from funext fun i => by simp [mixr], sF_self] at h
  exact h
/-- the reference's take(): its row s is its row now -/
theorem sp_take {n ma q1 q2 : Nat} {S : pq_S} (e1 : pR S 1246 ma = some q1) (e2 : pR S 1247 ma = some q2) (hne : q1 ≠ q2) (h1 : pN S q1 = 50) (h2 : pN S q2 = 50) (hn : 50 < n) : m_X12_take n ma S = some (sF S q2 (mixr 50 (pA S q1) (pA S q2))) := by
  unfold m_X12_take
  rw [e1, e2]
  show Option.bind (m_X12_copies n ma q1 q2 (nI 50) S) (fun S_3 => some S_3) = _
  rw [sp_copies hne (by omega) (by omega) (by omega) (by omega) hn]
  rfl
