/-- the first of k days from d on whose moons are so; -1 if none -/
def fd (mo : Int32 → Int32) (bits : Int32) : Nat → Nat → Int32
  | 0, _ => -1
  | k + 1, d => if mo (nI d) = bits then nI d else fd mo bits k (d + 1)
theorem sp_firstX {n a : Nat} {bits : Int32} {S : pq_S} {mo : Int32 → Int32} (hm : ∀ day, m_X1_moonsOn n a day S = some (mo day, S)) : ∀ (f d : Nat), d ≤ 10000 → 10000 < d + f → b_X1_firstDay_2 n f a bits (nI d) S = some (fd mo bits (10000 - d) d, S) := by
  intro f
  induction f with
  | zero => intro d h1 h2; omega
  | succ f ih =>
    intro d h1 h2
    rw [b_X1_firstDay_2]
    by_cases hd : d = 10000
    · subst hd
      rw [if_pos (show (9999 : Int32) < nI 10000 by decide)]
      rfl
    · rw [if_neg (show ¬ (9999 : Int32) < nI d from nI_nlt (a := 9999) (by omega) (by omega)), hm, cb_mk, show 10000 - d = (10000 - (d + 1)) + 1 by omega, fd]
      by_cases hc : mo (nI d) = bits
      · rw [if_pos hc, if_pos hc]
      · rw [if_neg hc, if_neg hc, show nI d + 1 = nI (d + 1) from (nI_succ d).symm]
        exact ih (d + 1) (by omega) (by omega)
theorem sp_firstM {n a : Nat} {bits : Int32} {S : pq_S} {mo : Int32 → Int32} (hm : ∀ day, m_X12_moonsOn n a day S = some (mo day, S)) : ∀ (f d : Nat), d ≤ 10000 → 10000 < d + f → b_X12_firstWith_2 n f a bits (nI d) S = some (fd mo bits (10000 - d) d, S) := by
  intro f
  induction f with
  | zero => intro d h1 h2; omega
  | succ f ih =>
    intro d h1 h2
    rw [b_X12_firstWith_2]
    by_cases hd : d = 10000
    · subst hd
      rw [if_pos (show (9999 : Int32) < nI 10000 by decide)]
      rfl
    · rw [if_neg (show ¬ (9999 : Int32) < nI d from nI_nlt (a := 9999) (by omega) (by omega)), hm, cb_mk, show 10000 - d = (10000 - (d + 1)) + 1 by omega, fd]
      by_cases hc : mo (nI d) = bits
      · rw [if_pos hc, if_pos hc]
      · rw [if_neg hc, if_neg hc, show nI d + 1 = nI (d + 1) from (nI_succ d).symm]
        exact ih (d + 1) (by omega) (by omega)
/-- the reference's may(): good, or refused with its code and counted by its kind -/
theorem sp_may1 {n ma : Nat} {code kind : Int32} {S : pq_S} (h0 : pI S 1200 ma = 0) : m_X12_may n ma 1 code kind S = some (1, S) := by
  unfold m_X12_may
  rw [if_neg (by decide), b_X12_may_26, if_pos h0]
theorem sp_may0 {n ma q : Nat} {code : Int32} {k : Nat} {S : pq_S} (e1 : pR S 1201 ma = some q) (hN : pN S q = 2) (hk : k < 2) (h0 : pI S 1200 ma = 0) (hc : ¬ code = 0) : m_X12_may n ma 0 code (nI k) S = some (0, sA (sI S 1200 ma code) q k (pA S q k + 1)) := by
  unfold m_X12_may
  rw [if_pos rfl, if_pos h0, pR_sI, e1, ob_mk]
  simp only [pN_sI, pA_sI]
  rw [ck_pos (by rw [hN]; exact ix_nI hk (by decide)), ck_pos (by rw [hN]; exact ix_nI hk (by decide)), lt_mk, nI_clamp (by omega), b_X12_may_26, pI_sA, pI_sI, show (if 1200 = 1200 ∧ ma = ma then code else pI S 1200 ma) = code from if_pos ⟨rfl, rfl⟩, if_neg hc]
