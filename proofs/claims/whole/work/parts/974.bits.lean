/-! nights: the bits of a set -/
theorem clrN {s i : Nat} (hi : i < 12) : nI s &&& (((1 : Int32) <<< (nI i &&& (31 : Int32))) ^^^ (-1 : Int32)) = nI (if s.testBit i = true then s - 2 ^ i else s) := by
  rw [shl12 i hi]
  apply Int32.toBitVec_inj.mp
  rw [Int32.toBitVec_and, Int32.toBitVec_xor]
  show BitVec.ofNat 32 s &&& (BitVec.ofNat 32 (2 ^ i) ^^^ BitVec.ofNat 32 (2 ^ 32 - 1)) = BitVec.ofNat 32 (if s.testBit i = true then s - 2 ^ i else s)
  apply BitVec.eq_of_getLsbD_eq
  intro j hj
  rw [BitVec.getLsbD_and, BitVec.getLsbD_xor, BitVec.getLsbD_ofNat, BitVec.getLsbD_ofNat, BitVec.getLsbD_ofNat, BitVec.getLsbD_ofNat, Nat.testBit_two_pow_sub_one, Nat.testBit_two_pow, show decide (j < 32) = true by simp [hj], Bool.true_and, Bool.true_and, Bool.true_and, Bool.true_and]
  by_cases hb : s.testBit i = true
  · rw [if_pos hb]
    obtain ⟨_, g2, g3⟩ := bit_out hb
    by_cases e : i = j
    · subst e; rw [g2]; simp
    · rw [g3 j (fun z => e z.symm)]; simp [e]
  · rw [if_neg hb]
    by_cases e : i = j
    · subst e; simp at hb; rw [hb]; simp
    · simp [e]
theorem dv32 : ∀ v, v < 1024 → nI v / (32 : Int32) = nI (v / 32) := by decide +kernel
section
variable {A : Nat → Nat} {n : Nat} {g : GH} {S : pq_S} {V : Nat → Prop}
/-- a night's hours, class -/
theorem x_tk {w : Nat} {x : Nat} (lS : LAY A S) (hw : w < 12) (e : pA S (A 34) w = nI x) : m_X4_takenOf n (A 32) (nI w) S = some (nI x, S) := by
  unfold m_X4_takenOf
  rw [if_neg (nI_pos (by omega)), lS.r32_402, ob_mk, lS.n34, if_neg (show ¬ Int32.ofNat 12 ≤ nI w from nI_ge (by omega) (by decide)), ob_mk, lS.n34, ck_pos (ix_nI hw (by decide)), nI_clamp (by omega), e]
theorem x_ptn {D K x : Nat} {t : Nat → Nat} (lS : LAY A S) (hD : D ≤ 24) (hx : x ≤ 12) (hK : K ≤ 12) (ht : ∀ w, w < K → t w ≤ D ∧ pA S (A 34) w = nI (t w)) : ∀ c w f, w + c = K → c < f → b_X4_putIn_33 n f (A 32) (nI x) (nI D) (nI K) (nI w) S = some (nI (ptn t D x c w), S) := by
  intro c
  induction c with
  | zero =>
    intro w f h1 h2
    obtain ⟨f, rfl⟩ : ∃ g, f = g + 1 := ⟨f - 1, by omega⟩
    rw [b_X4_putIn_33, if_pos (nI_le (by omega) (by omega))]
    rfl
  | succ c ih =>
    intro w f h1 h2
    obtain ⟨f, rfl⟩ : ∃ g, f = g + 1 := ⟨f - 1, by omega⟩
    obtain ⟨t1, t2⟩ := ht w (by omega)
    rw [b_X4_putIn_33, if_neg (nI_ge (by omega) (by omega)), x_tk lS (by omega) t2, cb_mk, nI_add]
    unfold ptn
    by_cases e : t w + x ≤ D
    · rw [if_neg (nI_nlt (by omega) (by omega)), if_pos e, b_X4_putIn_52, x_tk lS (by omega) t2, cb_mk, show nI w * (32 : Int32) = nI (w * 32) from nI_mulp w 32, nI_add, nI_add]
    · rw [if_pos (nI_lt (by omega) (by omega)), if_neg e, show nI w + 1 = nI (w + 1) from nI_1 w]
      exact ih (w + 1) f (by omega) (by omega)
theorem ptI_le {t : Nat → Nat} {D K v x : Nat} (hD : D ≤ 24) (hx : x ≤ 12) (hK : K ≤ 12) (ht : ∀ w, w < K → t w ≤ D) : ptI t D K v x ≤ 1036 := by
  unfold ptI
  by_cases e : v < 1024
  · rw [if_pos e]
    by_cases e2 : v % 32 + x ≤ D
    · rw [if_pos e2]; omega
    · rw [if_neg e2]
      rcases ptn_ok (D := D) (t := t) (x := x) (K - (v / 32 + 1)) (v / 32 + 1) with ⟨u, u1, u2, u3, u4, _⟩ | ⟨u1, _⟩
      · rw [u4]; omega
      · omega
  · rw [if_neg e]; omega
theorem x_ptI {D K x v : Nat} {t : Nat → Nat} (hn : 20000 ≤ n) (lS : LAY A S) (hD : D ≤ 24) (hx : x ≤ 12) (hK : K ≤ 12) (hv : v ≤ 1024) (hvK : v < 1024 → v / 32 < K) (ht : ∀ w, w < K → t w ≤ D ∧ pA S (A 34) w = nI (t w)) : m_X4_putIn n (A 32) (nI v) (nI x) (nI D) (nI K) S = some (nI (ptI t D K v x), S) := by
  unfold m_X4_putIn ptI
  by_cases e : v < 1024
  · have hvk := hvK e
    have d1 : nI v / (32 : Int32) = nI (v / 32) := dv32 v e
    rw [if_pos (show nI v < (1024 : Int32) from nI_lt (b := 1024) e (by decide)), if_pos e, d1, show nI (v / 32) * (32 : Int32) = nI (v / 32 * 32) from nI_mulp _ 32, nI_sub' (by omega), show v - v / 32 * 32 = v % 32 by omega, nI_add]
    by_cases e2 : v % 32 + x ≤ D
    · rw [if_neg (nI_nlt (by omega) (by omega)), if_pos e2, nI_add]
    · rw [if_pos (nI_lt (by omega) (by omega)), if_neg e2, show nI (v / 32) + (1 : Int32) = nI (v / 32 + 1) from nI_1 _]
      exact x_ptn lS hD hx hK ht (K - (v / 32 + 1)) (v / 32 + 1) n (by omega) (by omega)
  · rw [if_neg (show ¬ nI v < (1024 : Int32) from nI_nlt (a := v) (b := 1024) (by omega) (by omega)), if_neg e]
    rfl
end
