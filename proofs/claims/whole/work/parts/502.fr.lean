set_option maxHeartbeats 1000000 in
set_option maxRecDepth 100000 in
theorem fr_X9_newRow (P : Nat → Prop) (n : Nat) (S0 : pq_S) (hc : Clo P S0) (a0 : Nat) (Ta0 : P a0) (r : Int32) (S1 : pq_S) (hm : m_X9_newRow n a0 S0 = some (r, S1)) : Ag P S0 S1 := by
  have hA : Ag P S0 S0 := Ag.rf _ _
  rw [m_X9_newRow] at hm
  obtain ⟨r3, S_1, hq2, hm⟩ := cb_some hm
  have hA : Ag P S0 S_1 := hA.tr (fr_X9_isFull P n S0 (hA.cl hc) a0 (Ta0) r3 S_1 hq2)
  by_cases h4 : r3 = 0
  · rw [if_pos h4] at hm
    have hA : Ag P S0 (sI S_1 902 a0 ((pI S_1 902 a0) + (1 : Int32))) := hA.sI Ta0
    cases hm
    exact hA
  · rw [if_neg h4] at hm
    cases hm
    exact hA
set_option maxHeartbeats 1000000 in
set_option maxRecDepth 100000 in
theorem fr_X9_at (P : Nat → Prop) (n : Nat) (S0 : pq_S) (hc : Clo P S0) (a0 : Nat) (x1 : Int32) (x2 : Int32) (Ta0 : P a0) (r : Int32) (S1 : pq_S) (hm : m_X9_at n a0 x1 x2 S0 = some (r, S1)) : Ag P S0 S1 := by
  have hA : Ag P S0 S0 := Ag.rf _ _
  rw [m_X9_at] at hm
  by_cases h1 : ((x1 * (pI S0 901 a0)) + x2) < 0
  · rw [if_pos h1] at hm
    cases hm
    exact hA
  · rw [if_neg h1] at hm
    obtain ⟨q2, hq2, hm⟩ := bd_some hm
    have Tq2 : P q2 := hA.clo hc Ta0 hq2
    by_cases h3 : (Int32.ofNat (pN S0 q2)) ≤ ((x1 * (pI S0 901 a0)) + x2)
    · rw [if_pos h3] at hm
      cases hm
      exact hA
    · rw [if_neg h3] at hm
      obtain ⟨q4, hq4, hm⟩ := bd_some hm
      have Tq4 : P q4 := hA.clo hc Ta0 hq4
      obtain ⟨hi5, hm⟩ := ck_some hm
      cases hm
      exact hA
set_option maxHeartbeats 1000000 in
set_option maxRecDepth 100000 in
theorem fr_X9_put (P : Nat → Prop) (n : Nat) (S0 : pq_S) (hc : Clo P S0) (a0 : Nat) (x1 : Int32) (x2 : Int32) (x3 : Int32) (Ta0 : P a0) (S1 : pq_S) (hm : m_X9_put n a0 x1 x2 x3 S0 = some S1) : Ag P S0 S1 := by
  have hA : Ag P S0 S0 := Ag.rf _ _
  rw [m_X9_put] at hm
  by_cases h1 : ((x1 * (pI S0 901 a0)) + x2) < 0
  · rw [if_pos h1] at hm
    cases hm
    exact hA
  · rw [if_neg h1] at hm
    obtain ⟨q2, hq2, hm⟩ := bd_some hm
    have Tq2 : P q2 := hA.clo hc Ta0 hq2
    by_cases h3 : (Int32.ofNat (pN S0 q2)) ≤ ((x1 * (pI S0 901 a0)) + x2)
    · rw [if_pos h3] at hm
      cases hm
      exact hA
    · rw [if_neg h3] at hm
      obtain ⟨q4, hq4, hm⟩ := bd_some hm
      have Tq4 : P q4 := hA.clo hc Ta0 hq4
      obtain ⟨hi5, hm⟩ := ck_some hm
      have hA : Ag P S0 (sA S0 q4 (Int32.toNatClampNeg ((x1 * (pI S0 901 a0)) + x2)) x3) := hA.sA Tq4
      cases hm
      exact hA
set_option maxHeartbeats 1000000 in
set_option maxRecDepth 100000 in
theorem fr_X9_add (P : Nat → Prop) (n : Nat) (S0 : pq_S) (hc : Clo P S0) (a0 : Nat) (x1 : Int32) (x2 : Int32) (x3 : Int32) (Ta0 : P a0) (S1 : pq_S) (hm : m_X9_add n a0 x1 x2 x3 S0 = some S1) : Ag P S0 S1 := by
  have hA : Ag P S0 S0 := Ag.rf _ _
  rw [m_X9_add] at hm
  obtain ⟨r3, S_1, hq2, hm⟩ := cb_some hm
  have hA : Ag P S0 S_1 := hA.tr (fr_X9_at P n S0 (hA.cl hc) a0 x1 x2 (Ta0) r3 S_1 hq2)
  obtain ⟨S_4, hq5, hm⟩ := bd_some hm
  have hA : Ag P S0 S_4 := hA.tr (fr_X9_put P n S_1 (hA.cl hc) a0 x1 x2 (r3 + x3) (Ta0)  S_4 hq5)
  cases hm
  exact hA
set_option maxHeartbeats 1000000 in
set_option maxRecDepth 100000 in
theorem fb_X9_sum_4 (P : Nat → Prop) (S0 : pq_S) (hc : Clo P S0) (n : Nat) (r : Int32) (S1 : pq_S) : ∀ (f : Nat) (a0 : Nat) (x1 : Int32) (x2 : Int32) (x3 : Int32) (S : pq_S), Ag P S0 S → P a0 → b_X9_sum_4 n f a0 x1 x2 x3 S = some (r, S1) → Ag P S0 S1 := by
  intro f
  induction f with
  | zero =>
    intro a0 x1 x2 x3 S hA Ta0 hm
    cases hm
  | succ f ih =>
    intro a0 x1 x2 x3 S hA Ta0 hm
    rw [b_X9_sum_4] at hm
    by_cases h1 : (pI S 902 a0) ≤ x3
    · rw [if_pos h1] at hm
      cases hm
      exact hA
    · rw [if_neg h1] at hm
      obtain ⟨r4, S_2, hq3, hm⟩ := cb_some hm
      have hA : Ag P S0 S_2 := hA.tr (fr_X9_at P n S (hA.cl hc) a0 x3 x1 (Ta0) r4 S_2 hq3)
      exact ih a0 x1 (x2 + r4) (x3 + 1) S_2 hA (Ta0) hm
set_option maxHeartbeats 1000000 in
set_option maxRecDepth 100000 in
theorem fr_X9_sum (P : Nat → Prop) (n : Nat) (S0 : pq_S) (hc : Clo P S0) (a0 : Nat) (x1 : Int32) (Ta0 : P a0) (r : Int32) (S1 : pq_S) (hm : m_X9_sum n a0 x1 S0 = some (r, S1)) : Ag P S0 S1 := by
  have hA : Ag P S0 S0 := Ag.rf _ _
  rw [m_X9_sum] at hm
  exact fb_X9_sum_4 P S0 hc n r S1 n a0 x1 0 0 S0 hA (Ta0) hm
set_option maxHeartbeats 1000000 in
set_option maxRecDepth 100000 in
theorem fr_X9_copyFrom (P : Nat → Prop) (n : Nat) (S0 : pq_S) (hc : Clo P S0) (a0 : Nat) (a1 : Nat) (Ta0 : P a0) (Ta1 : P a1) (S1 : pq_S) (hm : m_X9_copyFrom n a0 a1 S0 = some S1) : Ag P S0 S1 := by
  have hA : Ag P S0 S0 := Ag.rf _ _
  rw [m_X9_copyFrom] at hm
  have hA : Ag P S0 (sI S0 902 a0 (pI S0 902 a1)) := hA.sI Ta0
  obtain ⟨q1, hq1, hm⟩ := bd_some hm
  have Tq1 : P q1 := hA.clo hc Ta1 hq1
  obtain ⟨q2, hq2, hm⟩ := bd_some hm
  have Tq2 : P q2 := hA.clo hc Ta0 hq2
  obtain ⟨q3, hq3, hm⟩ := bd_some hm
  have Tq3 : P q3 := hA.clo hc Ta1 hq3
  obtain ⟨q4, hq4, hm⟩ := bd_some hm
  have Tq4 : P q4 := hA.clo hc Ta0 hq4
  obtain ⟨hc5, hm⟩ := ck_some hm
  have hA : Ag P S0 (sF (sI S0 902 a0 (pI S0 902 a1)) q2 (va_cpy (pA (sI S0 902 a0 (pI S0 902 a1)) q1) (pA (sI S0 902 a0 (pI S0 902 a1)) q2) (Int32.toNatClampNeg 0) (Int32.toNatClampNeg 0) (Int32.toNatClampNeg (if (Int32.ofNat (pN (sI S0 902 a0 (pI S0 902 a1)) q4)) < (Int32.ofNat (pN (sI S0 902 a0 (pI S0 902 a1)) q3)) then (Int32.ofNat (pN (sI S0 902 a0 (pI S0 902 a1)) q4)) else (Int32.ofNat (pN (sI S0 902 a0 (pI S0 902 a1)) q3)))))) := hA.sF Tq2
  obtain ⟨S_6, eS_6, hm⟩ := lt_some hm
  have hA : Ag P S0 S_6 := by rw [eS_6]; exact hA
  cases hm
  exact hA
set_option maxHeartbeats 1000000 in
set_option maxRecDepth 100000 in
theorem fr_X9_clear (P : Nat → Prop) (n : Nat) (S0 : pq_S) (hc : Clo P S0) (a0 : Nat) (Ta0 : P a0) (S1 : pq_S) (hm : m_X9_clear n a0 S0 = some S1) : Ag P S0 S1 := by
  have hA : Ag P S0 S0 := Ag.rf _ _
  rw [m_X9_clear] at hm
  have hA : Ag P S0 (sI S0 902 a0 0) := hA.sI Ta0
  obtain ⟨q1, hq1, hm⟩ := bd_some hm
  have Tq1 : P q1 := hA.clo hc Ta0 hq1
  obtain ⟨S_2, hq3, hm⟩ := bd_some hm
  have hA : Ag P S0 S_2 := hA.tr (fr_J7_fill_53178 P n (sI S0 902 a0 0) (hA.cl hc) q1 0 (Tq1)  S_2 hq3)
  cases hm
  exact hA
set_option maxHeartbeats 1000000 in
set_option maxRecDepth 100000 in
theorem fb_X10_append_3 (P : Nat → Prop) (S0 : pq_S) (hc : Clo P S0) (n : Nat) (S1 : pq_S) : ∀ (f : Nat) (a0 : Nat) (x1 : Int32) (x2 : Int32) (S : pq_S), Ag P S0 S → P a0 → b_X10_append_3 n f a0 x1 x2 S = some S1 → Ag P S0 S1 := by
  intro f
  induction f with
  | zero =>
    intro a0 x1 x2 S hA Ta0 hm
    cases hm
  | succ f ih =>
    intro a0 x1 x2 S hA Ta0 hm
    rw [b_X10_append_3] at hm
    by_cases h1 : x2 < 0
    · rw [if_pos h1] at hm
      cases hm
      exact hA
    · rw [if_neg h1] at hm
      obtain ⟨q2, hq2, hm⟩ := bd_some hm
      have Tq2 : P q2 := hA.clo hc Ta0 hq2
      by_cases h3 : (Int32.ofNat (pN S q2)) ≤ (pI S 1001 a0)
      · rw [if_pos h3] at hm
        cases hm
        exact hA
      · rw [if_neg h3] at hm
        obtain ⟨q4, hq4, hm⟩ := bd_some hm
        have Tq4 : P q4 := hA.clo hc Ta0 hq4
        obtain ⟨hi5, hm⟩ := ck_some hm
        have hA : Ag P S0 (sA S q4 (Int32.toNatClampNeg (pI S 1001 a0)) (vp_nar .byte (Int8.toInt32 (Int32.toInt8 (x1 >>> (x2 &&& (31 : Int32))))))) := hA.sA Tq4
        obtain ⟨S_6, eS_6, hm⟩ := lt_some hm
        have hA : Ag P S0 S_6 := by rw [eS_6]; exact hA
        have hA : Ag P S0 (sI S_6 1001 a0 ((pI S_6 1001 a0) + (1 : Int32))) := hA.sI Ta0
        exact ih a0 x1 (x2 + (-8)) (sI S_6 1001 a0 ((pI S_6 1001 a0) + (1 : Int32))) hA (Ta0) hm
set_option maxHeartbeats 1000000 in
set_option maxRecDepth 100000 in
theorem fr_X10_append (P : Nat → Prop) (n : Nat) (S0 : pq_S) (hc : Clo P S0) (a0 : Nat) (x1 : Int32) (Ta0 : P a0) (S1 : pq_S) (hm : m_X10_append n a0 x1 S0 = some S1) : Ag P S0 S1 := by
  have hA : Ag P S0 S0 := Ag.rf _ _
  rw [m_X10_append] at hm
  exact fb_X10_append_3 P S0 hc n S1 n a0 x1 24 S0 hA (Ta0) hm
set_option maxHeartbeats 1000000 in
set_option maxRecDepth 100000 in
theorem fr_X10_begin (P : Nat → Prop) (n : Nat) (S0 : pq_S) (hc : Clo P S0) (a0 : Nat) (x1 : Int32) (Ta0 : P a0) (S1 : pq_S) (hm : m_X10_begin n a0 x1 S0 = some S1) : Ag P S0 S1 := by
  have hA : Ag P S0 S0 := Ag.rf _ _
  rw [m_X10_begin] at hm
  obtain ⟨q1, hq1, hm⟩ := bd_some hm
  have Tq1 : P q1 := hA.clo hc Ta0 hq1
  have hA : Ag P S0 (sI S0 1002 a0 (if (Int32.ofNat (pN S0 q1)) < x1 then (Int32.ofNat (pN S0 q1)) else x1)) := hA.sI Ta0
  obtain ⟨S_2, eS_2, hm⟩ := lt_some hm
  have hA : Ag P S0 S_2 := by rw [eS_2]; exact hA
  have hA : Ag P S0 (sI S_2 1003 a0 0) := hA.sI Ta0
  have hA : Ag P S0 (sI (sI S_2 1003 a0 0) 1004 a0 0) := hA.sI Ta0
  have hA : Ag P S0 (sI (sI (sI S_2 1003 a0 0) 1004 a0 0) 1005 a0 0) := hA.sI Ta0
  have hA : Ag P S0 (sI (sI (sI (sI S_2 1003 a0 0) 1004 a0 0) 1005 a0 0) 1006 a0 0) := hA.sI Ta0
  cases hm
  exact hA
set_option maxHeartbeats 1000000 in
set_option maxRecDepth 100000 in
theorem fr_X10_isWell (P : Nat → Prop) (n : Nat) (S0 : pq_S) (hc : Clo P S0) (a0 : Nat) (Ta0 : P a0) (r : Int32) (S1 : pq_S) (hm : m_X10_isWell n a0 S0 = some (r, S1)) : Ag P S0 S1 := by
  have hA : Ag P S0 S0 := Ag.rf _ _
  rw [m_X10_isWell] at hm
  by_cases h1 : (pI S0 1005 a0) = 0
  · rw [if_pos h1] at hm
    cases hm
    exact hA
  · rw [if_neg h1] at hm
    cases hm
    exact hA
set_option maxHeartbeats 1000000 in
set_option maxRecDepth 100000 in
theorem fr_X10_refuse (P : Nat → Prop) (n : Nat) (S0 : pq_S) (hc : Clo P S0) (a0 : Nat) (x1 : Int32) (x2 : Int32) (Ta0 : P a0) (S1 : pq_S) (hm : m_X10_refuse n a0 x1 x2 S0 = some S1) : Ag P S0 S1 := by
  have hA : Ag P S0 S0 := Ag.rf _ _
  rw [m_X10_refuse] at hm
  by_cases h1 : (pI S0 1005 a0) = 0
  · rw [if_pos h1] at hm
    have hA : Ag P S0 (sI S0 1005 a0 x1) := hA.sI Ta0
    have hA : Ag P S0 (sI (sI S0 1005 a0 x1) 1006 a0 x2) := hA.sI Ta0
    cases hm
    exact hA
  · rw [if_neg h1] at hm
    cases hm
    exact hA
set_option maxHeartbeats 1000000 in
set_option maxRecDepth 100000 in
theorem fr_X10_byteAt (P : Nat → Prop) (n : Nat) (S0 : pq_S) (hc : Clo P S0) (a0 : Nat) (x1 : Int32) (Ta0 : P a0) (r : Int32) (S1 : pq_S) (hm : m_X10_byteAt n a0 x1 S0 = some (r, S1)) : Ag P S0 S1 := by
  have hA : Ag P S0 S0 := Ag.rf _ _
  rw [m_X10_byteAt] at hm
  by_cases h1 : x1 < 0
  · rw [if_pos h1] at hm
    cases hm
    exact hA
  · rw [if_neg h1] at hm
    by_cases h2 : (pI S0 1002 a0) ≤ x1
    · rw [if_pos h2] at hm
      cases hm
      exact hA
    · rw [if_neg h2] at hm
      obtain ⟨q3, hq3, hm⟩ := bd_some hm
      have Tq3 : P q3 := hA.clo hc Ta0 hq3
      by_cases h4 : (Int32.ofNat (pN S0 q3)) ≤ x1
      · rw [if_pos h4] at hm
        cases hm
        exact hA
      · rw [if_neg h4] at hm
        obtain ⟨q5, hq5, hm⟩ := bd_some hm
        have Tq5 : P q5 := hA.clo hc Ta0 hq5
        obtain ⟨hi6, hm⟩ := ck_some hm
        cases hm
        exact hA
set_option maxHeartbeats 1000000 in
set_option maxRecDepth 100000 in
theorem fb_X10_next_50 (P : Nat → Prop) (S0 : pq_S) (hc : Clo P S0) (n : Nat) (r : Int32) (S1 : pq_S) : ∀ (a0 : Nat) (S : pq_S), Ag P S0 S → P a0 → b_X10_next_50 n a0 S = some (r, S1) → Ag P S0 S1 := by
  intro a0 S hA Ta0 hm
  rw [b_X10_next_50] at hm
  by_cases h7 : (pI S 1005 a0) = 0
  · rw [if_pos h7] at hm
    by_cases h8 : (pI S 1002 a0) ≤ (pI S 1003 a0)
    · rw [if_pos h8] at hm
      cases hm
      exact hA
    · rw [if_neg h8] at hm
      obtain ⟨q9, hq9, hm⟩ := bd_some hm
      have Tq9 : P q9 := hA.clo hc Ta0 hq9
      by_cases h10 : (Int32.ofNat (pN S q9)) ≤ (pI S 1003 a0)
      · rw [if_pos h10] at hm
        cases hm
        exact hA
      · rw [if_neg h10] at hm
        obtain ⟨q11, hq11, hm⟩ := bd_some hm
        have Tq11 : P q11 := hA.clo hc Ta0 hq11
        obtain ⟨hi12, hm⟩ := ck_some hm
        cases hm
        exact hA
  · rw [if_neg h7] at hm
    cases hm
    exact hA
set_option maxHeartbeats 1000000 in
set_option maxRecDepth 100000 in
theorem fb_X10_next_0 (P : Nat → Prop) (S0 : pq_S) (hc : Clo P S0) (n : Nat) (r : Int32) (S1 : pq_S) : ∀ (f : Nat) (a0 : Nat) (S : pq_S), Ag P S0 S → P a0 → b_X10_next_0 n f a0 S = some (r, S1) → Ag P S0 S1 := by
  intro f
  induction f with
  | zero =>
    intro a0 S hA Ta0 hm
    cases hm
  | succ f ih =>
    intro a0 S hA Ta0 hm
    rw [b_X10_next_0] at hm
    by_cases h1 : (pI S 1002 a0) ≤ (pI S 1003 a0)
    · rw [if_pos h1] at hm
      exact fb_X10_next_50 P S0 hc n r S1 a0 S hA (Ta0) hm
    · rw [if_neg h1] at hm
      obtain ⟨q2, hq2, hm⟩ := bd_some hm
      have Tq2 : P q2 := hA.clo hc Ta0 hq2
      by_cases h3 : (Int32.ofNat (pN S q2)) ≤ (pI S 1003 a0)
      · rw [if_pos h3] at hm
        exact fb_X10_next_50 P S0 hc n r S1 a0 S hA (Ta0) hm
      · rw [if_neg h3] at hm
        obtain ⟨q4, hq4, hm⟩ := bd_some hm
        have Tq4 : P q4 := hA.clo hc Ta0 hq4
        obtain ⟨hi5, hm⟩ := ck_some hm
        by_cases h6 : (pA S q4 (Int32.toNatClampNeg (pI S 1003 a0))) = 32
        · rw [if_pos h6] at hm
          have hA : Ag P S0 (sI S 1003 a0 ((pI S 1003 a0) + (1 : Int32))) := hA.sI Ta0
          exact ih a0 (sI S 1003 a0 ((pI S 1003 a0) + (1 : Int32))) hA (Ta0) hm
        · rw [if_neg h6] at hm
          exact fb_X10_next_50 P S0 hc n r S1 a0 S hA (Ta0) hm
set_option maxHeartbeats 1000000 in
set_option maxRecDepth 100000 in
theorem fr_X10_next (P : Nat → Prop) (n : Nat) (S0 : pq_S) (hc : Clo P S0) (a0 : Nat) (Ta0 : P a0) (r : Int32) (S1 : pq_S) (hm : m_X10_next n a0 S0 = some (r, S1)) : Ag P S0 S1 := by
  have hA : Ag P S0 S0 := Ag.rf _ _
  rw [m_X10_next] at hm
  exact fb_X10_next_0 P S0 hc n r S1 n a0 S0 hA Ta0 hm
set_option maxHeartbeats 1000000 in
set_option maxRecDepth 100000 in
theorem fr_X10_takeSign (P : Nat → Prop) (n : Nat) (S0 : pq_S) (hc : Clo P S0) (a0 : Nat) (x1 : Int32) (Ta0 : P a0) (S1 : pq_S) (hm : m_X10_takeSign n a0 x1 S0 = some S1) : Ag P S0 S1 := by
  have hA : Ag P S0 S0 := Ag.rf _ _
  rw [m_X10_takeSign] at hm
  obtain ⟨r3, S_1, hq2, hm⟩ := cb_some hm
  have hA : Ag P S0 S_1 := hA.tr (fr_X10_next P n S0 (hA.cl hc) a0 (Ta0) r3 S_1 hq2)
  by_cases h4 : r3 = x1
  · rw [if_pos h4] at hm
    have hA : Ag P S0 (sI S_1 1003 a0 ((pI S_1 1003 a0) + (1 : Int32))) := hA.sI Ta0
    cases hm
    exact hA
  · rw [if_neg h4] at hm
    obtain ⟨S_5, hq6, hm⟩ := bd_some hm
    have hA : Ag P S0 S_5 := hA.tr (fr_X10_refuse P n S_1 (hA.cl hc) a0 1 (pI S_1 1003 a0) (Ta0)  S_5 hq6)
    cases hm
    exact hA
set_option maxHeartbeats 1000000 in
set_option maxRecDepth 100000 in
theorem fb_X10_takeNumber_99 (P : Nat → Prop) (S0 : pq_S) (hc : Clo P S0) (n : Nat) (r : Int32) (S1 : pq_S) : ∀ (a0 : Nat) (x1 : Int32) (x2 : Int32) (x3 : Int32) (x4 : Int32) (S : pq_S), Ag P S0 S → P a0 → b_X10_takeNumber_99 n a0 x1 x2 x3 x4 S = some (r, S1) → Ag P S0 S1 := by
  intro a0 x1 x2 x3 x4 S hA Ta0 hm
  rw [b_X10_takeNumber_99] at hm
  obtain ⟨r24, S_22, hq23, hm⟩ := cb_some hm
  have hA : Ag P S0 S_22 := hA.tr (fr_X11_isWithin P n S (hA.cl hc) x4 x1 x2  r24 S_22 hq23)
  by_cases h25 : r24 = 0
  · rw [if_pos h25] at hm
    obtain ⟨S_26, hq27, hm⟩ := bd_some hm
    have hA : Ag P S0 S_26 := hA.tr (fr_X10_refuse P n S_22 (hA.cl hc) a0 2 x3 (Ta0)  S_26 hq27)
    cases hm
    exact hA
  · rw [if_neg h25] at hm
    cases hm
    exact hA
set_option maxHeartbeats 1000000 in
set_option maxRecDepth 100000 in
theorem fb_X10_takeNumber_33 (P : Nat → Prop) (S0 : pq_S) (hc : Clo P S0) (n : Nat) (r : Int32) (S1 : pq_S) : ∀ (f : Nat) (a0 : Nat) (x1 : Int32) (x2 : Int32) (x3 : Int32) (x4 : Int32) (S : pq_S), Ag P S0 S → P a0 → b_X10_takeNumber_33 n f a0 x1 x2 x3 x4 S = some (r, S1) → Ag P S0 S1 := by
  intro f
  induction f with
  | zero =>
    intro a0 x1 x2 x3 x4 S hA Ta0 hm
    cases hm
  | succ f ih =>
    intro a0 x1 x2 x3 x4 S hA Ta0 hm
    rw [b_X10_takeNumber_33] at hm
    by_cases h10 : (pI S 1002 a0) ≤ (pI S 1003 a0)
    · rw [if_pos h10] at hm
      exact fb_X10_takeNumber_99 P S0 hc n r S1 a0 x1 x2 x3 x4 S hA (Ta0) hm
    · rw [if_neg h10] at hm
      obtain ⟨r13, S_11, hq12, hm⟩ := cb_some hm
      have hA : Ag P S0 S_11 := hA.tr (fr_X10_byteAt P n S (hA.cl hc) a0 (pI S 1003 a0) (Ta0) r13 S_11 hq12)
      obtain ⟨r16, S_14, hq15, hm⟩ := cb_some hm
      have hA : Ag P S0 S_14 := hA.tr (fr_X11_isWithin P n S_11 (hA.cl hc) r13 48 57  r16 S_14 hq15)
      by_cases h17 : r16 = 0
      · rw [if_pos h17] at hm
        exact fb_X10_takeNumber_99 P S0 hc n r S1 a0 x1 x2 x3 x4 S_14 hA (Ta0) hm
      · rw [if_neg h17] at hm
        obtain ⟨r20, S_18, hq19, hm⟩ := cb_some hm
        have hA : Ag P S0 S_18 := hA.tr (fr_X10_byteAt P n S_14 (hA.cl hc) a0 (pI S_14 1003 a0) (Ta0) r20 S_18 hq19)
        obtain ⟨v21, ev21, hm⟩ := lt_some hm
        have hA : Ag P S0 (sI S_18 1003 a0 ((pI S_18 1003 a0) + (1 : Int32))) := hA.sI Ta0
        exact ih a0 x1 x2 x3 v21 (sI S_18 1003 a0 ((pI S_18 1003 a0) + (1 : Int32))) hA (Ta0) hm
set_option maxHeartbeats 1000000 in
set_option maxRecDepth 100000 in
theorem fr_X10_takeNumber (P : Nat → Prop) (n : Nat) (S0 : pq_S) (hc : Clo P S0) (a0 : Nat) (x1 : Int32) (x2 : Int32) (Ta0 : P a0) (r : Int32) (S1 : pq_S) (hm : m_X10_takeNumber n a0 x1 x2 S0 = some (r, S1)) : Ag P S0 S1 := by
  have hA : Ag P S0 S0 := Ag.rf _ _
  rw [m_X10_takeNumber] at hm
  obtain ⟨r3, S_1, hq2, hm⟩ := cb_some hm
  have hA : Ag P S0 S_1 := hA.tr (fr_X10_next P n S0 (hA.cl hc) a0 (Ta0) r3 S_1 hq2)
  obtain ⟨r6, S_4, hq5, hm⟩ := cb_some hm
  have hA : Ag P S0 S_4 := hA.tr (fr_X11_isWithin P n S_1 (hA.cl hc) r3 48 57  r6 S_4 hq5)
  by_cases h7 : r6 = 0
  · rw [if_pos h7] at hm
    obtain ⟨S_8, hq9, hm⟩ := bd_some hm
    have hA : Ag P S0 S_8 := hA.tr (fr_X10_refuse P n S_4 (hA.cl hc) a0 1 (pI S_4 1003 a0) (Ta0)  S_8 hq9)
    cases hm
    exact hA
  · rw [if_neg h7] at hm
    exact fb_X10_takeNumber_33 P S0 hc n r S1 n a0 x1 x2 (pI S_4 1003 a0) 0 S_4 hA (Ta0) hm
set_option maxHeartbeats 1000000 in
set_option maxRecDepth 100000 in
theorem fb_X10_takeWord_31 (P : Nat → Prop) (S0 : pq_S) (hc : Clo P S0) (n : Nat) (S1 : pq_S) : ∀ (f : Nat) (a0 : Nat) (S : pq_S), Ag P S0 S → P a0 → b_X10_takeWord_31 n f a0 S = some S1 → Ag P S0 S1 := by
  intro f
  induction f with
  | zero =>
    intro a0 S hA Ta0 hm
    cases hm
  | succ f ih =>
    intro a0 S hA Ta0 hm
    rw [b_X10_takeWord_31] at hm
    by_cases h10 : (pI S 1002 a0) ≤ (pI S 1003 a0)
    · rw [if_pos h10] at hm
      cases hm
      exact hA
    · rw [if_neg h10] at hm
      obtain ⟨r13, S_11, hq12, hm⟩ := cb_some hm
      have hA : Ag P S0 S_11 := hA.tr (fr_X10_byteAt P n S (hA.cl hc) a0 (pI S 1003 a0) (Ta0) r13 S_11 hq12)
      obtain ⟨r16, S_14, hq15, hm⟩ := cb_some hm
      have hA : Ag P S0 S_14 := hA.tr (fr_X11_isWithin P n S_11 (hA.cl hc) r13 97 122  r16 S_14 hq15)
      by_cases h17 : r16 = 0
      · rw [if_pos h17] at hm
        cases hm
        exact hA
      · rw [if_neg h17] at hm
        have hA : Ag P S0 (sI S_14 1003 a0 ((pI S_14 1003 a0) + (1 : Int32))) := hA.sI Ta0
        exact ih a0 (sI S_14 1003 a0 ((pI S_14 1003 a0) + (1 : Int32))) hA (Ta0) hm
set_option maxHeartbeats 1000000 in
set_option maxRecDepth 100000 in
theorem fb_X10_takeWord_23 (P : Nat → Prop) (S0 : pq_S) (hc : Clo P S0) (n : Nat) (S1 : pq_S) : ∀ (a0 : Nat) (S : pq_S), Ag P S0 S → P a0 → b_X10_takeWord_23 n a0 S = some S1 → Ag P S0 S1 := by
  intro a0 S hA Ta0 hm
  rw [b_X10_takeWord_23] at hm
  have hA : Ag P S0 (sI S 1004 a0 (pI S 1003 a0)) := hA.sI Ta0
  exact fb_X10_takeWord_31 P S0 hc n S1 n a0 (sI S 1004 a0 (pI S 1003 a0)) hA (Ta0) hm
set_option maxHeartbeats 1000000 in
set_option maxRecDepth 100000 in
theorem fr_X10_takeWord (P : Nat → Prop) (n : Nat) (S0 : pq_S) (hc : Clo P S0) (a0 : Nat) (Ta0 : P a0) (S1 : pq_S) (hm : m_X10_takeWord n a0 S0 = some S1) : Ag P S0 S1 := by
  have hA : Ag P S0 S0 := Ag.rf _ _
  rw [m_X10_takeWord] at hm
  obtain ⟨r3, S_1, hq2, hm⟩ := cb_some hm
  have hA : Ag P S0 S_1 := hA.tr (fr_X10_next P n S0 (hA.cl hc) a0 (Ta0) r3 S_1 hq2)
  obtain ⟨r6, S_4, hq5, hm⟩ := cb_some hm
  have hA : Ag P S0 S_4 := hA.tr (fr_X11_isWithin P n S_1 (hA.cl hc) r3 97 122  r6 S_4 hq5)
  by_cases h7 : r6 = 0
  · rw [if_pos h7] at hm
    obtain ⟨S_8, hq9, hm⟩ := bd_some hm
    have hA : Ag P S0 S_8 := hA.tr (fr_X10_refuse P n S_4 (hA.cl hc) a0 1 (pI S_4 1003 a0) (Ta0)  S_8 hq9)
    exact fb_X10_takeWord_23 P S0 hc n S1 a0 S_8 hA (Ta0) hm
  · rw [if_neg h7] at hm
    exact fb_X10_takeWord_23 P S0 hc n S1 a0 S_4 hA (Ta0) hm
set_option maxHeartbeats 1000000 in
set_option maxRecDepth 100000 in
theorem fb_X10_isWord_20 (P : Nat → Prop) (S0 : pq_S) (hc : Clo P S0) (n : Nat) (r : Int32) (S1 : pq_S) : ∀ (f : Nat) (a0 : Nat) (a1 : Nat) (x2 : Int32) (S : pq_S), Ag P S0 S → P a0 → b_X10_isWord_20 n f a0 a1 x2 S = some (r, S1) → Ag P S0 S1 := by
  intro f
  induction f with
  | zero =>
    intro a0 a1 x2 S hA Ta0 hm
    cases hm
  | succ f ih =>
    intro a0 a1 x2 S hA Ta0 hm
    rw [b_X10_isWord_20] at hm
    by_cases h2 : (tx_len a1) ≤ x2
    · rw [if_pos h2] at hm
      cases hm
      exact hA
    · rw [if_neg h2] at hm
      obtain ⟨r5, S_3, hq4, hm⟩ := cb_some hm
      have hA : Ag P S0 S_3 := hA.tr (fr_X10_byteAt P n S (hA.cl hc) a0 ((pI S 1004 a0) + x2) (Ta0) r5 S_3 hq4)
      obtain ⟨hi6, hm⟩ := ck_some hm
      by_cases h7 : r5 = (tx_ch a1 x2)
      · rw [if_pos h7] at hm
        exact ih a0 a1 (x2 + 1) S_3 hA (Ta0) hm
      · rw [if_neg h7] at hm
        cases hm
        exact hA
set_option maxHeartbeats 1000000 in
set_option maxRecDepth 100000 in
theorem fr_X10_isWord (P : Nat → Prop) (n : Nat) (S0 : pq_S) (hc : Clo P S0) (a0 : Nat) (a1 : Nat) (Ta0 : P a0) (r : Int32) (S1 : pq_S) (hm : m_X10_isWord n a0 a1 S0 = some (r, S1)) : Ag P S0 S1 := by
  have hA : Ag P S0 S0 := Ag.rf _ _
  rw [m_X10_isWord] at hm
  by_cases h1 : ((pI S0 1003 a0) - (pI S0 1004 a0)) = (tx_len a1)
  · rw [if_pos h1] at hm
    exact fb_X10_isWord_20 P S0 hc n r S1 n a0 a1 0 S0 hA (Ta0) hm
  · rw [if_neg h1] at hm
    cases hm
    exact hA
def FG_optW (n : Nat) (rec : (Int32 → Int32 → Int32 → Int32 → Int32 → Int32 → Int32 → pq_S → Option (Int64 × pq_S))) : Prop := (∀ (P : Nat → Prop) (S0 : pq_S) (_ : Clo P S0) (x0 : Int32) (x1 : Int32) (x2 : Int32) (x3 : Int32) (x4 : Int32) (x5 : Int32) (x6 : Int32)  (r : Int64) (S1 : pq_S), rec x0 x1 x2 x3 x4 x5 x6 S0 = some (r, S1) → Ag P S0 S1)
set_option maxHeartbeats 1000000 in
set_option maxRecDepth 100000 in
theorem fg_X11_optionWorth (n : Nat) (rec : (Int32 → Int32 → Int32 → Int32 → Int32 → Int32 → Int32 → pq_S → Option (Int64 × pq_S))) (hrec : FG_optW n rec) (P : Nat → Prop) (S0 : pq_S) (hc : Clo P S0) (x0 : Int32) (x1 : Int32) (x2 : Int32) (x3 : Int32) (x4 : Int32) (x5 : Int32) (x6 : Int32)  (r : Int64) (S1 : pq_S) (hm : g_X11_optionWorth n rec x0 x1 x2 x3 x4 x5 x6 S0 = some (r, S1)) : Ag P S0 S1 := by
  have hA : Ag P S0 S0 := Ag.rf _ _
  rw [g_X11_optionWorth] at hm
  obtain ⟨r3, S_1, hq2, hm⟩ := cb_some hm
  have hA : Ag P S0 S_1 := hA.tr (fr_X11_scale P n S0 (hA.cl hc) x5  r3 S_1 hq2)
  obtain ⟨v4, ev4, hm⟩ := lt_some hm
  by_cases h5 : 0 < x5
  · rw [if_pos h5] at hm
    obtain ⟨r8, S_6, hq7, hm⟩ := cb_some hm
    have hA : Ag P S0 S_6 := hA.tr (hrec P S_1 (hA.cl hc) (x0 + x1) x1 x2 x3 x4 (x5 - (1 : Int32)) x6  r8 S_6 hq7)
    obtain ⟨r11, S_9, hq10, hm⟩ := cb_some hm
    have hA : Ag P S0 S_9 := hA.tr (hrec P S_6 (hA.cl hc) (if (x0 - x2) < 0 then 0 else (x0 - x2)) x1 x2 x3 x4 (x5 - (1 : Int32)) x6  r11 S_9 hq10)
    obtain ⟨v12, ev12, hm⟩ := lt_some hm
    by_cases h13 : x6 = 0
    · rw [if_pos h13] at hm
      cases hm
      exact hA
    · rw [if_neg h13] at hm
      cases hm
      exact hA
  · rw [if_neg h5] at hm
    cases hm
    exact hA
theorem fh_optW (n : Nat) : ∀ d : Nat, FG_optW n (m_optW_d n d) := by
  intro d
  induction d with
  | zero =>
    exact (fun _ _ _ _ _ _ _ _ _ _ _ _ hm => by cases hm)
  | succ d ih =>
    exact (fun q0 q1 q2 q3 q4 q5 q6 q7 q8 q9 q10 q11 hm => fg_X11_optionWorth n _ ih q0 q1 q2 q3 q4 q5 q6 q7 q8 q9 q10 q11 hm)
theorem fr_X11_optionWorth (P : Nat → Prop) (n : Nat) (S0 : pq_S) (hc : Clo P S0) (x0 : Int32) (x1 : Int32) (x2 : Int32) (x3 : Int32) (x4 : Int32) (x5 : Int32) (x6 : Int32)  (r : Int64) (S1 : pq_S) (hm : m_X11_optionWorth n x0 x1 x2 x3 x4 x5 x6 S0 = some (r, S1)) : Ag P S0 S1 := (fh_optW n 64) P S0 hc x0 x1 x2 x3 x4 x5 x6  r S1 hm
def FG_worO (n : Nat) (rec : (Nat → Int32 → Int32 → Int32 → pq_S → Option (Int64 × pq_S))) : Prop := (∀ (P : Nat → Prop) (S0 : pq_S) (_ : Clo P S0) (a0 : Nat) (x1 : Int32) (x2 : Int32) (x3 : Int32) (_Ta0 : P a0) (r : Int64) (S1 : pq_S), rec a0 x1 x2 x3 S0 = some (r, S1) → Ag P S0 S1)
set_option maxHeartbeats 1000000 in
set_option maxRecDepth 100000 in
theorem fb_X12_worthOf_110 (P : Nat → Prop) (S0 : pq_S) (hc : Clo P S0) (n : Nat) (rec : (Nat → Int32 → Int32 → Int32 → pq_S → Option (Int64 × pq_S))) (hrec : FG_worO n rec) (r : Int64) (S1 : pq_S) : ∀ (x7 : Int64) (S : pq_S), Ag P S0 S → b_X12_worthOf_110 n rec x7 S = some (r, S1) → Ag P S0 S1 := by
  intro x7 S hA hm
  rw [b_X12_worthOf_110] at hm
  cases hm
  exact hA
set_option maxHeartbeats 1000000 in
set_option maxRecDepth 100000 in
theorem fb_X12_worthOf_46 (P : Nat → Prop) (S0 : pq_S) (hc : Clo P S0) (n : Nat) (rec : (Nat → Int32 → Int32 → Int32 → pq_S → Option (Int64 × pq_S))) (hrec : FG_worO n rec) (r : Int64) (S1 : pq_S) : ∀ (a0 : Nat) (x1 : Int32) (x2 : Int32) (x3 : Int32) (x4 : Int64) (z0 : Int32) (S : pq_S), Ag P S0 S → P a0 → b_X12_worthOf_46 n rec a0 x1 x2 x3 x4 z0 S = some (r, S1) → Ag P S0 S1 := by
  intro a0 x1 x2 x3 x4 z0 S hA Ta0 hm
  rw [b_X12_worthOf_46] at hm
  obtain ⟨r6, S_4, hq5, hm⟩ := cb_some hm
  have hA : Ag P S0 S_4 := hA.tr (hrec P S (hA.cl hc) a0 (x1 + (pI S 1255 a0)) (x2 - (1 : Int32)) x3 (Ta0) r6 S_4 hq5)
  obtain ⟨r9, S_7, hq8, hm⟩ := cb_some hm
  have hA : Ag P S0 S_7 := hA.tr (hrec P S_4 (hA.cl hc) a0 z0 (x2 - (1 : Int32)) x3 (Ta0) r9 S_7 hq8)
  obtain ⟨v10, ev10, hm⟩ := lt_some hm
  obtain ⟨v11, ev11, hm⟩ := lt_some hm
  by_cases h12 : x3 = 0
  · rw [if_pos h12] at hm
    by_cases h13 : (lg_cmp v10 v11) ≤ 0
    · rw [if_pos h13] at hm
      cases hm
      exact hA
    · rw [if_neg h13] at hm
      exact fb_X12_worthOf_110 P S0 hc n rec hrec r S1 v10 S_7 hA  hm
  · rw [if_neg h12] at hm
    exact fb_X12_worthOf_110 P S0 hc n rec hrec r S1 v10 S_7 hA  hm
set_option maxHeartbeats 1000000 in
set_option maxRecDepth 100000 in
theorem fb_X12_worthOf_19 (P : Nat → Prop) (S0 : pq_S) (hc : Clo P S0) (n : Nat) (rec : (Nat → Int32 → Int32 → Int32 → pq_S → Option (Int64 × pq_S))) (hrec : FG_worO n rec) (r : Int64) (S1 : pq_S) : ∀ (a0 : Nat) (x1 : Int32) (x2 : Int32) (x3 : Int32) (z0 : Int64) (S : pq_S), Ag P S0 S → P a0 → b_X12_worthOf_19 n rec a0 x1 x2 x3 z0 S = some (r, S1) → Ag P S0 S1 := by
  intro a0 x1 x2 x3 z0 S hA Ta0 hm
  rw [b_X12_worthOf_19] at hm
  by_cases h2 : x2 = 0
  · rw [if_pos h2] at hm
    cases hm
    exact hA
  · rw [if_neg h2] at hm
    by_cases h3 : x1 ≤ (pI S 1256 a0)
    · rw [if_pos h3] at hm
      exact fb_X12_worthOf_46 P S0 hc n rec hrec r S1 a0 x1 x2 x3 z0 0 S hA (Ta0) hm
    · rw [if_neg h3] at hm
      exact fb_X12_worthOf_46 P S0 hc n rec hrec r S1 a0 x1 x2 x3 z0 (x1 - (pI S 1256 a0)) S hA (Ta0) hm
set_option maxHeartbeats 1000000 in
set_option maxRecDepth 100000 in
theorem fg_X12_worthOf (n : Nat) (rec : (Nat → Int32 → Int32 → Int32 → pq_S → Option (Int64 × pq_S))) (hrec : FG_worO n rec) (P : Nat → Prop) (S0 : pq_S) (hc : Clo P S0) (a0 : Nat) (x1 : Int32) (x2 : Int32) (x3 : Int32) (Ta0 : P a0) (r : Int64) (S1 : pq_S) (hm : g_X12_worthOf n rec a0 x1 x2 x3 S0 = some (r, S1)) : Ag P S0 S1 := by
  have hA : Ag P S0 S0 := Ag.rf _ _
  rw [g_X12_worthOf] at hm
  by_cases h1 : x1 ≤ (pI S0 1258 a0)
  · rw [if_pos h1] at hm
    exact fb_X12_worthOf_19 P S0 hc n rec hrec r S1 a0 x1 x2 x3 0 S0 hA (Ta0) hm
  · rw [if_neg h1] at hm
    exact fb_X12_worthOf_19 P S0 hc n rec hrec r S1 a0 x1 x2 x3 (Int32.toInt64 (x1 - (pI S0 1258 a0))) S0 hA (Ta0) hm
theorem fh_worO (n : Nat) : ∀ d : Nat, FG_worO n (m_worO_d n d) := by
  intro d
  induction d with
  | zero =>
    exact (fun _ _ _ _ _ _ _ _ _ _ hm => by cases hm)
  | succ d ih =>
    exact (fun q0 q1 q2 q3 q4 q5 q6 q7 q8 q9 hm => fg_X12_worthOf n _ ih q0 q1 q2 q3 q4 q5 q6 q7 q8 q9 hm)
theorem fr_X12_worthOf (P : Nat → Prop) (n : Nat) (S0 : pq_S) (hc : Clo P S0) (a0 : Nat) (x1 : Int32) (x2 : Int32) (x3 : Int32) (Ta0 : P a0) (r : Int64) (S1 : pq_S) (hm : m_X12_worthOf n a0 x1 x2 x3 S0 = some (r, S1)) : Ag P S0 S1 := (fh_worO n 64) P S0 hc a0 x1 x2 x3 Ta0 r S1 hm
def FG_fitO (n : Nat) (rec : (Nat → Int32 → Int32 → pq_S → Option (Int32 × pq_S))) : Prop := (∀ (P : Nat → Prop) (S0 : pq_S) (_ : Clo P S0) (a0 : Nat) (x1 : Int32) (x2 : Int32) (_Ta0 : P a0) (r : Int32) (S1 : pq_S), rec a0 x1 x2 S0 = some (r, S1) → Ag P S0 S1)
set_option maxHeartbeats 1000000 in
set_option maxRecDepth 100000 in
theorem fb_X12_fitsOn_101 (P : Nat → Prop) (S0 : pq_S) (hc : Clo P S0) (n : Nat) (rec : (Nat → Int32 → Int32 → pq_S → Option (Int32 × pq_S))) (hrec : FG_fitO n rec) (r : Int32) (S1 : pq_S) (k20 : Nat → Int32 → Int32 → Int32 → Int32 → pq_S → Option (Int32 × pq_S)) (hk20 : ∀ (a0 : Nat) (x1 : Int32) (x2 : Int32) (x3 : Int32) (x4 : Int32) (S : pq_S), Ag P S0 S → P a0 → k20 a0 x1 x2 x3 x4 S = some (r, S1) → Ag P S0 S1) : ∀ (a0 : Nat) (x1 : Int32) (x2 : Int32) (x3 : Int32) (x4 : Int32) (S : pq_S), Ag P S0 S → P a0 → b_X12_fitsOn_101 n rec k20 a0 x1 x2 x3 x4 S = some (r, S1) → Ag P S0 S1 := by
  intro a0 x1 x2 x3 x4 S hA Ta0 hm
  rw [b_X12_fitsOn_101] at hm
  exact hk20 a0 x1 x2 x3 (x4 + 1) S hA (Ta0) hm
set_option maxHeartbeats 1000000 in
set_option maxRecDepth 100000 in
theorem fb_X12_fitsOn_29 (P : Nat → Prop) (S0 : pq_S) (hc : Clo P S0) (n : Nat) (rec : (Nat → Int32 → Int32 → pq_S → Option (Int32 × pq_S))) (hrec : FG_fitO n rec) (r : Int32) (S1 : pq_S) : ∀ (f : Nat) (a0 : Nat) (x1 : Int32) (x2 : Int32) (x3 : Int32) (x4 : Int32) (S : pq_S), Ag P S0 S → P a0 → b_X12_fitsOn_29 n rec f a0 x1 x2 x3 x4 S = some (r, S1) → Ag P S0 S1 := by
  intro f
  induction f with
  | zero =>
    intro a0 x1 x2 x3 x4 S hA Ta0 hm
    cases hm
  | succ f ih =>
    intro a0 x1 x2 x3 x4 S hA Ta0 hm
    rw [b_X12_fitsOn_29] at hm
    by_cases h7 : x2 ≤ x4
    · rw [if_pos h7] at hm
      cases hm
      exact hA
    · rw [if_neg h7] at hm
      obtain ⟨q8, hq8, hm⟩ := bd_some hm
      have Tq8 : P q8 := hA.clo hc Ta0 hq8
      obtain ⟨hi9, hm⟩ := ck_some hm
      by_cases h10 : x3 ≤ (pA S q8 (Int32.toNatClampNeg x4))
      · rw [if_pos h10] at hm
        obtain ⟨q11, hq11, hm⟩ := bd_some hm
        have Tq11 : P q11 := hA.clo hc Ta0 hq11
        obtain ⟨hi12, hm⟩ := ck_some hm
        obtain ⟨hi13, hm⟩ := ck_some hm
        have hA : Ag P S0 (sA S q11 (Int32.toNatClampNeg x4) ((pA S q11 (Int32.toNatClampNeg x4)) - x3)) := hA.sA Tq11
        obtain ⟨S_14, eS_14, hm⟩ := lt_some hm
        have hA : Ag P S0 S_14 := by rw [eS_14]; exact hA
        obtain ⟨q15, hq15, hm⟩ := bd_some hm
        have Tq15 : P q15 := hA.clo hc Ta0 hq15
        obtain ⟨q16, hq16, hm⟩ := bd_some hm
        have Tq16 : P q16 := hA.clo hc Ta0 hq16
        obtain ⟨hi17, hm⟩ := ck_some hm
        obtain ⟨hi18, hm⟩ := ck_some hm
        have hA : Ag P S0 (sA S_14 q15 (Int32.toNatClampNeg (pA S_14 q16 (Int32.toNatClampNeg x1))) x4) := hA.sA Tq15
        obtain ⟨S_19, eS_19, hm⟩ := lt_some hm
        have hA : Ag P S0 S_19 := by rw [eS_19]; exact hA
        obtain ⟨r22, S_20, hq21, hm⟩ := cb_some hm
        have hA : Ag P S0 S_20 := hA.tr (hrec P S_19 (hA.cl hc) a0 (x1 + (1 : Int32)) x2 (Ta0) r22 S_20 hq21)
        obtain ⟨q23, hq23, hm⟩ := bd_some hm
        have Tq23 : P q23 := hA.clo hc Ta0 hq23
        obtain ⟨hi24, hm⟩ := ck_some hm
        obtain ⟨hi25, hm⟩ := ck_some hm
        have hA : Ag P S0 (sA S_20 q23 (Int32.toNatClampNeg x4) ((pA S_20 q23 (Int32.toNatClampNeg x4)) + x3)) := hA.sA Tq23
        obtain ⟨S_26, eS_26, hm⟩ := lt_some hm
        have hA : Ag P S0 S_26 := by rw [eS_26]; exact hA
        by_cases h27 : r22 = 0
        · rw [if_pos h27] at hm
          exact fb_X12_fitsOn_101 P S0 hc n rec hrec r S1 _ ih a0 x1 x2 x3 x4 S_26 hA (Ta0) hm
        · rw [if_neg h27] at hm
          cases hm
          exact hA
      · rw [if_neg h10] at hm
        exact fb_X12_fitsOn_101 P S0 hc n rec hrec r S1 _ ih a0 x1 x2 x3 x4 S hA (Ta0) hm
set_option maxHeartbeats 1000000 in
set_option maxRecDepth 100000 in
theorem fg_X12_fitsOn (n : Nat) (rec : (Nat → Int32 → Int32 → pq_S → Option (Int32 × pq_S))) (hrec : FG_fitO n rec) (P : Nat → Prop) (S0 : pq_S) (hc : Clo P S0) (a0 : Nat) (x1 : Int32) (x2 : Int32) (Ta0 : P a0) (r : Int32) (S1 : pq_S) (hm : g_X12_fitsOn n rec a0 x1 x2 S0 = some (r, S1)) : Ag P S0 S1 := by
  have hA : Ag P S0 S0 := Ag.rf _ _
  rw [g_X12_fitsOn] at hm
  by_cases h1 : x1 = (pI S0 1261 a0)
  · rw [if_pos h1] at hm
    cases hm
    exact hA
  · rw [if_neg h1] at hm
    obtain ⟨q2, hq2, hm⟩ := bd_some hm
    have Tq2 : P q2 := hA.clo hc Ta0 hq2
    obtain ⟨q3, hq3, hm⟩ := bd_some hm
    have Tq3 : P q3 := hA.clo hc Ta0 hq3
    obtain ⟨hi4, hm⟩ := ck_some hm
    obtain ⟨hi5, hm⟩ := ck_some hm
    obtain ⟨v6, ev6, hm⟩ := lt_some hm
    exact fb_X12_fitsOn_29 P S0 hc n rec hrec r S1 n a0 x1 x2 v6 0 S0 hA (Ta0) hm
theorem fh_fitO (n : Nat) : ∀ d : Nat, FG_fitO n (m_fitO_d n d) := by
  intro d
  induction d with
  | zero =>
    exact (fun _ _ _ _ _ _ _ _ _ hm => by cases hm)
  | succ d ih =>
    exact (fun q0 q1 q2 q3 q4 q5 q6 q7 q8 hm => fg_X12_fitsOn n _ ih q0 q1 q2 q3 q4 q5 q6 q7 q8 hm)
theorem fr_X12_fitsOn (P : Nat → Prop) (n : Nat) (S0 : pq_S) (hc : Clo P S0) (a0 : Nat) (x1 : Int32) (x2 : Int32) (Ta0 : P a0) (r : Int32) (S1 : pq_S) (hm : m_X12_fitsOn n a0 x1 x2 S0 = some (r, S1)) : Ag P S0 S1 := (fh_fitO n 64) P S0 hc a0 x1 x2 Ta0 r S1 hm
def FG_modP (n : Nat) (rec : (Nat → pq_S → Option pq_S) × (Nat → pq_S → Option pq_S) × (Nat → Int32 → Int32 → pq_S → Option pq_S) × (Nat → pq_S → Option pq_S)) : Prop := (∀ (P : Nat → Prop) (S0 : pq_S) (_ : Clo P S0) (a0 : Nat) (_Ta0 : P a0) (S1 : pq_S), rec.1 a0 S0 = some S1 → Ag P S0 S1) ∧ (∀ (P : Nat → Prop) (S0 : pq_S) (_ : Clo P S0) (a0 : Nat) (_Ta0 : P a0) (S1 : pq_S), rec.2.1 a0 S0 = some S1 → Ag P S0 S1) ∧ (∀ (P : Nat → Prop) (S0 : pq_S) (_ : Clo P S0) (a0 : Nat) (x1 : Int32) (x2 : Int32) (_Ta0 : P a0) (S1 : pq_S), rec.2.2.1 a0 x1 x2 S0 = some S1 → Ag P S0 S1) ∧ (∀ (P : Nat → Prop) (S0 : pq_S) (_ : Clo P S0) (a0 : Nat) (_Ta0 : P a0) (S1 : pq_S), rec.2.2.2 a0 S0 = some S1 → Ag P S0 S1)
set_option maxHeartbeats 1000000 in
set_option maxRecDepth 100000 in
theorem fb_X12_readSum_43 (P : Nat → Prop) (S0 : pq_S) (hc : Clo P S0) (n : Nat) (rec : (Nat → pq_S → Option pq_S) × (Nat → pq_S → Option pq_S) × (Nat → Int32 → Int32 → pq_S → Option pq_S) × (Nat → pq_S → Option pq_S)) (hrec : FG_modP n rec) (S1 : pq_S) (k2 : Nat → pq_S → Option pq_S) (hk2 : ∀ (a0 : Nat) (S : pq_S), Ag P S0 S → P a0 → k2 a0 S = some S1 → Ag P S0 S1) : ∀ (a0 : Nat) (z0 : Int32) (S : pq_S), Ag P S0 S → P a0 → b_X12_readSum_43 n rec k2 a0 z0 S = some S1 → Ag P S0 S1 := by
  intro a0 z0 S hA Ta0 hm
  rw [b_X12_readSum_43] at hm
  have hA : Ag P S0 (sI S 1204 a0 ((pI S 1204 a0) + (1 : Int32))) := hA.sI Ta0
  obtain ⟨S_19, hq20, hm⟩ := bd_some hm
  have hA : Ag P S0 S_19 := hA.tr (hrec.2.1 P (sI S 1204 a0 ((pI S 1204 a0) + (1 : Int32))) (hA.cl hc) a0 (Ta0)  S_19 hq20)
  obtain ⟨S_21, hq22, hm⟩ := bd_some hm
  have hA : Ag P S0 S_21 := hA.tr (fr_X12_emit P n S_19 (hA.cl hc) a0 z0 0 (Ta0)  S_21 hq22)
  exact hk2 a0 S_21 hA (Ta0) hm
set_option maxHeartbeats 1000000 in
set_option maxRecDepth 100000 in
theorem fb_X12_readSum_29 (P : Nat → Prop) (S0 : pq_S) (hc : Clo P S0) (n : Nat) (rec : (Nat → pq_S → Option pq_S) × (Nat → pq_S → Option pq_S) × (Nat → Int32 → Int32 → pq_S → Option pq_S) × (Nat → pq_S → Option pq_S)) (hrec : FG_modP n rec) (S1 : pq_S) (k2 : Nat → pq_S → Option pq_S) (hk2 : ∀ (a0 : Nat) (S : pq_S), Ag P S0 S → P a0 → k2 a0 S = some S1 → Ag P S0 S1) : ∀ (a0 : Nat) (S : pq_S), Ag P S0 S → P a0 → b_X12_readSum_29 n rec k2 a0 S = some S1 → Ag P S0 S1 := by
  intro a0 S hA Ta0 hm
  rw [b_X12_readSum_29] at hm
  obtain ⟨r17, S_15, hq16, hm⟩ := cb_some hm
  have hA : Ag P S0 S_15 := hA.tr (fr_X12_here P n S (hA.cl hc) a0 (Ta0) r17 S_15 hq16)
  by_cases h18 : r17 = 43
  · rw [if_pos h18] at hm
    exact fb_X12_readSum_43 P S0 hc n rec hrec S1 _ hk2 a0 2 S_15 hA (Ta0) hm
  · rw [if_neg h18] at hm
    exact fb_X12_readSum_43 P S0 hc n rec hrec S1 _ hk2 a0 3 S_15 hA (Ta0) hm
set_option maxHeartbeats 1000000 in
set_option maxRecDepth 100000 in
theorem fb_X12_readSum_4 (P : Nat → Prop) (S0 : pq_S) (hc : Clo P S0) (n : Nat) (rec : (Nat → pq_S → Option pq_S) × (Nat → pq_S → Option pq_S) × (Nat → Int32 → Int32 → pq_S → Option pq_S) × (Nat → pq_S → Option pq_S)) (hrec : FG_modP n rec) (S1 : pq_S) : ∀ (f : Nat) (a0 : Nat) (S : pq_S), Ag P S0 S → P a0 → b_X12_readSum_4 n rec f a0 S = some S1 → Ag P S0 S1 := by
  intro f
  induction f with
  | zero =>
    intro a0 S hA Ta0 hm
    cases hm
  | succ f ih =>
    intro a0 S hA Ta0 hm
    rw [b_X12_readSum_4] at hm
    obtain ⟨r5, S_3, hq4, hm⟩ := cb_some hm
    have hA : Ag P S0 S_3 := hA.tr (fr_X12_fine P n S (hA.cl hc) a0 (Ta0) r5 S_3 hq4)
    by_cases h6 : r5 = 0
    · rw [if_pos h6] at hm
      cases hm
      exact hA
    · rw [if_neg h6] at hm
      obtain ⟨r9, S_7, hq8, hm⟩ := cb_some hm
      have hA : Ag P S0 S_7 := hA.tr (fr_X12_here P n S_3 (hA.cl hc) a0 (Ta0) r9 S_7 hq8)
      by_cases h10 : r9 = 43
      · rw [if_pos h10] at hm
        exact fb_X12_readSum_29 P S0 hc n rec hrec S1 _ ih a0 S_7 hA (Ta0) hm
      · rw [if_neg h10] at hm
        obtain ⟨r13, S_11, hq12, hm⟩ := cb_some hm
        have hA : Ag P S0 S_11 := hA.tr (fr_X12_here P n S_7 (hA.cl hc) a0 (Ta0) r13 S_11 hq12)
        by_cases h14 : r13 = 45
        · rw [if_pos h14] at hm
          exact fb_X12_readSum_29 P S0 hc n rec hrec S1 _ ih a0 S_11 hA (Ta0) hm
        · rw [if_neg h14] at hm
          cases hm
          exact hA
set_option maxHeartbeats 1000000 in
set_option maxRecDepth 100000 in
theorem fg_X12_readSum (n : Nat) (rec : (Nat → pq_S → Option pq_S) × (Nat → pq_S → Option pq_S) × (Nat → Int32 → Int32 → pq_S → Option pq_S) × (Nat → pq_S → Option pq_S)) (hrec : FG_modP n rec) (P : Nat → Prop) (S0 : pq_S) (hc : Clo P S0) (a0 : Nat) (Ta0 : P a0) (S1 : pq_S) (hm : g_X12_readSum n rec a0 S0 = some S1) : Ag P S0 S1 := by
  have hA : Ag P S0 S0 := Ag.rf _ _
  rw [g_X12_readSum] at hm
  obtain ⟨S_1, hq2, hm⟩ := bd_some hm
  have hA : Ag P S0 S_1 := hA.tr (hrec.2.1 P S0 (hA.cl hc) a0 (Ta0)  S_1 hq2)
  exact fb_X12_readSum_4 P S0 hc n rec hrec S1 n a0 S_1 hA (Ta0) hm
set_option maxHeartbeats 1000000 in
set_option maxRecDepth 100000 in
theorem fb_X12_readProduct_43 (P : Nat → Prop) (S0 : pq_S) (hc : Clo P S0) (n : Nat) (rec : (Nat → pq_S → Option pq_S) × (Nat → pq_S → Option pq_S) × (Nat → Int32 → Int32 → pq_S → Option pq_S) × (Nat → pq_S → Option pq_S)) (hrec : FG_modP n rec) (S1 : pq_S) (k2 : Nat → pq_S → Option pq_S) (hk2 : ∀ (a0 : Nat) (S : pq_S), Ag P S0 S → P a0 → k2 a0 S = some S1 → Ag P S0 S1) : ∀ (a0 : Nat) (z0 : Int32) (S : pq_S), Ag P S0 S → P a0 → b_X12_readProduct_43 n rec k2 a0 z0 S = some S1 → Ag P S0 S1 := by
  intro a0 z0 S hA Ta0 hm
  rw [b_X12_readProduct_43] at hm
  have hA : Ag P S0 (sI S 1204 a0 ((pI S 1204 a0) + (1 : Int32))) := hA.sI Ta0
  obtain ⟨S_19, hq20, hm⟩ := bd_some hm
  have hA : Ag P S0 S_19 := hA.tr (hrec.2.2.2 P (sI S 1204 a0 ((pI S 1204 a0) + (1 : Int32))) (hA.cl hc) a0 (Ta0)  S_19 hq20)
  obtain ⟨S_21, hq22, hm⟩ := bd_some hm
  have hA : Ag P S0 S_21 := hA.tr (fr_X12_emit P n S_19 (hA.cl hc) a0 z0 0 (Ta0)  S_21 hq22)
  exact hk2 a0 S_21 hA (Ta0) hm
set_option maxHeartbeats 1000000 in
set_option maxRecDepth 100000 in
theorem fb_X12_readProduct_29 (P : Nat → Prop) (S0 : pq_S) (hc : Clo P S0) (n : Nat) (rec : (Nat → pq_S → Option pq_S) × (Nat → pq_S → Option pq_S) × (Nat → Int32 → Int32 → pq_S → Option pq_S) × (Nat → pq_S → Option pq_S)) (hrec : FG_modP n rec) (S1 : pq_S) (k2 : Nat → pq_S → Option pq_S) (hk2 : ∀ (a0 : Nat) (S : pq_S), Ag P S0 S → P a0 → k2 a0 S = some S1 → Ag P S0 S1) : ∀ (a0 : Nat) (S : pq_S), Ag P S0 S → P a0 → b_X12_readProduct_29 n rec k2 a0 S = some S1 → Ag P S0 S1 := by
  intro a0 S hA Ta0 hm
  rw [b_X12_readProduct_29] at hm
  obtain ⟨r17, S_15, hq16, hm⟩ := cb_some hm
  have hA : Ag P S0 S_15 := hA.tr (fr_X12_here P n S (hA.cl hc) a0 (Ta0) r17 S_15 hq16)
  by_cases h18 : r17 = 42
  · rw [if_pos h18] at hm
    exact fb_X12_readProduct_43 P S0 hc n rec hrec S1 _ hk2 a0 4 S_15 hA (Ta0) hm
  · rw [if_neg h18] at hm
    exact fb_X12_readProduct_43 P S0 hc n rec hrec S1 _ hk2 a0 5 S_15 hA (Ta0) hm
set_option maxHeartbeats 1000000 in
set_option maxRecDepth 100000 in
theorem fb_X12_readProduct_4 (P : Nat → Prop) (S0 : pq_S) (hc : Clo P S0) (n : Nat) (rec : (Nat → pq_S → Option pq_S) × (Nat → pq_S → Option pq_S) × (Nat → Int32 → Int32 → pq_S → Option pq_S) × (Nat → pq_S → Option pq_S)) (hrec : FG_modP n rec) (S1 : pq_S) : ∀ (f : Nat) (a0 : Nat) (S : pq_S), Ag P S0 S → P a0 → b_X12_readProduct_4 n rec f a0 S = some S1 → Ag P S0 S1 := by
  intro f
  induction f with
  | zero =>
    intro a0 S hA Ta0 hm
    cases hm
  | succ f ih =>
    intro a0 S hA Ta0 hm
    rw [b_X12_readProduct_4] at hm
    obtain ⟨r5, S_3, hq4, hm⟩ := cb_some hm
    have hA : Ag P S0 S_3 := hA.tr (fr_X12_fine P n S (hA.cl hc) a0 (Ta0) r5 S_3 hq4)
    by_cases h6 : r5 = 0
    · rw [if_pos h6] at hm
      cases hm
      exact hA
    · rw [if_neg h6] at hm
      obtain ⟨r9, S_7, hq8, hm⟩ := cb_some hm
      have hA : Ag P S0 S_7 := hA.tr (fr_X12_here P n S_3 (hA.cl hc) a0 (Ta0) r9 S_7 hq8)
      by_cases h10 : r9 = 42
      · rw [if_pos h10] at hm
        exact fb_X12_readProduct_29 P S0 hc n rec hrec S1 _ ih a0 S_7 hA (Ta0) hm
      · rw [if_neg h10] at hm
        obtain ⟨r13, S_11, hq12, hm⟩ := cb_some hm
        have hA : Ag P S0 S_11 := hA.tr (fr_X12_here P n S_7 (hA.cl hc) a0 (Ta0) r13 S_11 hq12)
        by_cases h14 : r13 = 47
        · rw [if_pos h14] at hm
          exact fb_X12_readProduct_29 P S0 hc n rec hrec S1 _ ih a0 S_11 hA (Ta0) hm
        · rw [if_neg h14] at hm
          cases hm
          exact hA
set_option maxHeartbeats 1000000 in
set_option maxRecDepth 100000 in
theorem fg_X12_readProduct (n : Nat) (rec : (Nat → pq_S → Option pq_S) × (Nat → pq_S → Option pq_S) × (Nat → Int32 → Int32 → pq_S → Option pq_S) × (Nat → pq_S → Option pq_S)) (hrec : FG_modP n rec) (P : Nat → Prop) (S0 : pq_S) (hc : Clo P S0) (a0 : Nat) (Ta0 : P a0) (S1 : pq_S) (hm : g_X12_readProduct n rec a0 S0 = some S1) : Ag P S0 S1 := by
  have hA : Ag P S0 S0 := Ag.rf _ _
  rw [g_X12_readProduct] at hm
  obtain ⟨S_1, hq2, hm⟩ := bd_some hm
  have hA : Ag P S0 S_1 := hA.tr (hrec.2.2.2 P S0 (hA.cl hc) a0 (Ta0)  S_1 hq2)
  exact fb_X12_readProduct_4 P S0 hc n rec hrec S1 n a0 S_1 hA (Ta0) hm
set_option maxHeartbeats 1000000 in
set_option maxRecDepth 100000 in
theorem fg_X12_readTwo (n : Nat) (rec : (Nat → pq_S → Option pq_S) × (Nat → pq_S → Option pq_S) × (Nat → Int32 → Int32 → pq_S → Option pq_S) × (Nat → pq_S → Option pq_S)) (hrec : FG_modP n rec) (P : Nat → Prop) (S0 : pq_S) (hc : Clo P S0) (a0 : Nat) (x1 : Int32) (x2 : Int32) (Ta0 : P a0) (S1 : pq_S) (hm : g_X12_readTwo n rec a0 x1 x2 S0 = some S1) : Ag P S0 S1 := by
  have hA : Ag P S0 S0 := Ag.rf _ _
  rw [g_X12_readTwo] at hm
  obtain ⟨S_1, hq2, hm⟩ := bd_some hm
  have hA : Ag P S0 S_1 := hA.tr (fr_X12_opensOne P n S0 (hA.cl hc) a0 x1 (Ta0)  S_1 hq2)
  obtain ⟨S_3, hq4, hm⟩ := bd_some hm
  have hA : Ag P S0 S_3 := hA.tr (fr_X12_sign P n S_1 (hA.cl hc) a0 91 (Ta0)  S_3 hq4)
  obtain ⟨S_5, hq6, hm⟩ := bd_some hm
  have hA : Ag P S0 S_5 := hA.tr (hrec.1 P S_3 (hA.cl hc) a0 (Ta0)  S_5 hq6)
  obtain ⟨S_7, hq8, hm⟩ := bd_some hm
  have hA : Ag P S0 S_7 := hA.tr (fr_X12_sign P n S_5 (hA.cl hc) a0 44 (Ta0)  S_7 hq8)
  obtain ⟨S_9, hq10, hm⟩ := bd_some hm
  have hA : Ag P S0 S_9 := hA.tr (hrec.1 P S_7 (hA.cl hc) a0 (Ta0)  S_9 hq10)
  obtain ⟨S_11, hq12, hm⟩ := bd_some hm
  have hA : Ag P S0 S_11 := hA.tr (fr_X12_sign P n S_9 (hA.cl hc) a0 93 (Ta0)  S_11 hq12)
  have hA : Ag P S0 (sI S_11 1207 a0 ((pI S_11 1207 a0) - (1 : Int32))) := hA.sI Ta0
  obtain ⟨S_13, hq14, hm⟩ := bd_some hm
  have hA : Ag P S0 S_13 := hA.tr (fr_X12_emit P n (sI S_11 1207 a0 ((pI S_11 1207 a0) - (1 : Int32))) (hA.cl hc) a0 x2 0 (Ta0)  S_13 hq14)
  cases hm
  exact hA
set_option maxHeartbeats 1000000 in
set_option maxRecDepth 100000 in
theorem fb_X12_readUnit_136 (P : Nat → Prop) (S0 : pq_S) (hc : Clo P S0) (n : Nat) (rec : (Nat → pq_S → Option pq_S) × (Nat → pq_S → Option pq_S) × (Nat → Int32 → Int32 → pq_S → Option pq_S) × (Nat → pq_S → Option pq_S)) (hrec : FG_modP n rec) (S1 : pq_S) : ∀ (a0 : Nat) (x1 : Int32) (S : pq_S), Ag P S0 S → P a0 → b_X12_readUnit_136 n rec a0 x1 S = some S1 → Ag P S0 S1 := by
  intro a0 x1 S hA Ta0 hm
  rw [b_X12_readUnit_136] at hm
  obtain ⟨r53, S_51, hq52, hm⟩ := cb_some hm
  have hA : Ag P S0 S_51 := hA.tr (fr_X12_fine P n S (hA.cl hc) a0 (Ta0) r53 S_51 hq52)
  by_cases h54 : r53 = 0
  · rw [if_pos h54] at hm
    cases hm
    exact hA
  · rw [if_neg h54] at hm
    obtain ⟨S_55, hq56, hm⟩ := bd_some hm
    have hA : Ag P S0 S_55 := hA.tr (fr_X12_pass P n S_51 (hA.cl hc) a0 (Ta0)  S_55 hq56)
    obtain ⟨S_57, hq58, hm⟩ := bd_some hm
    have hA : Ag P S0 S_57 := hA.tr (fr_X12_emit P n S_55 (hA.cl hc) a0 1 x1 (Ta0)  S_57 hq58)
    cases hm
    exact hA
set_option maxHeartbeats 1000000 in
set_option maxRecDepth 100000 in
theorem fg_X12_readUnit (n : Nat) (rec : (Nat → pq_S → Option pq_S) × (Nat → pq_S → Option pq_S) × (Nat → Int32 → Int32 → pq_S → Option pq_S) × (Nat → pq_S → Option pq_S)) (hrec : FG_modP n rec) (P : Nat → Prop) (S0 : pq_S) (hc : Clo P S0) (a0 : Nat) (Ta0 : P a0) (S1 : pq_S) (hm : g_X12_readUnit n rec a0 S0 = some S1) : Ag P S0 S1 := by
  have hA : Ag P S0 S0 := Ag.rf _ _
  rw [g_X12_readUnit] at hm
  obtain ⟨r3, S_1, hq2, hm⟩ := cb_some hm
  have hA : Ag P S0 S_1 := hA.tr (fr_X12_fine P n S0 (hA.cl hc) a0 (Ta0) r3 S_1 hq2)
  by_cases h4 : r3 = 0
  · rw [if_pos h4] at hm
    cases hm
    exact hA
  · rw [if_neg h4] at hm
    obtain ⟨r7, S_5, hq6, hm⟩ := cb_some hm
    have hA : Ag P S0 S_5 := hA.tr (fr_X12_here P n S_1 (hA.cl hc) a0 (Ta0) r7 S_5 hq6)
    by_cases h8 : r7 = 40
    · rw [if_pos h8] at hm
      obtain ⟨S_45, hq46, hm⟩ := bd_some hm
      have hA : Ag P S0 S_45 := hA.tr (fr_X12_opensOne P n S_5 (hA.cl hc) a0 1 (Ta0)  S_45 hq46)
      obtain ⟨S_47, hq48, hm⟩ := bd_some hm
      have hA : Ag P S0 S_47 := hA.tr (hrec.1 P S_45 (hA.cl hc) a0 (Ta0)  S_47 hq48)
      obtain ⟨S_49, hq50, hm⟩ := bd_some hm
      have hA : Ag P S0 S_49 := hA.tr (fr_X12_sign P n S_47 (hA.cl hc) a0 41 (Ta0)  S_49 hq50)
      have hA : Ag P S0 (sI S_49 1207 a0 ((pI S_49 1207 a0) - (1 : Int32))) := hA.sI Ta0
      cases hm
      exact hA
    · rw [if_neg h8] at hm
      obtain ⟨r11, S_9, hq10, hm⟩ := cb_some hm
      have hA : Ag P S0 S_9 := hA.tr (fr_X12_here P n S_5 (hA.cl hc) a0 (Ta0) r11 S_9 hq10)
      obtain ⟨r14, S_12, hq13, hm⟩ := cb_some hm
      have hA : Ag P S0 S_12 := hA.tr (fr_X12_isDigit P n S_9 (hA.cl hc) r11  r14 S_12 hq13)
      by_cases h15 : r14 = 0
      · rw [if_pos h15] at hm
        obtain ⟨r18, S_16, hq17, hm⟩ := cb_some hm
        have hA : Ag P S0 S_16 := hA.tr (fr_X12_word P n S_12 (hA.cl hc) a0 (Ta0) r18 S_16 hq17)
        obtain ⟨r21, S_19, hq20, hm⟩ := cb_some hm
        have hA : Ag P S0 S_19 := hA.tr (fr_X12_of P n S_16 (hA.cl hc) 6  r21 S_19 hq20)
        by_cases h22 : r18 = r21
        · rw [if_pos h22] at hm
          obtain ⟨S_38, hq39, hm⟩ := bd_some hm
          have hA : Ag P S0 S_38 := hA.tr (hrec.2.2.1 P S_19 (hA.cl hc) a0 5 6 (Ta0)  S_38 hq39)
          cases hm
          exact hA
        · rw [if_neg h22] at hm
          obtain ⟨r25, S_23, hq24, hm⟩ := cb_some hm
          have hA : Ag P S0 S_23 := hA.tr (fr_X12_word P n S_19 (hA.cl hc) a0 (Ta0) r25 S_23 hq24)
          obtain ⟨r28, S_26, hq27, hm⟩ := cb_some hm
          have hA : Ag P S0 S_26 := hA.tr (fr_X12_of P n S_23 (hA.cl hc) 7  r28 S_26 hq27)
          by_cases h29 : r25 = r28
          · rw [if_pos h29] at hm
            obtain ⟨S_36, hq37, hm⟩ := bd_some hm
            have hA : Ag P S0 S_36 := hA.tr (hrec.2.2.1 P S_26 (hA.cl hc) a0 4 7 (Ta0)  S_36 hq37)
            cases hm
            exact hA
          · rw [if_neg h29] at hm
            obtain ⟨r32, S_30, hq31, hm⟩ := cb_some hm
            have hA : Ag P S0 S_30 := hA.tr (fr_X12_factHere P n S_26 (hA.cl hc) a0 (Ta0) r32 S_30 hq31)
            by_cases h33 : r32 = (-1)
            · rw [if_pos h33] at hm
              obtain ⟨S_34, hq35, hm⟩ := bd_some hm
              have hA : Ag P S0 S_34 := hA.tr (fr_X12_wrong P n S_30 (hA.cl hc) a0 1 (pI S_30 1204 a0) (Ta0)  S_34 hq35)
              exact fb_X12_readUnit_136 P S0 hc n rec hrec S1 a0 r32 S_34 hA (Ta0) hm
            · rw [if_neg h33] at hm
              exact fb_X12_readUnit_136 P S0 hc n rec hrec S1 a0 r32 S_30 hA (Ta0) hm
      · rw [if_neg h15] at hm
        obtain ⟨r42, S_40, hq41, hm⟩ := cb_some hm
        have hA : Ag P S0 S_40 := hA.tr (fr_X12_readNumber P n S_12 (hA.cl hc) a0 0 999 (Ta0) r42 S_40 hq41)
        obtain ⟨S_43, hq44, hm⟩ := bd_some hm
        have hA : Ag P S0 S_43 := hA.tr (fr_X12_emit P n S_40 (hA.cl hc) a0 0 r42 (Ta0)  S_43 hq44)
        cases hm
        exact hA
theorem fh_modP (n : Nat) : ∀ d : Nat, FG_modP n (m_modP_d n d) := by
  intro d
  induction d with
  | zero =>
    exact ⟨(fun _ _ _ _ _ _ hm => by cases hm), (fun _ _ _ _ _ _ hm => by cases hm), (fun _ _ _ _ _ _ _ _ hm => by cases hm), (fun _ _ _ _ _ _ hm => by cases hm)⟩
  | succ d ih =>
    exact ⟨(fun q0 q1 q2 q3 q4 q5 hm => fg_X12_readSum n _ ih q0 q1 q2 q3 q4 q5 hm), (fun q0 q1 q2 q3 q4 q5 hm => fg_X12_readProduct n _ ih q0 q1 q2 q3 q4 q5 hm), (fun q0 q1 q2 q3 q4 q5 q6 q7 hm => fg_X12_readTwo n _ ih q0 q1 q2 q3 q4 q5 q6 q7 hm), (fun q0 q1 q2 q3 q4 q5 hm => fg_X12_readUnit n _ ih q0 q1 q2 q3 q4 q5 hm)⟩
theorem fr_X12_readSum (P : Nat → Prop) (n : Nat) (S0 : pq_S) (hc : Clo P S0) (a0 : Nat) (Ta0 : P a0) (S1 : pq_S) (hm : m_X12_readSum n a0 S0 = some S1) : Ag P S0 S1 := (fh_modP n 64).1 P S0 hc a0 Ta0 S1 hm
theorem fr_X12_readProduct (P : Nat → Prop) (n : Nat) (S0 : pq_S) (hc : Clo P S0) (a0 : Nat) (Ta0 : P a0) (S1 : pq_S) (hm : m_X12_readProduct n a0 S0 = some S1) : Ag P S0 S1 := (fh_modP n 64).2.1 P S0 hc a0 Ta0 S1 hm
theorem fr_X12_readTwo (P : Nat → Prop) (n : Nat) (S0 : pq_S) (hc : Clo P S0) (a0 : Nat) (x1 : Int32) (x2 : Int32) (Ta0 : P a0) (S1 : pq_S) (hm : m_X12_readTwo n a0 x1 x2 S0 = some S1) : Ag P S0 S1 := (fh_modP n 64).2.2.1 P S0 hc a0 x1 x2 Ta0 S1 hm
theorem fr_X12_readUnit (P : Nat → Prop) (n : Nat) (S0 : pq_S) (hc : Clo P S0) (a0 : Nat) (Ta0 : P a0) (S1 : pq_S) (hm : m_X12_readUnit n a0 S0 = some S1) : Ag P S0 S1 := (fh_modP n 64).2.2.2 P S0 hc a0 Ta0 S1 hm
def FG_modS (n : Nat) (rec : (Nat → pq_S → Option pq_S)) : Prop := (∀ (P : Nat → Prop) (S0 : pq_S) (_ : Clo P S0) (a0 : Nat) (_Ta0 : P a0) (S1 : pq_S), rec a0 S0 = some S1 → Ag P S0 S1)
set_option maxHeartbeats 1000000 in
set_option maxRecDepth 100000 in
theorem fb_X12_readStep_289 (P : Nat → Prop) (S0 : pq_S) (hc : Clo P S0) (n : Nat) (rec : (Nat → pq_S → Option pq_S)) (hrec : FG_modS n rec) (S1 : pq_S) : ∀ (a0 : Nat) (S : pq_S), Ag P S0 S → P a0 → b_X12_readStep_289 n rec a0 S = some S1 → Ag P S0 S1 := by
  intro a0 S hA Ta0 hm
  rw [b_X12_readStep_289] at hm
  obtain ⟨S_93, hq94, hm⟩ := bd_some hm
  have hA : Ag P S0 S_93 := hA.tr (fr_X12_sign P n S (hA.cl hc) a0 59 (Ta0)  S_93 hq94)
  cases hm
  exact hA
set_option maxHeartbeats 1000000 in
set_option maxRecDepth 100000 in
theorem fb_X12_readStep_277 (P : Nat → Prop) (S0 : pq_S) (hc : Clo P S0) (n : Nat) (rec : (Nat → pq_S → Option pq_S)) (hrec : FG_modS n rec) (S1 : pq_S) : ∀ (a0 : Nat) (S : pq_S), Ag P S0 S → P a0 → b_X12_readStep_277 n rec a0 S = some S1 → Ag P S0 S1 := by
  intro a0 S hA Ta0 hm
  rw [b_X12_readStep_277] at hm
  exact fb_X12_readStep_289 P S0 hc n rec hrec S1 a0 S hA (Ta0) hm
set_option maxHeartbeats 1000000 in
set_option maxRecDepth 100000 in
theorem fb_X12_readStep_242 (P : Nat → Prop) (S0 : pq_S) (hc : Clo P S0) (n : Nat) (rec : (Nat → pq_S → Option pq_S)) (hrec : FG_modS n rec) (S1 : pq_S) : ∀ (a0 : Nat) (x3 : Int32) (S : pq_S), Ag P S0 S → P a0 → b_X12_readStep_242 n rec a0 x3 S = some S1 → Ag P S0 S1 := by
  intro a0 x3 S hA Ta0 hm
  rw [b_X12_readStep_242] at hm
  obtain ⟨S_84, hq85, hm⟩ := bd_some hm
  have hA : Ag P S0 S_84 := hA.tr (fr_X12_sign P n S (hA.cl hc) a0 93 (Ta0)  S_84 hq85)
  have hA : Ag P S0 (sI S_84 1207 a0 ((pI S_84 1207 a0) - (1 : Int32))) := hA.sI Ta0
  obtain ⟨r88, S_86, hq87, hm⟩ := cb_some hm
  have hA : Ag P S0 S_86 := hA.tr (fr_X12_fine P n (sI S_84 1207 a0 ((pI S_84 1207 a0) - (1 : Int32))) (hA.cl hc) a0 (Ta0) r88 S_86 hq87)
  by_cases h89 : r88 = 0
  · rw [if_pos h89] at hm
    exact fb_X12_readStep_277 P S0 hc n rec hrec S1 a0 S_86 hA (Ta0) hm
  · rw [if_neg h89] at hm
    obtain ⟨q90, hq90, hm⟩ := bd_some hm
    have Tq90 : P q90 := hA.clo hc Ta0 hq90
    obtain ⟨hi91, hm⟩ := ck_some hm
    have hA : Ag P S0 (sA S_86 q90 (Int32.toNatClampNeg (x3 + (2 : Int32))) (pI S_86 1240 a0)) := hA.sA Tq90
    obtain ⟨S_92, eS_92, hm⟩ := lt_some hm
    have hA : Ag P S0 S_92 := by rw [eS_92]; exact hA
    exact fb_X12_readStep_277 P S0 hc n rec hrec S1 a0 S_92 hA (Ta0) hm
set_option maxHeartbeats 1000000 in
set_option maxRecDepth 100000 in
theorem fb_X12_readStep_219 (P : Nat → Prop) (S0 : pq_S) (hc : Clo P S0) (n : Nat) (rec : (Nat → pq_S → Option pq_S)) (hrec : FG_modS n rec) (S1 : pq_S) : ∀ (f : Nat) (a0 : Nat) (x3 : Int32) (S : pq_S), Ag P S0 S → P a0 → b_X12_readStep_219 n rec f a0 x3 S = some S1 → Ag P S0 S1 := by
  intro f
  induction f with
  | zero =>
    intro a0 x3 S hA Ta0 hm
    cases hm
  | succ f ih =>
    intro a0 x3 S hA Ta0 hm
    rw [b_X12_readStep_219] at hm
    obtain ⟨r76, S_74, hq75, hm⟩ := cb_some hm
    have hA : Ag P S0 S_74 := hA.tr (fr_X12_fine P n S (hA.cl hc) a0 (Ta0) r76 S_74 hq75)
    by_cases h77 : r76 = 0
    · rw [if_pos h77] at hm
      exact fb_X12_readStep_242 P S0 hc n rec hrec S1 a0 x3 S_74 hA (Ta0) hm
    · rw [if_neg h77] at hm
      obtain ⟨r80, S_78, hq79, hm⟩ := cb_some hm
      have hA : Ag P S0 S_78 := hA.tr (fr_X12_here P n S_74 (hA.cl hc) a0 (Ta0) r80 S_78 hq79)
      by_cases h81 : r80 = 93
      · rw [if_pos h81] at hm
        exact fb_X12_readStep_242 P S0 hc n rec hrec S1 a0 x3 S_78 hA (Ta0) hm
      · rw [if_neg h81] at hm
        obtain ⟨S_82, hq83, hm⟩ := bd_some hm
        have hA : Ag P S0 S_82 := hA.tr (hrec P S_78 (hA.cl hc) a0 (Ta0)  S_82 hq83)
        exact ih a0 x3 S_82 hA (Ta0) hm
set_option maxHeartbeats 1000000 in
set_option maxRecDepth 100000 in
theorem fg_X12_readStep (n : Nat) (rec : (Nat → pq_S → Option pq_S)) (hrec : FG_modS n rec) (P : Nat → Prop) (S0 : pq_S) (hc : Clo P S0) (a0 : Nat) (Ta0 : P a0) (S1 : pq_S) (hm : g_X12_readStep n rec a0 S0 = some S1) : Ag P S0 S1 := by
  have hA : Ag P S0 S0 := Ag.rf _ _
  rw [g_X12_readStep] at hm
  obtain ⟨r3, S_1, hq2, hm⟩ := cb_some hm
  have hA : Ag P S0 S_1 := hA.tr (fr_X12_word P n S0 (hA.cl hc) a0 (Ta0) r3 S_1 hq2)
  obtain ⟨r6, S_4, hq5, hm⟩ := cb_some hm
  have hA : Ag P S0 S_4 := hA.tr (fr_X12_of P n S_1 (hA.cl hc) 15  r6 S_4 hq5)
  by_cases h7 : r3 = r6
  · rw [if_pos h7] at hm
    obtain ⟨S_70, hq71, hm⟩ := bd_some hm
    have hA : Ag P S0 S_70 := hA.tr (fr_X12_pass P n S_4 (hA.cl hc) a0 (Ta0)  S_70 hq71)
    obtain ⟨S_72, hq73, hm⟩ := bd_some hm
    have hA : Ag P S0 S_72 := hA.tr (fr_X12_readCarry P n S_70 (hA.cl hc) a0 (Ta0)  S_72 hq73)
    exact fb_X12_readStep_289 P S0 hc n rec hrec S1 a0 S_72 hA (Ta0) hm
  · rw [if_neg h7] at hm
    obtain ⟨r10, S_8, hq9, hm⟩ := cb_some hm
    have hA : Ag P S0 S_8 := hA.tr (fr_X12_of P n S_4 (hA.cl hc) 16  r10 S_8 hq9)
    by_cases h11 : r3 = r10
    · rw [if_pos h11] at hm
      obtain ⟨S_63, hq64, hm⟩ := bd_some hm
      have hA : Ag P S0 S_63 := hA.tr (fr_X12_pass P n S_8 (hA.cl hc) a0 (Ta0)  S_63 hq64)
      obtain ⟨r67, S_65, hq66, hm⟩ := cb_some hm
      have hA : Ag P S0 S_65 := hA.tr (fr_X12_readNumber P n S_63 (hA.cl hc) a0 0 ((pI S_63 1225 a0) - (1 : Int32)) (Ta0) r67 S_65 hq66)
      obtain ⟨S_68, hq69, hm⟩ := bd_some hm
      have hA : Ag P S0 S_68 := hA.tr (fr_X12_tellsStep P n S_65 (hA.cl hc) a0 1 r67 0 0 0 (Ta0)  S_68 hq69)
      exact fb_X12_readStep_289 P S0 hc n rec hrec S1 a0 S_68 hA (Ta0) hm
    · rw [if_neg h11] at hm
      obtain ⟨r14, S_12, hq13, hm⟩ := cb_some hm
      have hA : Ag P S0 S_12 := hA.tr (fr_X12_of P n S_8 (hA.cl hc) 17  r14 S_12 hq13)
      by_cases h15 : r3 = r14
      · rw [if_pos h15] at hm
        obtain ⟨S_53, hq54, hm⟩ := bd_some hm
        have hA : Ag P S0 S_53 := hA.tr (fr_X12_pass P n S_12 (hA.cl hc) a0 (Ta0)  S_53 hq54)
        obtain ⟨r57, S_55, hq56, hm⟩ := cb_some hm
        have hA : Ag P S0 S_55 := hA.tr (fr_X12_readNumber P n S_53 (hA.cl hc) a0 0 ((pI S_53 1224 a0) - (1 : Int32)) (Ta0) r57 S_55 hq56)
        obtain ⟨r60, S_58, hq59, hm⟩ := cb_some hm
        have hA : Ag P S0 S_58 := hA.tr (fr_X12_readNumber P n S_55 (hA.cl hc) a0 1 99 (Ta0) r60 S_58 hq59)
        obtain ⟨S_61, hq62, hm⟩ := bd_some hm
        have hA : Ag P S0 S_61 := hA.tr (fr_X12_tellsStep P n S_58 (hA.cl hc) a0 2 r57 r60 0 0 (Ta0)  S_61 hq62)
        exact fb_X12_readStep_289 P S0 hc n rec hrec S1 a0 S_61 hA (Ta0) hm
      · rw [if_neg h15] at hm
        obtain ⟨r18, S_16, hq17, hm⟩ := cb_some hm
        have hA : Ag P S0 S_16 := hA.tr (fr_X12_of P n S_12 (hA.cl hc) 18  r18 S_16 hq17)
        by_cases h19 : r3 = r18
        · rw [if_pos h19] at hm
          obtain ⟨S_43, hq44, hm⟩ := bd_some hm
          have hA : Ag P S0 S_43 := hA.tr (fr_X12_pass P n S_16 (hA.cl hc) a0 (Ta0)  S_43 hq44)
          obtain ⟨r47, S_45, hq46, hm⟩ := cb_some hm
          have hA : Ag P S0 S_45 := hA.tr (fr_X12_readNumber P n S_43 (hA.cl hc) a0 0 ((pI S_43 1226 a0) - (1 : Int32)) (Ta0) r47 S_45 hq46)
          obtain ⟨r50, S_48, hq49, hm⟩ := cb_some hm
          have hA : Ag P S0 S_48 := hA.tr (fr_X12_readNumber P n S_45 (hA.cl hc) a0 1 9 (Ta0) r50 S_48 hq49)
          obtain ⟨S_51, hq52, hm⟩ := bd_some hm
          have hA : Ag P S0 S_51 := hA.tr (fr_X12_tellsStep P n S_48 (hA.cl hc) a0 3 r47 r50 0 0 (Ta0)  S_51 hq52)
          exact fb_X12_readStep_289 P S0 hc n rec hrec S1 a0 S_51 hA (Ta0) hm
        · rw [if_neg h19] at hm
          obtain ⟨r22, S_20, hq21, hm⟩ := cb_some hm
          have hA : Ag P S0 S_20 := hA.tr (fr_X12_of P n S_16 (hA.cl hc) 13  r22 S_20 hq21)
          by_cases h23 : r3 = r22
          · rw [if_pos h23] at hm
            obtain ⟨S_39, hq40, hm⟩ := bd_some hm
            have hA : Ag P S0 S_39 := hA.tr (fr_X12_pass P n S_20 (hA.cl hc) a0 (Ta0)  S_39 hq40)
            obtain ⟨S_41, hq42, hm⟩ := bd_some hm
            have hA : Ag P S0 S_41 := hA.tr (fr_X12_tellsStep P n S_39 (hA.cl hc) a0 4 0 0 0 0 (Ta0)  S_41 hq42)
            exact fb_X12_readStep_289 P S0 hc n rec hrec S1 a0 S_41 hA (Ta0) hm
          · rw [if_neg h23] at hm
            obtain ⟨r26, S_24, hq25, hm⟩ := cb_some hm
            have hA : Ag P S0 S_24 := hA.tr (fr_X12_of P n S_20 (hA.cl hc) 19  r26 S_24 hq25)
            by_cases h27 : r3 = r26
            · rw [if_pos h27] at hm
              obtain ⟨S_30, hq31, hm⟩ := bd_some hm
              have hA : Ag P S0 S_30 := hA.tr (fr_X12_opensOne P n S_24 (hA.cl hc) a0 5 (Ta0)  S_30 hq31)
              obtain ⟨r34, S_32, hq33, hm⟩ := cb_some hm
              have hA : Ag P S0 S_32 := hA.tr (fr_X12_readNumber P n S_30 (hA.cl hc) a0 0 20 (Ta0) r34 S_32 hq33)
              obtain ⟨S_35, hq36, hm⟩ := bd_some hm
              have hA : Ag P S0 S_35 := hA.tr (fr_X12_sign P n S_32 (hA.cl hc) a0 91 (Ta0)  S_35 hq36)
              obtain ⟨S_37, hq38, hm⟩ := bd_some hm
              have hA : Ag P S0 S_37 := hA.tr (fr_X12_tellsStep P n S_35 (hA.cl hc) a0 5 r34 0 0 0 (Ta0)  S_37 hq38)
              exact fb_X12_readStep_219 P S0 hc n rec hrec S1 n a0 (pI S_35 1240 a0) S_37 hA (Ta0) hm
            · rw [if_neg h27] at hm
              obtain ⟨S_28, hq29, hm⟩ := bd_some hm
              have hA : Ag P S0 S_28 := hA.tr (fr_X12_wrong P n S_24 (hA.cl hc) a0 1 (pI S_24 1204 a0) (Ta0)  S_28 hq29)
              exact fb_X12_readStep_289 P S0 hc n rec hrec S1 a0 S_28 hA (Ta0) hm
theorem fh_modS (n : Nat) : ∀ d : Nat, FG_modS n (m_modS_d n d) := by
  intro d
  induction d with
  | zero =>
    exact (fun _ _ _ _ _ _ hm => by cases hm)
  | succ d ih =>
    exact (fun q0 q1 q2 q3 q4 q5 hm => fg_X12_readStep n _ ih q0 q1 q2 q3 q4 q5 hm)
theorem fr_X12_readStep (P : Nat → Prop) (n : Nat) (S0 : pq_S) (hc : Clo P S0) (a0 : Nat) (Ta0 : P a0) (S1 : pq_S) (hm : m_X12_readStep n a0 S0 = some S1) : Ag P S0 S1 := (fh_modS n 64) P S0 hc a0 Ta0 S1 hm
set_option maxHeartbeats 1000000 in
set_option maxRecDepth 100000 in
theorem fr_X11_feed (P : Nat → Prop) (n : Nat) (S0 : pq_S) (hc : Clo P S0) (a0 : Nat) (x1 : Int32) (x2 : Int32) (x3 : Int32) (x4 : Int32) (x5 : Int32) (Ta0 : P a0) (r : Int32) (S1 : pq_S) (hm : m_X11_feed n a0 x1 x2 x3 x4 x5 S0 = some (r, S1)) : Ag P S0 S1 := by
  have hA : Ag P S0 S0 := Ag.rf _ _
  rw [m_X11_feed] at hm
  obtain ⟨q1, hq1, hm⟩ := bd_some hm
  have Tq1 : P q1 := hA.clo hc Ta0 hq1
  by_cases h2 : ((pI S0 1001 q1) + (20 : Int32)) ≤ 600
  · rw [if_pos h2] at hm
    obtain ⟨q3, hq3, hm⟩ := bd_some hm
    have Tq3 : P q3 := hA.clo hc Ta0 hq3
    obtain ⟨S_4, hq5, hm⟩ := bd_some hm
    have hA : Ag P S0 S_4 := hA.tr (fr_X10_append P n S0 (hA.cl hc) q3 x1 (Tq3)  S_4 hq5)
    obtain ⟨q6, hq6, hm⟩ := bd_some hm
    have Tq6 : P q6 := hA.clo hc Ta0 hq6
    obtain ⟨S_7, hq8, hm⟩ := bd_some hm
    have hA : Ag P S0 S_7 := hA.tr (fr_X10_append P n S_4 (hA.cl hc) q6 x2 (Tq6)  S_7 hq8)
    obtain ⟨q9, hq9, hm⟩ := bd_some hm
    have Tq9 : P q9 := hA.clo hc Ta0 hq9
    obtain ⟨S_10, hq11, hm⟩ := bd_some hm
    have hA : Ag P S0 S_10 := hA.tr (fr_X10_append P n S_7 (hA.cl hc) q9 x3 (Tq9)  S_10 hq11)
    obtain ⟨q12, hq12, hm⟩ := bd_some hm
    have Tq12 : P q12 := hA.clo hc Ta0 hq12
    obtain ⟨S_13, hq14, hm⟩ := bd_some hm
    have hA : Ag P S0 S_13 := hA.tr (fr_X10_append P n S_10 (hA.cl hc) q12 x4 (Tq12)  S_13 hq14)
    obtain ⟨q15, hq15, hm⟩ := bd_some hm
    have Tq15 : P q15 := hA.clo hc Ta0 hq15
    obtain ⟨S_16, hq17, hm⟩ := bd_some hm
    have hA : Ag P S0 S_16 := hA.tr (fr_X10_append P n S_13 (hA.cl hc) q15 x5 (Tq15)  S_16 hq17)
    obtain ⟨q18, hq18, hm⟩ := bd_some hm
    have Tq18 : P q18 := hA.clo hc Ta0 hq18
    cases hm
    exact hA
  · rw [if_neg h2] at hm
    cases hm
    exact hA
set_option maxHeartbeats 1000000 in
set_option maxRecDepth 100000 in
theorem fb_X11_firstLook_36 (P : Nat → Prop) (S0 : pq_S) (hc : Clo P S0) (n : Nat) (r : Int32) (S1 : pq_S) (k4 : Nat → Int32 → Int32 → Int32 → Int32 → pq_S → Option (Int32 × pq_S)) (hk4 : ∀ (a0 : Nat) (x1 : Int32) (x2 : Int32) (x3 : Int32) (x4 : Int32) (S : pq_S), Ag P S0 S → P a0 → k4 a0 x1 x2 x3 x4 S = some (r, S1) → Ag P S0 S1) : ∀ (a0 : Nat) (x1 : Int32) (x2 : Int32) (x3 : Int32) (x4 : Int32) (S : pq_S), Ag P S0 S → P a0 → b_X11_firstLook_36 n k4 a0 x1 x2 x3 x4 S = some (r, S1) → Ag P S0 S1 := by
  intro a0 x1 x2 x3 x4 S hA Ta0 hm
  rw [b_X11_firstLook_36] at hm
  exact hk4 a0 x1 x2 x3 (x4 + 1) S hA (Ta0) hm
set_option maxHeartbeats 1000000 in
set_option maxRecDepth 100000 in
theorem fb_X11_firstLook_5 (P : Nat → Prop) (S0 : pq_S) (hc : Clo P S0) (n : Nat) (r : Int32) (S1 : pq_S) : ∀ (f : Nat) (a0 : Nat) (x1 : Int32) (x2 : Int32) (x3 : Int32) (x4 : Int32) (S : pq_S), Ag P S0 S → P a0 → b_X11_firstLook_5 n f a0 x1 x2 x3 x4 S = some (r, S1) → Ag P S0 S1 := by
  intro f
  induction f with
  | zero =>
    intro a0 x1 x2 x3 x4 S hA Ta0 hm
    cases hm
  | succ f ih =>
    intro a0 x1 x2 x3 x4 S hA Ta0 hm
    rw [b_X11_firstLook_5] at hm
    by_cases h1 : x2 < x4
    · rw [if_pos h1] at hm
      cases hm
      exact hA
    · rw [if_neg h1] at hm
      by_cases h2 : x1 ≤ x4
      · rw [if_pos h2] at hm
        cases hm
        exact hA
      · rw [if_neg h2] at hm
        obtain ⟨r5, S_3, hq4, hm⟩ := cb_some hm
        have hA : Ag P S0 S_3 := hA.tr (fr_X11_looksBehind P n S (hA.cl hc) a0 x1 x4 (Ta0) r5 S_3 hq4)
        obtain ⟨r8, S_6, hq7, hm⟩ := cb_some hm
        have hA : Ag P S0 S_6 := hA.tr (fr_X11_looksBehind P n S_3 (hA.cl hc) a0 x1 x3 (Ta0) r8 S_6 hq7)
        by_cases h9 : r8 ≤ r5
        · rw [if_pos h9] at hm
          exact fb_X11_firstLook_36 P S0 hc n r S1 _ ih a0 x1 x2 x3 x4 S_6 hA (Ta0) hm
        · rw [if_neg h9] at hm
          exact fb_X11_firstLook_36 P S0 hc n r S1 _ ih a0 x1 x2 x4 x4 S_6 hA (Ta0) hm
set_option maxHeartbeats 1000000 in
set_option maxRecDepth 100000 in
theorem fr_X11_firstLook (P : Nat → Prop) (n : Nat) (S0 : pq_S) (hc : Clo P S0) (a0 : Nat) (x1 : Int32) (x2 : Int32) (Ta0 : P a0) (r : Int32) (S1 : pq_S) (hm : m_X11_firstLook n a0 x1 x2 S0 = some (r, S1)) : Ag P S0 S1 := by
  have hA : Ag P S0 S0 := Ag.rf _ _
  rw [m_X11_firstLook] at hm
  exact fb_X11_firstLook_5 P S0 hc n r S1 n a0 x1 x2 1 2 S0 hA (Ta0) hm
set_option maxHeartbeats 1000000 in
set_option maxRecDepth 100000 in
theorem fb_X12_law_115 (P : Nat → Prop) (S0 : pq_S) (hc : Clo P S0) (n : Nat) (r : Int32) (S1 : pq_S) : ∀ (f : Nat) (a0 : Nat) (x1 : Int32) (x3 : Int32) (x4 : Int32) (S : pq_S), Ag P S0 S → P a0 → b_X12_law_115 n f a0 x1 x3 x4 S = some (r, S1) → Ag P S0 S1 := by
  intro f
  induction f with
  | zero =>
    intro a0 x1 x3 x4 S hA Ta0 hm
    cases hm
  | succ f ih =>
    intro a0 x1 x3 x4 S hA Ta0 hm
    rw [b_X12_law_115] at hm
    by_cases h32 : (pI S 1236 a0) ≤ x4
    · rw [if_pos h32] at hm
      cases hm
      exact hA
    · rw [if_neg h32] at hm
      obtain ⟨q33, hq33, hm⟩ := bd_some hm
      have Tq33 : P q33 := hA.clo hc Ta0 hq33
      obtain ⟨q34, hq34, hm⟩ := bd_some hm
      have Tq34 : P q34 := hA.clo hc Ta0 hq34
      obtain ⟨hi35, hm⟩ := ck_some hm
      obtain ⟨hi36, hm⟩ := ck_some hm
      have hA : Ag P S0 (sA S q33 (Int32.toNatClampNeg (((150 : Int32) * x1) + x4)) (pA S q34 (Int32.toNatClampNeg x4))) := hA.sA Tq33
      obtain ⟨S_37, eS_37, hm⟩ := lt_some hm
      have hA : Ag P S0 S_37 := by rw [eS_37]; exact hA
      obtain ⟨q38, hq38, hm⟩ := bd_some hm
      have Tq38 : P q38 := hA.clo hc Ta0 hq38
      obtain ⟨q39, hq39, hm⟩ := bd_some hm
      have Tq39 : P q39 := hA.clo hc Ta0 hq39
      obtain ⟨hi40, hm⟩ := ck_some hm
      obtain ⟨hi41, hm⟩ := ck_some hm
      have hA : Ag P S0 (sA S_37 q38 (Int32.toNatClampNeg (((150 : Int32) * x1) + x4)) (pA S_37 q39 (Int32.toNatClampNeg x4))) := hA.sA Tq38
      obtain ⟨S_42, eS_42, hm⟩ := lt_some hm
      have hA : Ag P S0 S_42 := by rw [eS_42]; exact hA
      exact ih a0 x1 x3 (x4 + 1) S_42 hA (Ta0) hm
set_option maxHeartbeats 1000000 in
set_option maxRecDepth 100000 in
theorem fb_X12_law_86 (P : Nat → Prop) (S0 : pq_S) (hc : Clo P S0) (n : Nat) (r : Int32) (S1 : pq_S) : ∀ (a0 : Nat) (x1 : Int32) (S : pq_S), Ag P S0 S → P a0 → b_X12_law_86 n a0 x1 S = some (r, S1) → Ag P S0 S1 := by
  intro a0 x1 S hA Ta0 hm
  rw [b_X12_law_86] at hm
  obtain ⟨r28, S_26, hq27, hm⟩ := cb_some hm
  have hA : Ag P S0 S_26 := hA.tr (fr_X12_result P n S (hA.cl hc) a0 1 (Ta0) r28 S_26 hq27)
  by_cases h29 : (pI S_26 1205 a0) = (-1)
  · rw [if_pos h29] at hm
    obtain ⟨q30, hq30, hm⟩ := bd_some hm
    have Tq30 : P q30 := hA.clo hc Ta0 hq30
    obtain ⟨hi31, hm⟩ := ck_some hm
    have hA : Ag P S0 (sA S_26 q30 (Int32.toNatClampNeg x1) (pI S_26 1236 a0)) := hA.sA Tq30
    exact fb_X12_law_115 P S0 hc n r S1 n a0 x1 r28 0 (sA S_26 q30 (Int32.toNatClampNeg x1) (pI S_26 1236 a0)) hA (Ta0) hm
  · rw [if_neg h29] at hm
    cases hm
    exact hA
set_option maxHeartbeats 1000000 in
set_option maxRecDepth 100000 in
theorem fb_X12_law_39 (P : Nat → Prop) (S0 : pq_S) (hc : Clo P S0) (n : Nat) (r : Int32) (S1 : pq_S) : ∀ (a0 : Nat) (x1 : Int32) (x2 : Int32) (b0 : Nat) (z1 : Int32) (S : pq_S), Ag P S0 S → P a0 → P b0 → b_X12_law_39 n a0 x1 x2 b0 z1 S = some (r, S1) → Ag P S0 S1 := by
  intro a0 x1 x2 b0 z1 S hA Ta0 Tb0 hm
  rw [b_X12_law_39] at hm
  obtain ⟨r10, S_8, hq9, hm⟩ := cb_some hm
  have hA : Ag P S0 S_8 := hA.tr (fr_X12_may P n S (hA.cl hc) b0 z1 1 1 (Tb0) r10 S_8 hq9)
  by_cases h11 : r10 = 0
  · rw [if_pos h11] at hm
    cases hm
    exact hA
  · rw [if_neg h11] at hm
    obtain ⟨S_12, hq13, hm⟩ := bd_some hm
    have hA : Ag P S0 S_12 := hA.tr (fr_X12_begins P n S_8 (hA.cl hc) a0 x2 (Ta0)  S_12 hq13)
    have hA : Ag P S0 (sI S_12 1236 a0 0) := hA.sI Ta0
    obtain ⟨S_14, hq15, hm⟩ := bd_some hm
    have hA : Ag P S0 S_14 := hA.tr (fr_X12_readSum P n (sI S_12 1236 a0 0) (hA.cl hc) a0 (Ta0)  S_14 hq15)
    obtain ⟨r18, S_16, hq17, hm⟩ := cb_some hm
    have hA : Ag P S0 S_16 := hA.tr (fr_X12_fine P n S_14 (hA.cl hc) a0 (Ta0) r18 S_16 hq17)
    by_cases h19 : r18 = 0
    · rw [if_pos h19] at hm
      exact fb_X12_law_86 P S0 hc n r S1 a0 x1 S_16 hA (Ta0) hm
    · rw [if_neg h19] at hm
      obtain ⟨r22, S_20, hq21, hm⟩ := cb_some hm
      have hA : Ag P S0 S_20 := hA.tr (fr_X12_isMore P n S_16 (hA.cl hc) a0 (Ta0) r22 S_20 hq21)
      by_cases h23 : r22 = 0
      · rw [if_pos h23] at hm
        exact fb_X12_law_86 P S0 hc n r S1 a0 x1 S_20 hA (Ta0) hm
      · rw [if_neg h23] at hm
        obtain ⟨S_24, hq25, hm⟩ := bd_some hm
        have hA : Ag P S0 S_24 := hA.tr (fr_X12_wrong P n S_20 (hA.cl hc) a0 1 (pI S_20 1204 a0) (Ta0)  S_24 hq25)
        exact fb_X12_law_86 P S0 hc n r S1 a0 x1 S_24 hA (Ta0) hm
set_option maxHeartbeats 1000000 in
set_option maxRecDepth 100000 in
theorem fb_X12_law_38 (P : Nat → Prop) (S0 : pq_S) (hc : Clo P S0) (n : Nat) (r : Int32) (S1 : pq_S) : ∀ (a0 : Nat) (x1 : Int32) (x2 : Int32) (b0 : Nat) (S : pq_S), Ag P S0 S → P a0 → P b0 → b_X12_law_38 n a0 x1 x2 b0 S = some (r, S1) → Ag P S0 S1 := by
  intro a0 x1 x2 b0 S hA Ta0 Tb0 hm
  rw [b_X12_law_38] at hm
  exact fb_X12_law_39 P S0 hc n r S1 a0 x1 x2 b0 0 S hA (Ta0) (Tb0) hm
set_option maxHeartbeats 1000000 in
set_option maxRecDepth 100000 in
theorem fr_X12_law (P : Nat → Prop) (n : Nat) (S0 : pq_S) (hc : Clo P S0) (a0 : Nat) (x1 : Int32) (x2 : Int32) (Ta0 : P a0) (r : Int32) (S1 : pq_S) (hm : m_X12_law n a0 x1 x2 S0 = some (r, S1)) : Ag P S0 S1 := by
  have hA : Ag P S0 S0 := Ag.rf _ _
  rw [m_X12_law] at hm
  have hA : Ag P S0 (sI S0 1200 a0 0) := hA.sI Ta0
  obtain ⟨r3, S_1, hq2, hm⟩ := cb_some hm
  have hA : Ag P S0 S_1 := hA.tr (fr_X12_within P n (sI S0 1200 a0 0) (hA.cl hc) x1 0 1  r3 S_1 hq2)
  by_cases h4 : r3 = 0
  · rw [if_pos h4] at hm
    exact fb_X12_law_38 P S0 hc n r S1 a0 x1 x2 a0 S_1 hA (Ta0) (Ta0) hm
  · rw [if_neg h4] at hm
    by_cases h5 : x2 < 0
    · rw [if_pos h5] at hm
      exact fb_X12_law_38 P S0 hc n r S1 a0 x1 x2 a0 S_1 hA (Ta0) (Ta0) hm
    · rw [if_neg h5] at hm
      by_cases h6 : (pI S_1 1202 a0) < x2
      · rw [if_pos h6] at hm
        exact fb_X12_law_38 P S0 hc n r S1 a0 x1 x2 a0 S_1 hA (Ta0) (Ta0) hm
      · rw [if_neg h6] at hm
        by_cases h7 : 150 < x2
        · rw [if_pos h7] at hm
          exact fb_X12_law_38 P S0 hc n r S1 a0 x1 x2 a0 S_1 hA (Ta0) (Ta0) hm
        · rw [if_neg h7] at hm
          exact fb_X12_law_39 P S0 hc n r S1 a0 x1 x2 a0 1 S_1 hA (Ta0) (Ta0) hm
set_option maxHeartbeats 1000000 in
set_option maxRecDepth 100000 in
theorem fb_X12_valueOf_111 (P : Nat → Prop) (S0 : pq_S) (hc : Clo P S0) (n : Nat) (r : Int32) (S1 : pq_S) : ∀ (a0 : Nat) (S : pq_S), Ag P S0 S → P a0 → b_X12_valueOf_111 n a0 S = some (r, S1) → Ag P S0 S1 := by
  intro a0 S hA Ta0 hm
  rw [b_X12_valueOf_111] at hm
  obtain ⟨q25, hq25, hm⟩ := bd_some hm
  have Tq25 : P q25 := hA.clo hc Ta0 hq25
  obtain ⟨hi26, hm⟩ := ck_some hm
  cases hm
  exact hA
set_option maxHeartbeats 1000000 in
set_option maxRecDepth 100000 in
theorem fb_X12_valueOf_105 (P : Nat → Prop) (S0 : pq_S) (hc : Clo P S0) (n : Nat) (r : Int32) (S1 : pq_S) (k6 : Nat → Int32 → Int32 → Int32 → pq_S → Option (Int32 × pq_S)) (hk6 : ∀ (a0 : Nat) (x1 : Int32) (x2 : Int32) (x3 : Int32) (S : pq_S), Ag P S0 S → P a0 → k6 a0 x1 x2 x3 S = some (r, S1) → Ag P S0 S1) : ∀ (a0 : Nat) (x1 : Int32) (x2 : Int32) (x3 : Int32) (S : pq_S), Ag P S0 S → P a0 → b_X12_valueOf_105 n k6 a0 x1 x2 x3 S = some (r, S1) → Ag P S0 S1 := by
  intro a0 x1 x2 x3 S hA Ta0 hm
  rw [b_X12_valueOf_105] at hm
  exact hk6 a0 x1 x2 (x3 + 1) S hA (Ta0) hm
set_option maxHeartbeats 1000000 in
set_option maxRecDepth 100000 in
theorem fb_X12_valueOf_68 (P : Nat → Prop) (S0 : pq_S) (hc : Clo P S0) (n : Nat) (r : Int32) (S1 : pq_S) (k6 : Nat → Int32 → Int32 → Int32 → pq_S → Option (Int32 × pq_S)) (hk6 : ∀ (a0 : Nat) (x1 : Int32) (x2 : Int32) (x3 : Int32) (S : pq_S), Ag P S0 S → P a0 → k6 a0 x1 x2 x3 S = some (r, S1) → Ag P S0 S1) : ∀ (a0 : Nat) (x1 : Int32) (x2 : Int32) (x3 : Int32) (b0 : Nat) (z1 : Int32) (z2 : Int32) (S : pq_S), Ag P S0 S → P a0 → P b0 → b_X12_valueOf_68 n k6 a0 x1 x2 x3 b0 z1 z2 S = some (r, S1) → Ag P S0 S1 := by
  intro a0 x1 x2 x3 b0 z1 z2 S hA Ta0 Tb0 hm
  rw [b_X12_valueOf_68] at hm
  obtain ⟨hi24, hm⟩ := ck_some hm
  have hA : Ag P S0 (sA S b0 (Int32.toNatClampNeg z1) z2) := hA.sA Tb0
  exact fb_X12_valueOf_105 P S0 hc n r S1 _ hk6 a0 x1 (x2 + 1) x3 (sA S b0 (Int32.toNatClampNeg z1) z2) hA (Ta0) hm
set_option maxHeartbeats 1000000 in
set_option maxRecDepth 100000 in
theorem fb_X12_valueOf_8 (P : Nat → Prop) (S0 : pq_S) (hc : Clo P S0) (n : Nat) (r : Int32) (S1 : pq_S) : ∀ (f : Nat) (a0 : Nat) (x1 : Int32) (x2 : Int32) (x3 : Int32) (S : pq_S), Ag P S0 S → P a0 → b_X12_valueOf_8 n f a0 x1 x2 x3 S = some (r, S1) → Ag P S0 S1 := by
  intro f
  induction f with
  | zero =>
    intro a0 x1 x2 x3 S hA Ta0 hm
    cases hm
  | succ f ih =>
    intro a0 x1 x2 x3 S hA Ta0 hm
    rw [b_X12_valueOf_8] at hm
    obtain ⟨q1, hq1, hm⟩ := bd_some hm
    have Tq1 : P q1 := hA.clo hc Ta0 hq1
    obtain ⟨hi2, hm⟩ := ck_some hm
    by_cases h3 : (((150 : Int32) * x1) + (pA S q1 (Int32.toNatClampNeg x1))) ≤ x3
    · rw [if_pos h3] at hm
      exact fb_X12_valueOf_111 P S0 hc n r S1 a0 S hA (Ta0) hm
    · rw [if_neg h3] at hm
      obtain ⟨q4, hq4, hm⟩ := bd_some hm
      have Tq4 : P q4 := hA.clo hc Ta0 hq4
      obtain ⟨hi5, hm⟩ := ck_some hm
      by_cases h6 : 1 < (pA S q4 (Int32.toNatClampNeg x3))
      · rw [if_pos h6] at hm
        obtain ⟨q7, hq7, hm⟩ := bd_some hm
        have Tq7 : P q7 := hA.clo hc Ta0 hq7
        obtain ⟨q8, hq8, hm⟩ := bd_some hm
        have Tq8 : P q8 := hA.clo hc Ta0 hq8
        obtain ⟨hi9, hm⟩ := ck_some hm
        obtain ⟨q10, hq10, hm⟩ := bd_some hm
        have Tq10 : P q10 := hA.clo hc Ta0 hq10
        obtain ⟨hi11, hm⟩ := ck_some hm
        obtain ⟨r14, S_12, hq13, hm⟩ := cb_some hm
        have hA : Ag P S0 S_12 := hA.tr (fr_X12_both P n S (hA.cl hc) (pA S q4 (Int32.toNatClampNeg x3)) (pA S q8 (Int32.toNatClampNeg ((x2 + (-1)) - (1 : Int32)))) (pA S q10 (Int32.toNatClampNeg (x2 + (-1))))  r14 S_12 hq13)
        obtain ⟨hi15, hm⟩ := ck_some hm
        have hA : Ag P S0 (sA S_12 q7 (Int32.toNatClampNeg ((x2 + (-1)) - (1 : Int32))) r14) := hA.sA Tq7
        exact fb_X12_valueOf_105 P S0 hc n r S1 _ ih a0 x1 (x2 + (-1)) x3 (sA S_12 q7 (Int32.toNatClampNeg ((x2 + (-1)) - (1 : Int32))) r14) hA (Ta0) hm
      · rw [if_neg h6] at hm
        obtain ⟨q16, hq16, hm⟩ := bd_some hm
        have Tq16 : P q16 := hA.clo hc Ta0 hq16
        by_cases h17 : (pA S q4 (Int32.toNatClampNeg x3)) = 0
        · rw [if_pos h17] at hm
          obtain ⟨q22, hq22, hm⟩ := bd_some hm
          have Tq22 : P q22 := hA.clo hc Ta0 hq22
          obtain ⟨hi23, hm⟩ := ck_some hm
          exact fb_X12_valueOf_68 P S0 hc n r S1 _ ih a0 x1 x2 x3 q16 x2 (pA S q22 (Int32.toNatClampNeg x3)) S hA (Ta0) (Tq16) hm
        · rw [if_neg h17] at hm
          obtain ⟨q18, hq18, hm⟩ := bd_some hm
          have Tq18 : P q18 := hA.clo hc Ta0 hq18
          obtain ⟨q19, hq19, hm⟩ := bd_some hm
          have Tq19 : P q19 := hA.clo hc Ta0 hq19
          obtain ⟨hi20, hm⟩ := ck_some hm
          obtain ⟨hi21, hm⟩ := ck_some hm
          exact fb_X12_valueOf_68 P S0 hc n r S1 _ ih a0 x1 x2 x3 q16 x2 (pA S q18 (Int32.toNatClampNeg (pA S q19 (Int32.toNatClampNeg x3)))) S hA (Ta0) (Tq16) hm
set_option maxHeartbeats 1000000 in
set_option maxRecDepth 100000 in
theorem fr_X12_valueOf (P : Nat → Prop) (n : Nat) (S0 : pq_S) (hc : Clo P S0) (a0 : Nat) (x1 : Int32) (Ta0 : P a0) (r : Int32) (S1 : pq_S) (hm : m_X12_valueOf n a0 x1 S0 = some (r, S1)) : Ag P S0 S1 := by
  have hA : Ag P S0 S0 := Ag.rf _ _
  rw [m_X12_valueOf] at hm
  exact fb_X12_valueOf_8 P S0 hc n r S1 n a0 x1 0 ((150 : Int32) * x1) S0 hA (Ta0) hm
set_option maxHeartbeats 1000000 in
set_option maxRecDepth 100000 in
theorem fb_X12_arriveOf_74 (P : Nat → Prop) (S0 : pq_S) (hc : Clo P S0) (n : Nat) (r : Int32) (S1 : pq_S) : ∀ (x3 : Int32) (z0 : Int32) (S : pq_S), Ag P S0 S → b_X12_arriveOf_74 n x3 z0 S = some (r, S1) → Ag P S0 S1 := by
  intro x3 z0 S hA hm
  rw [b_X12_arriveOf_74] at hm
  obtain ⟨r27, S_25, hq26, hm⟩ := cb_some hm
  have hA : Ag P S0 S_25 := hA.tr (fr_X12_clamp P n S (hA.cl hc) z0 x3  r27 S_25 hq26)
  cases hm
  exact hA
set_option maxHeartbeats 1000000 in
set_option maxRecDepth 100000 in
theorem fr_X12_arriveOf (P : Nat → Prop) (n : Nat) (S0 : pq_S) (hc : Clo P S0) (a0 : Nat) (x1 : Int32) (x2 : Int32) (x3 : Int32) (x4 : Int32) (Ta0 : P a0) (r : Int32) (S1 : pq_S) (hm : m_X12_arriveOf n a0 x1 x2 x3 x4 S0 = some (r, S1)) : Ag P S0 S1 := by
  have hA : Ag P S0 S0 := Ag.rf _ _
  rw [m_X12_arriveOf] at hm
  obtain ⟨S_1, hq2, hm⟩ := bd_some hm
  have hA : Ag P S0 S_1 := hA.tr (fr_X12_findFacts P n S0 (hA.cl hc) a0 (Ta0)  S_1 hq2)
  obtain ⟨q3, hq3, hm⟩ := bd_some hm
  have Tq3 : P q3 := hA.clo hc Ta0 hq3
  obtain ⟨hi4, hm⟩ := ck_some hm
  have hA : Ag P S0 (sA S_1 q3 (Int32.toNatClampNeg 0) x3) := hA.sA Tq3
  obtain ⟨q5, hq5, hm⟩ := bd_some hm
  have Tq5 : P q5 := hA.clo hc Ta0 hq5
  obtain ⟨q6, hq6, hm⟩ := bd_some hm
  have Tq6 : P q6 := hA.clo hc Ta0 hq6
  obtain ⟨hi7, hm⟩ := ck_some hm
  obtain ⟨q8, hq8, hm⟩ := bd_some hm
  have Tq8 : P q8 := hA.clo hc Ta0 hq8
  obtain ⟨hi9, hm⟩ := ck_some hm
  obtain ⟨r12, S_10, hq11, hm⟩ := cb_some hm
  have hA : Ag P S0 S_10 := hA.tr (fr_X12_apart P n (sA S_1 q3 (Int32.toNatClampNeg 0) x3) (hA.cl hc) (pA (sA S_1 q3 (Int32.toNatClampNeg 0) x3) q6 (Int32.toNatClampNeg ((4 : Int32) * x1))) (pA (sA S_1 q3 (Int32.toNatClampNeg 0) x3) q8 (Int32.toNatClampNeg ((4 : Int32) * x2)))  r12 S_10 hq11)
  obtain ⟨hi13, hm⟩ := ck_some hm
  have hA : Ag P S0 (sA S_10 q5 (Int32.toNatClampNeg 1) r12) := hA.sA Tq5
  obtain ⟨q14, hq14, hm⟩ := bd_some hm
  have Tq14 : P q14 := hA.clo hc Ta0 hq14
  obtain ⟨hi15, hm⟩ := ck_some hm
  have hA : Ag P S0 (sA (sA S_10 q5 (Int32.toNatClampNeg 1) r12) q14 (Int32.toNatClampNeg 2) x4) := hA.sA Tq14
  obtain ⟨S_16, eS_16, hm⟩ := lt_some hm
  have hA : Ag P S0 S_16 := by rw [eS_16]; exact hA
  obtain ⟨q17, hq17, hm⟩ := bd_some hm
  have Tq17 : P q17 := hA.clo hc Ta0 hq17
  obtain ⟨hi18, hm⟩ := ck_some hm
  by_cases h19 : (pA S_16 q17 (Int32.toNatClampNeg 0)) = 0
  · rw [if_pos h19] at hm
    obtain ⟨q23, hq23, hm⟩ := bd_some hm
    have Tq23 : P q23 := hA.clo hc Ta0 hq23
    obtain ⟨hi24, hm⟩ := ck_some hm
    exact fb_X12_arriveOf_74 P S0 hc n r S1 x3 (x3 - ((x3 * (pA S_16 q23 (Int32.toNatClampNeg 1))) / 40)) S_16 hA  hm
  · rw [if_neg h19] at hm
    obtain ⟨r22, S_20, hq21, hm⟩ := cb_some hm
    have hA : Ag P S0 S_20 := hA.tr (fr_X12_valueOf P n S_16 (hA.cl hc) a0 0 (Ta0) r22 S_20 hq21)
    exact fb_X12_arriveOf_74 P S0 hc n r S1 x3 r22 S_20 hA  hm
set_option maxHeartbeats 1000000 in
set_option maxRecDepth 100000 in
theorem fb_X12_digOf_59 (P : Nat → Prop) (S0 : pq_S) (hc : Clo P S0) (n : Nat) (r : Int32) (S1 : pq_S) : ∀ (a0 : Nat) (x1 : Int32) (z0 : Int32) (S : pq_S), Ag P S0 S → P a0 → b_X12_digOf_59 n a0 x1 z0 S = some (r, S1) → Ag P S0 S1 := by
  intro a0 x1 z0 S hA Ta0 hm
  rw [b_X12_digOf_59] at hm
  obtain ⟨q20, hq20, hm⟩ := bd_some hm
  have Tq20 : P q20 := hA.clo hc Ta0 hq20
  obtain ⟨hi21, hm⟩ := ck_some hm
  obtain ⟨r24, S_22, hq23, hm⟩ := cb_some hm
  have hA : Ag P S0 S_22 := hA.tr (fr_X12_clamp P n S (hA.cl hc) z0 (pA S q20 (Int32.toNatClampNeg ((42 : Int32) + x1)))  r24 S_22 hq23)
  cases hm
  exact hA
set_option maxHeartbeats 1000000 in
set_option maxRecDepth 100000 in
theorem fr_X12_digOf (P : Nat → Prop) (n : Nat) (S0 : pq_S) (hc : Clo P S0) (a0 : Nat) (x1 : Int32) (x2 : Int32) (Ta0 : P a0) (r : Int32) (S1 : pq_S) (hm : m_X12_digOf n a0 x1 x2 S0 = some (r, S1)) : Ag P S0 S1 := by
  have hA : Ag P S0 S0 := Ag.rf _ _
  rw [m_X12_digOf] at hm
  by_cases h1 : x2 = 0
  · rw [if_pos h1] at hm
    cases hm
    exact hA
  · rw [if_neg h1] at hm
    obtain ⟨S_2, hq3, hm⟩ := bd_some hm
    have hA : Ag P S0 S_2 := hA.tr (fr_X12_findFacts P n S0 (hA.cl hc) a0 (Ta0)  S_2 hq3)
    obtain ⟨q4, hq4, hm⟩ := bd_some hm
    have Tq4 : P q4 := hA.clo hc Ta0 hq4
    obtain ⟨hi5, hm⟩ := ck_some hm
    have hA : Ag P S0 (sA S_2 q4 (Int32.toNatClampNeg 2) 1) := hA.sA Tq4
    obtain ⟨q6, hq6, hm⟩ := bd_some hm
    have Tq6 : P q6 := hA.clo hc Ta0 hq6
    obtain ⟨hi7, hm⟩ := ck_some hm
    have hA : Ag P S0 (sA (sA S_2 q4 (Int32.toNatClampNeg 2) 1) q6 (Int32.toNatClampNeg 3) x2) := hA.sA Tq6
    obtain ⟨S_8, eS_8, hm⟩ := lt_some hm
    have hA : Ag P S0 S_8 := by rw [eS_8]; exact hA
    obtain ⟨q9, hq9, hm⟩ := bd_some hm
    have Tq9 : P q9 := hA.clo hc Ta0 hq9
    obtain ⟨q10, hq10, hm⟩ := bd_some hm
    have Tq10 : P q10 := hA.clo hc Ta0 hq10
    obtain ⟨hi11, hm⟩ := ck_some hm
    obtain ⟨hi12, hm⟩ := ck_some hm
    have hA : Ag P S0 (sA S_8 q9 (Int32.toNatClampNeg 4) (pA S_8 q10 (Int32.toNatClampNeg ((42 : Int32) + x1)))) := hA.sA Tq9
    obtain ⟨S_13, eS_13, hm⟩ := lt_some hm
    have hA : Ag P S0 S_13 := by rw [eS_13]; exact hA
    obtain ⟨q14, hq14, hm⟩ := bd_some hm
    have Tq14 : P q14 := hA.clo hc Ta0 hq14
    obtain ⟨hi15, hm⟩ := ck_some hm
    by_cases h16 : (pA S_13 q14 (Int32.toNatClampNeg 1)) = 0
    · rw [if_pos h16] at hm
      exact fb_X12_digOf_59 P S0 hc n r S1 a0 x1 ((3 : Int32) * x2) S_13 hA (Ta0) hm
    · rw [if_neg h16] at hm
      obtain ⟨r19, S_17, hq18, hm⟩ := cb_some hm
      have hA : Ag P S0 S_17 := hA.tr (fr_X12_valueOf P n S_13 (hA.cl hc) a0 1 (Ta0) r19 S_17 hq18)
      exact fb_X12_digOf_59 P S0 hc n r S1 a0 x1 r19 S_17 hA (Ta0) hm
set_option maxHeartbeats 1000000 in
set_option maxRecDepth 100000 in
theorem fb_X12_carries_64 (P : Nat → Prop) (S0 : pq_S) (hc : Clo P S0) (n : Nat) (r : Int32) (S1 : pq_S) : ∀ (x2 : Int32) (x6 : Int32) (b0 : Nat) (z1 : Int32) (S : pq_S), Ag P S0 S → P b0 → b_X12_carries_64 n x2 x6 b0 z1 S = some (r, S1) → Ag P S0 S1 := by
  intro x2 x6 b0 z1 S hA Tb0 hm
  rw [b_X12_carries_64] at hm
  obtain ⟨S_13, hq14, hm⟩ := bd_some hm
  have hA : Ag P S0 S_13 := hA.tr (fr_X12_adds P n S (hA.cl hc) b0 (z1 + x2) x6 (Tb0)  S_13 hq14)
  cases hm
  exact hA
set_option maxHeartbeats 1000000 in
set_option maxRecDepth 100000 in
theorem fb_X12_carries_12 (P : Nat → Prop) (S0 : pq_S) (hc : Clo P S0) (n : Nat) (r : Int32) (S1 : pq_S) : ∀ (a0 : Nat) (x1 : Int32) (x2 : Int32) (x3 : Int32) (x4 : Int32) (z0 : Int32) (S : pq_S), Ag P S0 S → P a0 → b_X12_carries_12 n a0 x1 x2 x3 x4 z0 S = some (r, S1) → Ag P S0 S1 := by
  intro a0 x1 x2 x3 x4 z0 S hA Ta0 hm
  rw [b_X12_carries_12] at hm
  obtain ⟨q2, hq2, hm⟩ := bd_some hm
  have Tq2 : P q2 := hA.clo hc Ta0 hq2
  obtain ⟨hi3, hm⟩ := ck_some hm
  by_cases h4 : x3 ≤ (pA S q2 (Int32.toNatClampNeg (z0 + x1)))
  · rw [if_pos h4] at hm
    obtain ⟨r7, S_5, hq6, hm⟩ := cb_some hm
    have hA : Ag P S0 S_5 := hA.tr (fr_X12_arriveOf P n S (hA.cl hc) a0 x1 x2 x3 x4 (Ta0) r7 S_5 hq6)
    obtain ⟨q8, hq8, hm⟩ := bd_some hm
    have Tq8 : P q8 := hA.clo hc Ta0 hq8
    obtain ⟨hi9, hm⟩ := ck_some hm
    obtain ⟨hi10, hm⟩ := ck_some hm
    have hA : Ag P S0 (sA S_5 q8 (Int32.toNatClampNeg (z0 + x1)) ((pA S_5 q8 (Int32.toNatClampNeg (z0 + x1))) - x3)) := hA.sA Tq8
    obtain ⟨S_11, eS_11, hm⟩ := lt_some hm
    have hA : Ag P S0 S_11 := by rw [eS_11]; exact hA
    by_cases h12 : x4 = 1
    · rw [if_pos h12] at hm
      exact fb_X12_carries_64 P S0 hc n r S1 x2 r7 a0 0 S_11 hA (Ta0) hm
    · rw [if_neg h12] at hm
      exact fb_X12_carries_64 P S0 hc n r S1 x2 r7 a0 6 S_11 hA (Ta0) hm
  · rw [if_neg h4] at hm
    cases hm
    exact hA
set_option maxHeartbeats 1000000 in
set_option maxRecDepth 100000 in
theorem fr_X12_carries (P : Nat → Prop) (n : Nat) (S0 : pq_S) (hc : Clo P S0) (a0 : Nat) (x1 : Int32) (x2 : Int32) (x3 : Int32) (x4 : Int32) (Ta0 : P a0) (r : Int32) (S1 : pq_S) (hm : m_X12_carries n a0 x1 x2 x3 x4 S0 = some (r, S1)) : Ag P S0 S1 := by
  have hA : Ag P S0 S0 := Ag.rf _ _
  rw [m_X12_carries] at hm
  by_cases h1 : x4 = 1
  · rw [if_pos h1] at hm
    exact fb_X12_carries_12 P S0 hc n r S1 a0 x1 x2 x3 x4 0 S0 hA (Ta0) hm
  · rw [if_neg h1] at hm
    exact fb_X12_carries_12 P S0 hc n r S1 a0 x1 x2 x3 x4 6 S0 hA (Ta0) hm
set_option maxHeartbeats 1000000 in
set_option maxRecDepth 100000 in
theorem fr_X12_digsNow (P : Nat → Prop) (n : Nat) (S0 : pq_S) (hc : Clo P S0) (a0 : Nat) (x1 : Int32) (x2 : Int32) (Ta0 : P a0) (r : Int32) (S1 : pq_S) (hm : m_X12_digsNow n a0 x1 x2 S0 = some (r, S1)) : Ag P S0 S1 := by
  have hA : Ag P S0 S0 := Ag.rf _ _
  rw [m_X12_digsNow] at hm
  obtain ⟨r3, S_1, hq2, hm⟩ := cb_some hm
  have hA : Ag P S0 S_1 := hA.tr (fr_X12_isOpenMine P n S0 (hA.cl hc) a0 x2 (Ta0) r3 S_1 hq2)
  by_cases h4 : r3 = 0
  · rw [if_pos h4] at hm
    cases hm
    exact hA
  · rw [if_neg h4] at hm
    obtain ⟨q5, hq5, hm⟩ := bd_some hm
    have Tq5 : P q5 := hA.clo hc Ta0 hq5
    obtain ⟨hi6, hm⟩ := ck_some hm
    by_cases h7 : (pA S_1 q5 (Int32.toNatClampNeg ((42 : Int32) + x2))) = 0
    · rw [if_pos h7] at hm
      cases hm
      exact hA
    · rw [if_neg h7] at hm
      obtain ⟨r10, S_8, hq9, hm⟩ := cb_some hm
      have hA : Ag P S0 S_8 := hA.tr (fr_X12_digOf P n S_1 (hA.cl hc) a0 x2 x1 (Ta0) r10 S_8 hq9)
      obtain ⟨q11, hq11, hm⟩ := bd_some hm
      have Tq11 : P q11 := hA.clo hc Ta0 hq11
      obtain ⟨hi12, hm⟩ := ck_some hm
      obtain ⟨hi13, hm⟩ := ck_some hm
      have hA : Ag P S0 (sA S_8 q11 (Int32.toNatClampNeg 49) ((pA S_8 q11 (Int32.toNatClampNeg 49)) - ((pI S_8 1229 a0) * x1))) := hA.sA Tq11
      obtain ⟨S_14, eS_14, hm⟩ := lt_some hm
      have hA : Ag P S0 S_14 := by rw [eS_14]; exact hA
      obtain ⟨q15, hq15, hm⟩ := bd_some hm
      have Tq15 : P q15 := hA.clo hc Ta0 hq15
      obtain ⟨hi16, hm⟩ := ck_some hm
      obtain ⟨hi17, hm⟩ := ck_some hm
      have hA : Ag P S0 (sA S_14 q15 (Int32.toNatClampNeg ((42 : Int32) + x2)) ((pA S_14 q15 (Int32.toNatClampNeg ((42 : Int32) + x2))) - r10)) := hA.sA Tq15
      obtain ⟨S_18, eS_18, hm⟩ := lt_some hm
      have hA : Ag P S0 S_18 := by rw [eS_18]; exact hA
      obtain ⟨q19, hq19, hm⟩ := bd_some hm
      have Tq19 : P q19 := hA.clo hc Ta0 hq19
      obtain ⟨hi20, hm⟩ := ck_some hm
      obtain ⟨hi21, hm⟩ := ck_some hm
      have hA : Ag P S0 (sA S_18 q19 (Int32.toNatClampNeg ((45 : Int32) + x2)) ((pA S_18 q19 (Int32.toNatClampNeg ((45 : Int32) + x2))) + r10)) := hA.sA Tq19
      obtain ⟨S_22, eS_22, hm⟩ := lt_some hm
      have hA : Ag P S0 S_22 := by rw [eS_22]; exact hA
      obtain ⟨q23, hq23, hm⟩ := bd_some hm
      have Tq23 : P q23 := hA.clo hc Ta0 hq23
      obtain ⟨hi24, hm⟩ := ck_some hm
      obtain ⟨S_25, hq26, hm⟩ := bd_some hm
      have hA : Ag P S0 S_25 := hA.tr (fr_X12_adds P n S_22 (hA.cl hc) a0 ((0 : Int32) + (pA S_22 q23 (Int32.toNatClampNeg ((3 : Int32) * x2)))) r10 (Ta0)  S_25 hq26)
      cases hm
      exact hA
set_option maxHeartbeats 1000000 in
set_option maxRecDepth 100000 in
theorem fr_X12_goes (P : Nat → Prop) (n : Nat) (S0 : pq_S) (hc : Clo P S0) (a0 : Nat) (x1 : Int32) (Ta0 : P a0) (r : Int32) (S1 : pq_S) (hm : m_X12_goes n a0 x1 S0 = some (r, S1)) : Ag P S0 S1 := by
  have hA : Ag P S0 S0 := Ag.rf _ _
  rw [m_X12_goes] at hm
  obtain ⟨q1, hq1, hm⟩ := bd_some hm
  have Tq1 : P q1 := hA.clo hc Ta0 hq1
  obtain ⟨hi2, hm⟩ := ck_some hm
  obtain ⟨q3, hq3, hm⟩ := bd_some hm
  have Tq3 : P q3 := hA.clo hc Ta0 hq3
  obtain ⟨hi4, hm⟩ := ck_some hm
  obtain ⟨v5, ev5, hm⟩ := lt_some hm
  obtain ⟨q6, hq6, hm⟩ := bd_some hm
  have Tq6 : P q6 := hA.clo hc Ta0 hq6
  obtain ⟨hi7, hm⟩ := ck_some hm
  obtain ⟨v8, ev8, hm⟩ := lt_some hm
  by_cases h9 : (pA S0 q1 (Int32.toNatClampNeg x1)) = 0
  · rw [if_pos h9] at hm
    obtain ⟨q30, hq30, hm⟩ := bd_some hm
    have Tq30 : P q30 := hA.clo hc Ta0 hq30
    obtain ⟨hi31, hm⟩ := ck_some hm
    obtain ⟨q32, hq32, hm⟩ := bd_some hm
    have Tq32 : P q32 := hA.clo hc Ta0 hq32
    obtain ⟨hi33, hm⟩ := ck_some hm
    obtain ⟨r36, S_34, hq35, hm⟩ := cb_some hm
    have hA : Ag P S0 S_34 := hA.tr (fr_X12_carries P n S0 (hA.cl hc) a0 v5 v8 (pA S0 q30 (Int32.toNatClampNeg (x1 + (3 : Int32)))) (pA S0 q32 (Int32.toNatClampNeg (x1 + (4 : Int32)))) (Ta0) r36 S_34 hq35)
    cases hm
    exact hA
  · rw [if_neg h9] at hm
    by_cases h10 : (pA S0 q1 (Int32.toNatClampNeg x1)) = 1
    · rw [if_pos h10] at hm
      obtain ⟨r29, S_27, hq28, hm⟩ := cb_some hm
      have hA : Ag P S0 S_27 := hA.tr (fr_X12_sells P n S0 (hA.cl hc) a0 v5 (Ta0) r29 S_27 hq28)
      cases hm
      exact hA
    · rw [if_neg h10] at hm
      by_cases h11 : (pA S0 q1 (Int32.toNatClampNeg x1)) = 3
      · rw [if_pos h11] at hm
        obtain ⟨r26, S_24, hq25, hm⟩ := cb_some hm
        have hA : Ag P S0 S_24 := hA.tr (fr_X12_digsNow P n S0 (hA.cl hc) a0 v8 v5 (Ta0) r26 S_24 hq25)
        cases hm
        exact hA
      · rw [if_neg h11] at hm
        by_cases h12 : (pA S0 q1 (Int32.toNatClampNeg x1)) = 4
        · rw [if_pos h12] at hm
          obtain ⟨S_22, hq23, hm⟩ := bd_some hm
          have hA : Ag P S0 S_22 := hA.tr (fr_X12_month P n S0 (hA.cl hc) a0 (Ta0)  S_22 hq23)
          cases hm
          exact hA
        · rw [if_neg h12] at hm
          obtain ⟨q13, hq13, hm⟩ := bd_some hm
          have Tq13 : P q13 := hA.clo hc Ta0 hq13
          obtain ⟨hi14, hm⟩ := ck_some hm
          by_cases h15 : v8 ≤ (pA S0 q13 (Int32.toNatClampNeg ((0 : Int32) + v5)))
          · rw [if_pos h15] at hm
            obtain ⟨q16, hq16, hm⟩ := bd_some hm
            have Tq16 : P q16 := hA.clo hc Ta0 hq16
            obtain ⟨hi17, hm⟩ := ck_some hm
            obtain ⟨hi18, hm⟩ := ck_some hm
            have hA : Ag P S0 (sA S0 q16 (Int32.toNatClampNeg ((0 : Int32) + v5)) ((pA S0 q16 (Int32.toNatClampNeg ((0 : Int32) + v5))) - v8)) := hA.sA Tq16
            obtain ⟨S_19, eS_19, hm⟩ := lt_some hm
            have hA : Ag P S0 S_19 := by rw [eS_19]; exact hA
            obtain ⟨S_20, hq21, hm⟩ := bd_some hm
            have hA : Ag P S0 S_20 := hA.tr (fr_X12_adds P n S_19 (hA.cl hc) a0 ((6 : Int32) + v5) ((2 : Int32) * v8) (Ta0)  S_20 hq21)
            cases hm
            exact hA
          · rw [if_neg h15] at hm
            cases hm
            exact hA
set_option maxHeartbeats 1000000 in
set_option maxRecDepth 100000 in
theorem fb_X12_arrives_55 (P : Nat → Prop) (S0 : pq_S) (hc : Clo P S0) (n : Nat) (r : Int32) (S1 : pq_S) : ∀ (a0 : Nat) (x1 : Int32) (x2 : Int32) (x3 : Int32) (x4 : Int32) (b0 : Nat) (z1 : Int32) (S : pq_S), Ag P S0 S → P a0 → P b0 → b_X12_arrives_55 n a0 x1 x2 x3 x4 b0 z1 S = some (r, S1) → Ag P S0 S1 := by
  intro a0 x1 x2 x3 x4 b0 z1 S hA Ta0 Tb0 hm
  rw [b_X12_arrives_55] at hm
  obtain ⟨r20, S_18, hq19, hm⟩ := cb_some hm
  have hA : Ag P S0 S_18 := hA.tr (fr_X12_may P n S (hA.cl hc) b0 z1 2 1 (Tb0) r20 S_18 hq19)
  by_cases h21 : r20 = 0
  · rw [if_pos h21] at hm
    cases hm
    exact hA
  · rw [if_neg h21] at hm
    obtain ⟨S_22, hq23, hm⟩ := bd_some hm
    have hA : Ag P S0 S_22 := hA.tr (fr_X12_take P n S_18 (hA.cl hc) a0 (Ta0)  S_22 hq23)
    obtain ⟨r26, S_24, hq25, hm⟩ := cb_some hm
    have hA : Ag P S0 S_24 := hA.tr (fr_X12_arriveOf P n S_22 (hA.cl hc) a0 x1 x2 x3 x4 (Ta0) r26 S_24 hq25)
    cases hm
    exact hA
set_option maxHeartbeats 1000000 in
set_option maxRecDepth 100000 in
theorem fb_X12_arrives_54 (P : Nat → Prop) (S0 : pq_S) (hc : Clo P S0) (n : Nat) (r : Int32) (S1 : pq_S) : ∀ (a0 : Nat) (x1 : Int32) (x2 : Int32) (x3 : Int32) (x4 : Int32) (b0 : Nat) (S : pq_S), Ag P S0 S → P a0 → P b0 → b_X12_arrives_54 n a0 x1 x2 x3 x4 b0 S = some (r, S1) → Ag P S0 S1 := by
  intro a0 x1 x2 x3 x4 b0 S hA Ta0 Tb0 hm
  rw [b_X12_arrives_54] at hm
  exact fb_X12_arrives_55 P S0 hc n r S1 a0 x1 x2 x3 x4 b0 0 S hA (Ta0) (Tb0) hm
set_option maxHeartbeats 1000000 in
set_option maxRecDepth 100000 in
theorem fr_X12_arrives (P : Nat → Prop) (n : Nat) (S0 : pq_S) (hc : Clo P S0) (a0 : Nat) (x1 : Int32) (x2 : Int32) (x3 : Int32) (x4 : Int32) (Ta0 : P a0) (r : Int32) (S1 : pq_S) (hm : m_X12_arrives n a0 x1 x2 x3 x4 S0 = some (r, S1)) : Ag P S0 S1 := by
  have hA : Ag P S0 S0 := Ag.rf _ _
  rw [m_X12_arrives] at hm
  have hA : Ag P S0 (sI S0 1200 a0 0) := hA.sI Ta0
  obtain ⟨r3, S_1, hq2, hm⟩ := cb_some hm
  have hA : Ag P S0 S_1 := hA.tr (fr_X12_isPlace P n (sI S0 1200 a0 0) (hA.cl hc) a0 x1 1 (Ta0) r3 S_1 hq2)
  by_cases h4 : r3 = 0
  · rw [if_pos h4] at hm
    cases hm
    exact hA
  · rw [if_neg h4] at hm
    obtain ⟨r7, S_5, hq6, hm⟩ := cb_some hm
    have hA : Ag P S0 S_5 := hA.tr (fr_X12_isPlace P n S_1 (hA.cl hc) a0 x2 1 (Ta0) r7 S_5 hq6)
    by_cases h8 : r7 = 0
    · rw [if_pos h8] at hm
      cases hm
      exact hA
    · rw [if_neg h8] at hm
      by_cases h9 : x1 = x2
      · rw [if_pos h9] at hm
        exact fb_X12_arrives_54 P S0 hc n r S1 a0 x1 x2 x3 x4 a0 S_5 hA (Ta0) (Ta0) hm
      · rw [if_neg h9] at hm
        obtain ⟨r12, S_10, hq11, hm⟩ := cb_some hm
        have hA : Ag P S0 S_10 := hA.tr (fr_X12_within P n S_5 (hA.cl hc) x3 0 999  r12 S_10 hq11)
        by_cases h13 : r12 = 0
        · rw [if_pos h13] at hm
          exact fb_X12_arrives_54 P S0 hc n r S1 a0 x1 x2 x3 x4 a0 S_10 hA (Ta0) (Ta0) hm
        · rw [if_neg h13] at hm
          obtain ⟨r16, S_14, hq15, hm⟩ := cb_some hm
          have hA : Ag P S0 S_14 := hA.tr (fr_X12_within P n S_10 (hA.cl hc) x4 0 1  r16 S_14 hq15)
          by_cases h17 : r16 = 0
          · rw [if_pos h17] at hm
            exact fb_X12_arrives_54 P S0 hc n r S1 a0 x1 x2 x3 x4 a0 S_14 hA (Ta0) (Ta0) hm
          · rw [if_neg h17] at hm
            exact fb_X12_arrives_55 P S0 hc n r S1 a0 x1 x2 x3 x4 a0 1 S_14 hA (Ta0) (Ta0) hm
set_option maxHeartbeats 1000000 in
set_option maxRecDepth 100000 in
theorem fr_X12_digs (P : Nat → Prop) (n : Nat) (S0 : pq_S) (hc : Clo P S0) (a0 : Nat) (x1 : Int32) (x2 : Int32) (Ta0 : P a0) (r : Int32) (S1 : pq_S) (hm : m_X12_digs n a0 x1 x2 S0 = some (r, S1)) : Ag P S0 S1 := by
  have hA : Ag P S0 S0 := Ag.rf _ _
  rw [m_X12_digs] at hm
  have hA : Ag P S0 (sI S0 1200 a0 0) := hA.sI Ta0
  obtain ⟨r3, S_1, hq2, hm⟩ := cb_some hm
  have hA : Ag P S0 S_1 := hA.tr (fr_X12_isMine P n (sI S0 1200 a0 0) (hA.cl hc) a0 x1 1 (Ta0) r3 S_1 hq2)
  by_cases h4 : r3 = 0
  · rw [if_pos h4] at hm
    cases hm
    exact hA
  · rw [if_neg h4] at hm
    obtain ⟨r7, S_5, hq6, hm⟩ := cb_some hm
    have hA : Ag P S0 S_5 := hA.tr (fr_X12_within P n S_1 (hA.cl hc) x2 0 9  r7 S_5 hq6)
    obtain ⟨r10, S_8, hq9, hm⟩ := cb_some hm
    have hA : Ag P S0 S_8 := hA.tr (fr_X12_may P n S_5 (hA.cl hc) a0 r7 2 1 (Ta0) r10 S_8 hq9)
    by_cases h11 : r10 = 0
    · rw [if_pos h11] at hm
      cases hm
      exact hA
    · rw [if_neg h11] at hm
      obtain ⟨S_12, hq13, hm⟩ := bd_some hm
      have hA : Ag P S0 S_12 := hA.tr (fr_X12_take P n S_8 (hA.cl hc) a0 (Ta0)  S_12 hq13)
      obtain ⟨r16, S_14, hq15, hm⟩ := cb_some hm
      have hA : Ag P S0 S_14 := hA.tr (fr_X12_digOf P n S_12 (hA.cl hc) a0 x1 x2 (Ta0) r16 S_14 hq15)
      cases hm
      exact hA
set_option maxHeartbeats 1000000 in
set_option maxRecDepth 100000 in
theorem fb_X12_brings_115 (P : Nat → Prop) (S0 : pq_S) (hc : Clo P S0) (n : Nat) (r : Int32) (S1 : pq_S) (k37 : Nat → Int32 → Int32 → Int32 → Int32 → Int32 → Int32 → pq_S → Option (Int32 × pq_S)) (hk37 : ∀ (a0 : Nat) (x1 : Int32) (x2 : Int32) (x3 : Int32) (x4 : Int32) (x5 : Int32) (x6 : Int32) (S : pq_S), Ag P S0 S → P a0 → k37 a0 x1 x2 x3 x4 x5 x6 S = some (r, S1) → Ag P S0 S1) : ∀ (a0 : Nat) (x1 : Int32) (x2 : Int32) (x3 : Int32) (x4 : Int32) (x5 : Int32) (x6 : Int32) (S : pq_S), Ag P S0 S → P a0 → b_X12_brings_115 n k37 a0 x1 x2 x3 x4 x5 x6 S = some (r, S1) → Ag P S0 S1 := by
  intro a0 x1 x2 x3 x4 x5 x6 S hA Ta0 hm
  rw [b_X12_brings_115] at hm
  exact hk37 a0 x1 x2 x3 x4 x5 (x6 + 1) S hA (Ta0) hm
set_option maxHeartbeats 1000000 in
set_option maxRecDepth 100000 in
theorem fb_X12_brings_121 (P : Nat → Prop) (S0 : pq_S) (hc : Clo P S0) (n : Nat) (r : Int32) (S1 : pq_S) : ∀ (x3 : Int32) (x4 : Int32) (x5 : Int32) (S : pq_S), Ag P S0 S → b_X12_brings_121 n x3 x4 x5 S = some (r, S1) → Ag P S0 S1 := by
  intro x3 x4 x5 S hA hm
  rw [b_X12_brings_121] at hm
  by_cases h29 : x3 = 0
  · rw [if_pos h29] at hm
    cases hm
    exact hA
  · rw [if_neg h29] at hm
    cases hm
    exact hA
set_option maxHeartbeats 1000000 in
set_option maxRecDepth 100000 in
theorem fb_X12_brings_62 (P : Nat → Prop) (S0 : pq_S) (hc : Clo P S0) (n : Nat) (r : Int32) (S1 : pq_S) : ∀ (f : Nat) (a0 : Nat) (x1 : Int32) (x2 : Int32) (x3 : Int32) (x4 : Int32) (x5 : Int32) (x6 : Int32) (S : pq_S), Ag P S0 S → P a0 → b_X12_brings_62 n f a0 x1 x2 x3 x4 x5 x6 S = some (r, S1) → Ag P S0 S1 := by
  intro f
  induction f with
  | zero =>
    intro a0 x1 x2 x3 x4 x5 x6 S hA Ta0 hm
    cases hm
  | succ f ih =>
    intro a0 x1 x2 x3 x4 x5 x6 S hA Ta0 hm
    rw [b_X12_brings_62] at hm
    obtain ⟨q18, hq18, hm⟩ := bd_some hm
    have Tq18 : P q18 := hA.clo hc Ta0 hq18
    obtain ⟨hi19, hm⟩ := ck_some hm
    by_cases h20 : (pA S q18 (Int32.toNatClampNeg ((0 : Int32) + x1))) < x6
    · rw [if_pos h20] at hm
      exact fb_X12_brings_121 P S0 hc n r S1 x3 x4 x5 S hA  hm
    · rw [if_neg h20] at hm
      obtain ⟨S_21, hq22, hm⟩ := bd_some hm
      have hA : Ag P S0 S_21 := hA.tr (fr_X12_take P n S (hA.cl hc) a0 (Ta0)  S_21 hq22)
      obtain ⟨r25, S_23, hq24, hm⟩ := cb_some hm
      have hA : Ag P S0 S_23 := hA.tr (fr_X12_carries P n S_21 (hA.cl hc) a0 x1 x2 x6 1 (Ta0) r25 S_23 hq24)
      obtain ⟨S_26, hq27, hm⟩ := bd_some hm
      have hA : Ag P S0 S_26 := hA.tr (fr_X12_findSales P n S_23 (hA.cl hc) a0 (Ta0)  S_26 hq27)
      by_cases h28 : x5 < (pI S_26 1253 a0)
      · rw [if_pos h28] at hm
        exact fb_X12_brings_115 P S0 hc n r S1 _ ih a0 x1 x2 x3 x6 (pI S_26 1253 a0) x6 S_26 hA (Ta0) hm
      · rw [if_neg h28] at hm
        exact fb_X12_brings_115 P S0 hc n r S1 _ ih a0 x1 x2 x3 x4 x5 x6 S_26 hA (Ta0) hm
set_option maxHeartbeats 1000000 in
set_option maxRecDepth 100000 in
theorem fb_X12_brings_43 (P : Nat → Prop) (S0 : pq_S) (hc : Clo P S0) (n : Nat) (r : Int32) (S1 : pq_S) : ∀ (a0 : Nat) (x1 : Int32) (x2 : Int32) (x3 : Int32) (b0 : Nat) (z1 : Int32) (S : pq_S), Ag P S0 S → P a0 → P b0 → b_X12_brings_43 n a0 x1 x2 x3 b0 z1 S = some (r, S1) → Ag P S0 S1 := by
  intro a0 x1 x2 x3 b0 z1 S hA Ta0 Tb0 hm
  rw [b_X12_brings_43] at hm
  obtain ⟨r16, S_14, hq15, hm⟩ := cb_some hm
  have hA : Ag P S0 S_14 := hA.tr (fr_X12_may P n S (hA.cl hc) b0 z1 2 1 (Tb0) r16 S_14 hq15)
  by_cases h17 : r16 = 0
  · rw [if_pos h17] at hm
    cases hm
    exact hA
  · rw [if_neg h17] at hm
    exact fb_X12_brings_62 P S0 hc n r S1 n a0 x1 x2 x3 0 (-1) 0 S_14 hA (Ta0) hm
set_option maxHeartbeats 1000000 in
set_option maxRecDepth 100000 in
theorem fb_X12_brings_42 (P : Nat → Prop) (S0 : pq_S) (hc : Clo P S0) (n : Nat) (r : Int32) (S1 : pq_S) : ∀ (a0 : Nat) (x1 : Int32) (x2 : Int32) (x3 : Int32) (b0 : Nat) (S : pq_S), Ag P S0 S → P a0 → P b0 → b_X12_brings_42 n a0 x1 x2 x3 b0 S = some (r, S1) → Ag P S0 S1 := by
  intro a0 x1 x2 x3 b0 S hA Ta0 Tb0 hm
  rw [b_X12_brings_42] at hm
  exact fb_X12_brings_43 P S0 hc n r S1 a0 x1 x2 x3 b0 0 S hA (Ta0) (Tb0) hm
set_option maxHeartbeats 1000000 in
set_option maxRecDepth 100000 in
theorem fr_X12_brings (P : Nat → Prop) (n : Nat) (S0 : pq_S) (hc : Clo P S0) (a0 : Nat) (x1 : Int32) (x2 : Int32) (x3 : Int32) (Ta0 : P a0) (r : Int32) (S1 : pq_S) (hm : m_X12_brings n a0 x1 x2 x3 S0 = some (r, S1)) : Ag P S0 S1 := by
  have hA : Ag P S0 S0 := Ag.rf _ _
  rw [m_X12_brings] at hm
  have hA : Ag P S0 (sI S0 1200 a0 0) := hA.sI Ta0
  obtain ⟨r3, S_1, hq2, hm⟩ := cb_some hm
  have hA : Ag P S0 S_1 := hA.tr (fr_X12_isPlace P n (sI S0 1200 a0 0) (hA.cl hc) a0 x1 1 (Ta0) r3 S_1 hq2)
  by_cases h4 : r3 = 0
  · rw [if_pos h4] at hm
    cases hm
    exact hA
  · rw [if_neg h4] at hm
    obtain ⟨r7, S_5, hq6, hm⟩ := cb_some hm
    have hA : Ag P S0 S_5 := hA.tr (fr_X12_isPlace P n S_1 (hA.cl hc) a0 x2 1 (Ta0) r7 S_5 hq6)
    by_cases h8 : r7 = 0
    · rw [if_pos h8] at hm
      cases hm
      exact hA
    · rw [if_neg h8] at hm
      by_cases h9 : x1 = x2
      · rw [if_pos h9] at hm
        exact fb_X12_brings_42 P S0 hc n r S1 a0 x1 x2 x3 a0 S_5 hA (Ta0) (Ta0) hm
      · rw [if_neg h9] at hm
        obtain ⟨r12, S_10, hq11, hm⟩ := cb_some hm
        have hA : Ag P S0 S_10 := hA.tr (fr_X12_within P n S_5 (hA.cl hc) x3 0 1  r12 S_10 hq11)
        by_cases h13 : r12 = 0
        · rw [if_pos h13] at hm
          exact fb_X12_brings_42 P S0 hc n r S1 a0 x1 x2 x3 a0 S_10 hA (Ta0) (Ta0) hm
        · rw [if_neg h13] at hm
          exact fb_X12_brings_43 P S0 hc n r S1 a0 x1 x2 x3 a0 1 S_10 hA (Ta0) (Ta0) hm
set_option maxHeartbeats 1000000 in
set_option maxRecDepth 100000 in
theorem fr_X12_option (P : Nat → Prop) (n : Nat) (S0 : pq_S) (hc : Clo P S0) (a0 : Nat) (x1 : Int32) (x2 : Int32) (x3 : Int32) (x4 : Int32) (x5 : Int32) (x6 : Int32) (x7 : Int32) (Ta0 : P a0) (r : Int64) (S1 : pq_S) (hm : m_X12_option n a0 x1 x2 x3 x4 x5 x6 x7 S0 = some (r, S1)) : Ag P S0 S1 := by
  have hA : Ag P S0 S0 := Ag.rf _ _
  rw [m_X12_option] at hm
  have hA : Ag P S0 (sI S0 1200 a0 0) := hA.sI Ta0
  obtain ⟨r3, S_1, hq2, hm⟩ := cb_some hm
  have hA : Ag P S0 S_1 := hA.tr (fr_X12_within P n (sI S0 1200 a0 0) (hA.cl hc) x7 0 1  r3 S_1 hq2)
  obtain ⟨r6, S_4, hq5, hm⟩ := cb_some hm
  have hA : Ag P S0 S_4 := hA.tr (fr_X12_isOption P n S_1 (hA.cl hc) a0 x1 x2 x3 x4 x5 x6 r3 (Ta0) r6 S_4 hq5)
  by_cases h7 : r6 = 0
  · rw [if_pos h7] at hm
    cases hm
    exact hA
  · rw [if_neg h7] at hm
    obtain ⟨r10, S_8, hq9, hm⟩ := cb_some hm
    have hA : Ag P S0 S_8 := hA.tr (fr_X12_worthOf P n S_4 (hA.cl hc) a0 x1 x6 0 (Ta0) r10 S_8 hq9)
    obtain ⟨r13, S_11, hq12, hm⟩ := cb_some hm
    have hA : Ag P S0 S_11 := hA.tr (fr_X12_least P n S_8 (hA.cl hc) r10 ((1 : Int64) <<< (Int32.toInt64 ((4 : Int32) * x6) &&& (63 : Int64))) x7  r13 S_11 hq12)
    cases hm
    exact hA
set_option maxHeartbeats 1000000 in
set_option maxRecDepth 100000 in
theorem fr_X12_late (P : Nat → Prop) (n : Nat) (S0 : pq_S) (hc : Clo P S0) (a0 : Nat) (x1 : Int32) (x2 : Int32) (x3 : Int32) (x4 : Int32) (x5 : Int32) (x6 : Int32) (x7 : Int32) (Ta0 : P a0) (r : Int64) (S1 : pq_S) (hm : m_X12_late n a0 x1 x2 x3 x4 x5 x6 x7 S0 = some (r, S1)) : Ag P S0 S1 := by
  have hA : Ag P S0 S0 := Ag.rf _ _
  rw [m_X12_late] at hm
  have hA : Ag P S0 (sI S0 1200 a0 0) := hA.sI Ta0
  obtain ⟨r3, S_1, hq2, hm⟩ := cb_some hm
  have hA : Ag P S0 S_1 := hA.tr (fr_X12_within P n (sI S0 1200 a0 0) (hA.cl hc) x7 0 1  r3 S_1 hq2)
  obtain ⟨r6, S_4, hq5, hm⟩ := cb_some hm
  have hA : Ag P S0 S_4 := hA.tr (fr_X12_isOption P n S_1 (hA.cl hc) a0 x1 x2 x3 x4 x5 x6 r3 (Ta0) r6 S_4 hq5)
  by_cases h7 : r6 = 0
  · rw [if_pos h7] at hm
    cases hm
    exact hA
  · rw [if_neg h7] at hm
    obtain ⟨r10, S_8, hq9, hm⟩ := cb_some hm
    have hA : Ag P S0 S_8 := hA.tr (fr_X12_worthOf P n S_4 (hA.cl hc) a0 x1 x6 1 (Ta0) r10 S_8 hq9)
    obtain ⟨r13, S_11, hq12, hm⟩ := cb_some hm
    have hA : Ag P S0 S_11 := hA.tr (fr_X12_least P n S_8 (hA.cl hc) r10 ((1 : Int64) <<< (Int32.toInt64 ((4 : Int32) * x6) &&& (63 : Int64))) x7  r13 S_11 hq12)
    cases hm
    exact hA
set_option maxHeartbeats 1000000 in
set_option maxRecDepth 100000 in
theorem fr_X12_now (P : Nat → Prop) (n : Nat) (S0 : pq_S) (hc : Clo P S0) (a0 : Nat) (x1 : Int32) (x2 : Int32) (x3 : Int32) (x4 : Int32) (x5 : Int32) (x6 : Int32) (Ta0 : P a0) (r : Int32) (S1 : pq_S) (hm : m_X12_now n a0 x1 x2 x3 x4 x5 x6 S0 = some (r, S1)) : Ag P S0 S1 := by
  have hA : Ag P S0 S0 := Ag.rf _ _
  rw [m_X12_now] at hm
  have hA : Ag P S0 (sI S0 1200 a0 0) := hA.sI Ta0
  obtain ⟨r3, S_1, hq2, hm⟩ := cb_some hm
  have hA : Ag P S0 S_1 := hA.tr (fr_X12_isOption P n (sI S0 1200 a0 0) (hA.cl hc) a0 x1 x2 x3 x4 x5 x6 1 (Ta0) r3 S_1 hq2)
  by_cases h4 : r3 = 0
  · rw [if_pos h4] at hm
    cases hm
    exact hA
  · rw [if_neg h4] at hm
    by_cases h5 : x1 ≤ x5
    · rw [if_pos h5] at hm
      cases hm
      exact hA
    · rw [if_neg h5] at hm
      obtain ⟨r8, S_6, hq7, hm⟩ := cb_some hm
      have hA : Ag P S0 S_6 := hA.tr (fr_X12_worthOf P n S_1 (hA.cl hc) a0 x1 x6 0 (Ta0) r8 S_6 hq7)
      by_cases h9 : (lg_cmp ((Int32.toInt64 (x1 - x5)) <<< (Int32.toInt64 ((4 : Int32) * x6) &&& (63 : Int64))) r8) < 0
      · rw [if_pos h9] at hm
        cases hm
        exact hA
      · rw [if_neg h9] at hm
        cases hm
        exact hA
set_option maxHeartbeats 1000000 in
set_option maxRecDepth 100000 in
theorem fb_X12_findNights_66 (P : Nat → Prop) (S0 : pq_S) (hc : Clo P S0) (n : Nat) (r : Int32) (S1 : pq_S) (k5 : Nat → Int32 → Int32 → Int32 → pq_S → Option (Int32 × pq_S)) (hk5 : ∀ (a0 : Nat) (x1 : Int32) (x2 : Int32) (x3 : Int32) (S : pq_S), Ag P S0 S → P a0 → k5 a0 x1 x2 x3 S = some (r, S1) → Ag P S0 S1) : ∀ (a0 : Nat) (x1 : Int32) (x2 : Int32) (x3 : Int32) (S : pq_S), Ag P S0 S → P a0 → b_X12_findNights_66 n k5 a0 x1 x2 x3 S = some (r, S1) → Ag P S0 S1 := by
  intro a0 x1 x2 x3 S hA Ta0 hm
  rw [b_X12_findNights_66] at hm
  exact hk5 a0 x1 x2 (x3 + 1) S hA (Ta0) hm
set_option maxHeartbeats 1000000 in
set_option maxRecDepth 100000 in
theorem fb_X12_findNights_105 (P : Nat → Prop) (S0 : pq_S) (hc : Clo P S0) (n : Nat) (r : Int32) (S1 : pq_S) (k46 : Nat → Int32 → Int32 → pq_S → Option (Int32 × pq_S)) (hk46 : ∀ (a0 : Nat) (x2 : Int32) (x3 : Int32) (S : pq_S), Ag P S0 S → P a0 → k46 a0 x2 x3 S = some (r, S1) → Ag P S0 S1) : ∀ (a0 : Nat) (x2 : Int32) (x3 : Int32) (S : pq_S), Ag P S0 S → P a0 → b_X12_findNights_105 n k46 a0 x2 x3 S = some (r, S1) → Ag P S0 S1 := by
  intro a0 x2 x3 S hA Ta0 hm
  rw [b_X12_findNights_105] at hm
  obtain ⟨r17, S_15, hq16, hm⟩ := cb_some hm
  have hA : Ag P S0 S_15 := hA.tr (fr_X12_fitsOn P n S (hA.cl hc) a0 0 x3 (Ta0) r17 S_15 hq16)
  by_cases h18 : r17 = 0
  · rw [if_pos h18] at hm
    exact hk46 a0 x2 (x3 + 1) S_15 hA (Ta0) hm
  · rw [if_neg h18] at hm
    cases hm
    exact hA
set_option maxHeartbeats 1000000 in
set_option maxRecDepth 100000 in
theorem fb_X12_findNights_85 (P : Nat → Prop) (S0 : pq_S) (hc : Clo P S0) (n : Nat) (r : Int32) (S1 : pq_S) (k46 : Nat → Int32 → Int32 → pq_S → Option (Int32 × pq_S)) (hk46 : ∀ (a0 : Nat) (x2 : Int32) (x3 : Int32) (S : pq_S), Ag P S0 S → P a0 → k46 a0 x2 x3 S = some (r, S1) → Ag P S0 S1) : ∀ (f : Nat) (a0 : Nat) (x2 : Int32) (x3 : Int32) (x4 : Int32) (S : pq_S), Ag P S0 S → P a0 → b_X12_findNights_85 n k46 f a0 x2 x3 x4 S = some (r, S1) → Ag P S0 S1 := by
  intro f
  induction f with
  | zero =>
    intro a0 x2 x3 x4 S hA Ta0 hm
    cases hm
  | succ f ih =>
    intro a0 x2 x3 x4 S hA Ta0 hm
    rw [b_X12_findNights_85] at hm
    by_cases h12 : x3 ≤ x4
    · rw [if_pos h12] at hm
      exact fb_X12_findNights_105 P S0 hc n r S1 _ hk46 a0 x2 x3 S hA (Ta0) hm
    · rw [if_neg h12] at hm
      obtain ⟨q13, hq13, hm⟩ := bd_some hm
      have Tq13 : P q13 := hA.clo hc Ta0 hq13
      obtain ⟨hi14, hm⟩ := ck_some hm
      have hA : Ag P S0 (sA S q13 (Int32.toNatClampNeg x4) x2) := hA.sA Tq13
      exact ih a0 x2 x3 (x4 + 1) (sA S q13 (Int32.toNatClampNeg x4) x2) hA (Ta0) hm
set_option maxHeartbeats 1000000 in
set_option maxRecDepth 100000 in
theorem fb_X12_findNights_74 (P : Nat → Prop) (S0 : pq_S) (hc : Clo P S0) (n : Nat) (r : Int32) (S1 : pq_S) : ∀ (f : Nat) (a0 : Nat) (x2 : Int32) (x3 : Int32) (S : pq_S), Ag P S0 S → P a0 → b_X12_findNights_74 n f a0 x2 x3 S = some (r, S1) → Ag P S0 S1 := by
  intro f
  induction f with
  | zero =>
    intro a0 x2 x3 S hA Ta0 hm
    cases hm
  | succ f ih =>
    intro a0 x2 x3 S hA Ta0 hm
    rw [b_X12_findNights_74] at hm
    by_cases h11 : (pI S 1261 a0) < x3
    · rw [if_pos h11] at hm
      cases hm
      exact hA
    · rw [if_neg h11] at hm
      exact fb_X12_findNights_85 P S0 hc n r S1 _ ih n a0 x2 x3 0 S hA (Ta0) hm
set_option maxHeartbeats 1000000 in
set_option maxRecDepth 100000 in
theorem fb_X12_findNights_72 (P : Nat → Prop) (S0 : pq_S) (hc : Clo P S0) (n : Nat) (r : Int32) (S1 : pq_S) : ∀ (a0 : Nat) (x2 : Int32) (S : pq_S), Ag P S0 S → P a0 → b_X12_findNights_72 n a0 x2 S = some (r, S1) → Ag P S0 S1 := by
  intro a0 x2 S hA Ta0 hm
  rw [b_X12_findNights_72] at hm
  exact fb_X12_findNights_74 P S0 hc n r S1 n a0 x2 0 S hA (Ta0) hm
set_option maxHeartbeats 1000000 in
set_option maxRecDepth 100000 in
theorem fb_X12_findNights_7 (P : Nat → Prop) (S0 : pq_S) (hc : Clo P S0) (n : Nat) (r : Int32) (S1 : pq_S) : ∀ (f : Nat) (a0 : Nat) (x1 : Int32) (x2 : Int32) (x3 : Int32) (S : pq_S), Ag P S0 S → P a0 → b_X12_findNights_7 n f a0 x1 x2 x3 S = some (r, S1) → Ag P S0 S1 := by
  intro f
  induction f with
  | zero =>
    intro a0 x1 x2 x3 S hA Ta0 hm
    cases hm
  | succ f ih =>
    intro a0 x1 x2 x3 S hA Ta0 hm
    rw [b_X12_findNights_7] at hm
    by_cases h1 : (pI S 1225 a0) ≤ x3
    · rw [if_pos h1] at hm
      exact fb_X12_findNights_72 P S0 hc n r S1 a0 x2 S hA (Ta0) hm
    · rw [if_neg h1] at hm
      obtain ⟨q2, hq2, hm⟩ := bd_some hm
      have Tq2 : P q2 := hA.clo hc Ta0 hq2
      obtain ⟨hi3, hm⟩ := ck_some hm
      by_cases h4 : (pA S q2 (Int32.toNatClampNeg ((4 : Int32) * x3))) = x1
      · rw [if_pos h4] at hm
        obtain ⟨q5, hq5, hm⟩ := bd_some hm
        have Tq5 : P q5 := hA.clo hc Ta0 hq5
        obtain ⟨hi6, hm⟩ := ck_some hm
        by_cases h7 : (pA S q5 (Int32.toNatClampNeg (((4 : Int32) * x3) + (1 : Int32)))) ≤ x2
        · rw [if_pos h7] at hm
          obtain ⟨q8, hq8, hm⟩ := bd_some hm
          have Tq8 : P q8 := hA.clo hc Ta0 hq8
          obtain ⟨hi9, hm⟩ := ck_some hm
          have hA : Ag P S0 (sA S q8 (Int32.toNatClampNeg (pI S 1261 a0)) x3) := hA.sA Tq8
          have hA : Ag P S0 (sI (sA S q8 (Int32.toNatClampNeg (pI S 1261 a0)) x3) 1261 a0 ((pI (sA S q8 (Int32.toNatClampNeg (pI S 1261 a0)) x3) 1261 a0) + (1 : Int32))) := hA.sI Ta0
          obtain ⟨S_10, eS_10, hm⟩ := lt_some hm
          have hA : Ag P S0 S_10 := by rw [eS_10]; exact hA
          exact fb_X12_findNights_66 P S0 hc n r S1 _ ih a0 x1 x2 x3 S_10 hA (Ta0) hm
        · rw [if_neg h7] at hm
          cases hm
          exact hA
      · rw [if_neg h4] at hm
        exact fb_X12_findNights_66 P S0 hc n r S1 _ ih a0 x1 x2 x3 S hA (Ta0) hm
set_option maxHeartbeats 1000000 in
set_option maxRecDepth 100000 in
theorem fr_X12_findNights (P : Nat → Prop) (n : Nat) (S0 : pq_S) (hc : Clo P S0) (a0 : Nat) (x1 : Int32) (x2 : Int32) (Ta0 : P a0) (r : Int32) (S1 : pq_S) (hm : m_X12_findNights n a0 x1 x2 S0 = some (r, S1)) : Ag P S0 S1 := by
  have hA : Ag P S0 S0 := Ag.rf _ _
  rw [m_X12_findNights] at hm
  have hA : Ag P S0 (sI S0 1261 a0 0) := hA.sI Ta0
  exact fb_X12_findNights_7 P S0 hc n r S1 n a0 x1 x2 0 (sI S0 1261 a0 0) hA (Ta0) hm
set_option maxHeartbeats 1000000 in
set_option maxRecDepth 100000 in
theorem fr_X12_nights (P : Nat → Prop) (n : Nat) (S0 : pq_S) (hc : Clo P S0) (a0 : Nat) (x1 : Int32) (x2 : Int32) (Ta0 : P a0) (r : Int32) (S1 : pq_S) (hm : m_X12_nights n a0 x1 x2 S0 = some (r, S1)) : Ag P S0 S1 := by
  have hA : Ag P S0 S0 := Ag.rf _ _
  rw [m_X12_nights] at hm
  have hA : Ag P S0 (sI S0 1200 a0 0) := hA.sI Ta0
  obtain ⟨r3, S_1, hq2, hm⟩ := cb_some hm
  have hA : Ag P S0 S_1 := hA.tr (fr_X12_isPlace P n (sI S0 1200 a0 0) (hA.cl hc) a0 x1 1 (Ta0) r3 S_1 hq2)
  by_cases h4 : r3 = 0
  · rw [if_pos h4] at hm
    cases hm
    exact hA
  · rw [if_neg h4] at hm
    obtain ⟨r7, S_5, hq6, hm⟩ := cb_some hm
    have hA : Ag P S0 S_5 := hA.tr (fr_X12_within P n S_1 (hA.cl hc) x2 1 24  r7 S_5 hq6)
    obtain ⟨r10, S_8, hq9, hm⟩ := cb_some hm
    have hA : Ag P S0 S_8 := hA.tr (fr_X12_may P n S_5 (hA.cl hc) a0 r7 2 1 (Ta0) r10 S_8 hq9)
    by_cases h11 : r10 = 0
    · rw [if_pos h11] at hm
      cases hm
      exact hA
    · rw [if_neg h11] at hm
      obtain ⟨r14, S_12, hq13, hm⟩ := cb_some hm
      have hA : Ag P S0 S_12 := hA.tr (fr_X12_findNights P n S_8 (hA.cl hc) a0 x1 x2 (Ta0) r14 S_12 hq13)
      cases hm
      exact hA
set_option maxHeartbeats 1000000 in
set_option maxRecDepth 100000 in
theorem fr_X12_night (P : Nat → Prop) (n : Nat) (S0 : pq_S) (hc : Clo P S0) (a0 : Nat) (x1 : Int32) (x2 : Int32) (Ta0 : P a0) (r : Int32) (S1 : pq_S) (hm : m_X12_night n a0 x1 x2 S0 = some (r, S1)) : Ag P S0 S1 := by
  have hA : Ag P S0 S0 := Ag.rf _ _
  rw [m_X12_night] at hm
  have hA : Ag P S0 (sI S0 1200 a0 0) := hA.sI Ta0
  obtain ⟨r3, S_1, hq2, hm⟩ := cb_some hm
  have hA : Ag P S0 S_1 := hA.tr (fr_X12_isWant P n (sI S0 1200 a0 0) (hA.cl hc) a0 x1 1 (Ta0) r3 S_1 hq2)
  by_cases h4 : r3 = 0
  · rw [if_pos h4] at hm
    cases hm
    exact hA
  · rw [if_neg h4] at hm
    obtain ⟨r7, S_5, hq6, hm⟩ := cb_some hm
    have hA : Ag P S0 S_5 := hA.tr (fr_X12_within P n S_1 (hA.cl hc) x2 1 24  r7 S_5 hq6)
    obtain ⟨r10, S_8, hq9, hm⟩ := cb_some hm
    have hA : Ag P S0 S_8 := hA.tr (fr_X12_may P n S_5 (hA.cl hc) a0 r7 2 1 (Ta0) r10 S_8 hq9)
    by_cases h11 : r10 = 0
    · rw [if_pos h11] at hm
      cases hm
      exact hA
    · rw [if_neg h11] at hm
      obtain ⟨q12, hq12, hm⟩ := bd_some hm
      have Tq12 : P q12 := hA.clo hc Ta0 hq12
      obtain ⟨hi13, hm⟩ := ck_some hm
      obtain ⟨r16, S_14, hq15, hm⟩ := cb_some hm
      have hA : Ag P S0 S_14 := hA.tr (fr_X12_findNights P n S_8 (hA.cl hc) a0 (pA S_8 q12 (Int32.toNatClampNeg ((4 : Int32) * x1))) x2 (Ta0) r16 S_14 hq15)
      by_cases h17 : r16 = (-1)
      · rw [if_pos h17] at hm
        cases hm
        exact hA
      · rw [if_neg h17] at hm
        obtain ⟨q18, hq18, hm⟩ := bd_some hm
        have Tq18 : P q18 := hA.clo hc Ta0 hq18
        obtain ⟨hi19, hm⟩ := ck_some hm
        cases hm
        exact hA
set_option maxHeartbeats 1000000 in
set_option maxRecDepth 100000 in
theorem fb_X12_chosen_82 (P : Nat → Prop) (S0 : pq_S) (hc : Clo P S0) (n : Nat) (r : Int32) (S1 : pq_S) (k18 : Nat → Int32 → Int32 → Int32 → pq_S → Option (Int32 × pq_S)) (hk18 : ∀ (a0 : Nat) (x1 : Int32) (x2 : Int32) (x3 : Int32) (S : pq_S), Ag P S0 S → P a0 → k18 a0 x1 x2 x3 S = some (r, S1) → Ag P S0 S1) : ∀ (a0 : Nat) (x1 : Int32) (x2 : Int32) (x3 : Int32) (S : pq_S), Ag P S0 S → P a0 → b_X12_chosen_82 n k18 a0 x1 x2 x3 S = some (r, S1) → Ag P S0 S1 := by
  intro a0 x1 x2 x3 S hA Ta0 hm
  rw [b_X12_chosen_82] at hm
  exact hk18 a0 x1 x2 (x3 + 1) S hA (Ta0) hm
set_option maxHeartbeats 1000000 in
set_option maxRecDepth 100000 in
theorem fb_X12_chosen_80 (P : Nat → Prop) (S0 : pq_S) (hc : Clo P S0) (n : Nat) (r : Int32) (S1 : pq_S) (k18 : Nat → Int32 → Int32 → Int32 → pq_S → Option (Int32 × pq_S)) (hk18 : ∀ (a0 : Nat) (x1 : Int32) (x2 : Int32) (x3 : Int32) (S : pq_S), Ag P S0 S → P a0 → k18 a0 x1 x2 x3 S = some (r, S1) → Ag P S0 S1) : ∀ (a0 : Nat) (x1 : Int32) (x3 : Int32) (S : pq_S), Ag P S0 S → P a0 → b_X12_chosen_80 n k18 a0 x1 x3 S = some (r, S1) → Ag P S0 S1 := by
  intro a0 x1 x3 S hA Ta0 hm
  rw [b_X12_chosen_80] at hm
  exact fb_X12_chosen_82 P S0 hc n r S1 _ hk18 a0 x1 x3 x3 S hA (Ta0) hm
set_option maxHeartbeats 1000000 in
set_option maxRecDepth 100000 in
theorem fb_X12_chosen_65 (P : Nat → Prop) (S0 : pq_S) (hc : Clo P S0) (n : Nat) (r : Int32) (S1 : pq_S) (k18 : Nat → Int32 → Int32 → Int32 → pq_S → Option (Int32 × pq_S)) (hk18 : ∀ (a0 : Nat) (x1 : Int32) (x2 : Int32) (x3 : Int32) (S : pq_S), Ag P S0 S → P a0 → k18 a0 x1 x2 x3 S = some (r, S1) → Ag P S0 S1) : ∀ (a0 : Nat) (x1 : Int32) (x2 : Int32) (x3 : Int32) (S : pq_S), Ag P S0 S → P a0 → b_X12_chosen_65 n k18 a0 x1 x2 x3 S = some (r, S1) → Ag P S0 S1 := by
  intro a0 x1 x2 x3 S hA Ta0 hm
  rw [b_X12_chosen_65] at hm
  by_cases h14 : x2 = (-1)
  · rw [if_pos h14] at hm
    exact fb_X12_chosen_80 P S0 hc n r S1 _ hk18 a0 x1 x3 S hA (Ta0) hm
  · rw [if_neg h14] at hm
    obtain ⟨r17, S_15, hq16, hm⟩ := cb_some hm
    have hA : Ag P S0 S_15 := hA.tr (fr_X12_isAbove P n S (hA.cl hc) a0 x1 x3 x2 (Ta0) r17 S_15 hq16)
    by_cases h18 : r17 = 0
    · rw [if_pos h18] at hm
      exact fb_X12_chosen_82 P S0 hc n r S1 _ hk18 a0 x1 x2 x3 S_15 hA (Ta0) hm
    · rw [if_neg h18] at hm
      exact fb_X12_chosen_80 P S0 hc n r S1 _ hk18 a0 x1 x3 S_15 hA (Ta0) hm
set_option maxHeartbeats 1000000 in
set_option maxRecDepth 100000 in
theorem fb_X12_chosen_42 (P : Nat → Prop) (S0 : pq_S) (hc : Clo P S0) (n : Nat) (r : Int32) (S1 : pq_S) (k18 : Nat → Int32 → Int32 → Int32 → pq_S → Option (Int32 × pq_S)) (hk18 : ∀ (a0 : Nat) (x1 : Int32) (x2 : Int32) (x3 : Int32) (S : pq_S), Ag P S0 S → P a0 → k18 a0 x1 x2 x3 S = some (r, S1) → Ag P S0 S1) : ∀ (a0 : Nat) (x1 : Int32) (x2 : Int32) (x3 : Int32) (z0 : Int32) (z1 : Int32) (S : pq_S), Ag P S0 S → P a0 → b_X12_chosen_42 n k18 a0 x1 x2 x3 z0 z1 S = some (r, S1) → Ag P S0 S1 := by
  intro a0 x1 x2 x3 z0 z1 S hA Ta0 hm
  rw [b_X12_chosen_42] at hm
  by_cases h9 : z1 ≤ z0
  · rw [if_pos h9] at hm
    cases hm
    exact hA
  · rw [if_neg h9] at hm
    by_cases h10 : x1 = 1
    · rw [if_pos h10] at hm
      obtain ⟨q11, hq11, hm⟩ := bd_some hm
      have Tq11 : P q11 := hA.clo hc Ta0 hq11
      obtain ⟨hi12, hm⟩ := ck_some hm
      by_cases h13 : (pA S q11 (Int32.toNatClampNeg ((18 : Int32) + x3))) = 0
      · rw [if_pos h13] at hm
        exact fb_X12_chosen_82 P S0 hc n r S1 _ hk18 a0 x1 x2 x3 S hA (Ta0) hm
      · rw [if_neg h13] at hm
        exact fb_X12_chosen_65 P S0 hc n r S1 _ hk18 a0 x1 x2 x3 S hA (Ta0) hm
    · rw [if_neg h10] at hm
      exact fb_X12_chosen_65 P S0 hc n r S1 _ hk18 a0 x1 x2 x3 S hA (Ta0) hm
set_option maxHeartbeats 1000000 in
set_option maxRecDepth 100000 in
theorem fb_X12_chosen_26 (P : Nat → Prop) (S0 : pq_S) (hc : Clo P S0) (n : Nat) (r : Int32) (S1 : pq_S) : ∀ (f : Nat) (a0 : Nat) (x1 : Int32) (x2 : Int32) (x3 : Int32) (S : pq_S), Ag P S0 S → P a0 → b_X12_chosen_26 n f a0 x1 x2 x3 S = some (r, S1) → Ag P S0 S1 := by
  intro f
  induction f with
  | zero =>
    intro a0 x1 x2 x3 S hA Ta0 hm
    cases hm
  | succ f ih =>
    intro a0 x1 x2 x3 S hA Ta0 hm
    rw [b_X12_chosen_26] at hm
    by_cases h8 : x1 = 0
    · rw [if_pos h8] at hm
      exact fb_X12_chosen_42 P S0 hc n r S1 _ ih a0 x1 x2 x3 x3 (pI S 1224 a0) S hA (Ta0) hm
    · rw [if_neg h8] at hm
      exact fb_X12_chosen_42 P S0 hc n r S1 _ ih a0 x1 x2 x3 x3 (pI S 1225 a0) S hA (Ta0) hm
set_option maxHeartbeats 1000000 in
set_option maxRecDepth 100000 in
theorem fr_X12_chosen (P : Nat → Prop) (n : Nat) (S0 : pq_S) (hc : Clo P S0) (a0 : Nat) (x1 : Int32) (Ta0 : P a0) (r : Int32) (S1 : pq_S) (hm : m_X12_chosen n a0 x1 S0 = some (r, S1)) : Ag P S0 S1 := by
  have hA : Ag P S0 S0 := Ag.rf _ _
  rw [m_X12_chosen] at hm
  have hA : Ag P S0 (sI S0 1200 a0 0) := hA.sI Ta0
  obtain ⟨r3, S_1, hq2, hm⟩ := cb_some hm
  have hA : Ag P S0 S_1 := hA.tr (fr_X12_within P n (sI S0 1200 a0 0) (hA.cl hc) x1 0 1  r3 S_1 hq2)
  obtain ⟨r6, S_4, hq5, hm⟩ := cb_some hm
  have hA : Ag P S0 S_4 := hA.tr (fr_X12_may P n S_1 (hA.cl hc) a0 r3 1 1 (Ta0) r6 S_4 hq5)
  by_cases h7 : r6 = 0
  · rw [if_pos h7] at hm
    cases hm
    exact hA
  · rw [if_neg h7] at hm
    exact fb_X12_chosen_26 P S0 hc n r S1 n a0 x1 (-1) 0 S_4 hA (Ta0) hm
set_option maxHeartbeats 1000000 in
set_option maxRecDepth 100000 in
theorem fb_X0_begin_23 (P : Nat → Prop) (S0 : pq_S) (hc : Clo P S0) (n : Nat) (S1 : pq_S) : ∀ (a1 : Nat) (x3 : Int32) (S : pq_S), Ag P S0 S → P a1 → b_X0_begin_23 n a1 x3 S = some S1 → Ag P S0 S1 := by
  intro a1 x3 S hA Ta1 hm
  rw [b_X0_begin_23] at hm
  obtain ⟨S_10, hq11, hm⟩ := bd_some hm
  have hA : Ag P S0 S_10 := hA.tr (fr_X10_refuse P n S (hA.cl hc) a1 2 x3 (Ta1)  S_10 hq11)
  cases hm
  exact hA
set_option maxHeartbeats 1000000 in
set_option maxRecDepth 100000 in
theorem fr_X0_begin (P : Nat → Prop) (n : Nat) (S0 : pq_S) (hc : Clo P S0) (a0 : Nat) (a1 : Nat) (x2 : Int32) (x3 : Int32) (Ta0 : P a0) (Ta1 : P a1) (S1 : pq_S) (hm : m_X0_begin n a0 a1 x2 x3 S0 = some S1) : Ag P S0 S1 := by
  have hA : Ag P S0 S0 := Ag.rf _ _
  rw [m_X0_begin] at hm
  by_cases h1 : x2 < 0
  · rw [if_pos h1] at hm
    exact fb_X0_begin_23 P S0 hc n S1 a1 x3 S0 hA (Ta1) hm
  · rw [if_neg h1] at hm
    obtain ⟨q2, hq2, hm⟩ := bd_some hm
    have Tq2 : P q2 := hA.clo hc Ta0 hq2
    by_cases h3 : (Int32.ofNat (pN S0 q2)) ≤ x2
    · rw [if_pos h3] at hm
      exact fb_X0_begin_23 P S0 hc n S1 a1 x3 S0 hA (Ta1) hm
    · rw [if_neg h3] at hm
      obtain ⟨q4, hq4, hm⟩ := bd_some hm
      have Tq4 : P q4 := hA.clo hc Ta0 hq4
      obtain ⟨hi5, hm⟩ := ck_some hm
      by_cases h6 : (pA S0 q4 (Int32.toNatClampNeg x2)) = (-1)
      · rw [if_pos h6] at hm
        by_cases h7 : (pI S0 1 a0) < 6
        · rw [if_pos h7] at hm
          cases hm
          exact hA
        · rw [if_neg h7] at hm
          obtain ⟨S_8, hq9, hm⟩ := bd_some hm
          have hA : Ag P S0 S_8 := hA.tr (fr_X10_refuse P n S0 (hA.cl hc) a1 3 x3 (Ta1)  S_8 hq9)
          cases hm
          exact hA
      · rw [if_neg h6] at hm
        exact fb_X0_begin_23 P S0 hc n S1 a1 x3 S0 hA (Ta1) hm
set_option maxHeartbeats 1000000 in
set_option maxRecDepth 100000 in
theorem fb_X1_readSetting_13 (P : Nat → Prop) (S0 : pq_S) (hc : Clo P S0) (n : Nat) (r : Int32) (S1 : pq_S) : ∀ (a0 : Nat) (x2 : Int32) (S : pq_S), Ag P S0 S → P a0 → b_X1_readSetting_13 n a0 x2 S = some (r, S1) → Ag P S0 S1 := by
  intro a0 x2 S hA Ta0 hm
  rw [b_X1_readSetting_13] at hm
  obtain ⟨r6, S_4, hq5, hm⟩ := cb_some hm
  have hA : Ag P S0 S_4 := hA.tr (fr_X10_takeNumber P n S (hA.cl hc) a0 0 x2 (Ta0) r6 S_4 hq5)
  cases hm
  exact hA
set_option maxHeartbeats 1000000 in
set_option maxRecDepth 100000 in
theorem fr_X1_readSetting (P : Nat → Prop) (n : Nat) (S0 : pq_S) (hc : Clo P S0) (a0 : Nat) (x1 : Int32) (x2 : Int32) (Ta0 : P a0) (r : Int32) (S1 : pq_S) (hm : m_X1_readSetting n a0 x1 x2 S0 = some (r, S1)) : Ag P S0 S1 := by
  have hA : Ag P S0 S0 := Ag.rf _ _
  rw [m_X1_readSetting] at hm
  by_cases h1 : x1 = 0
  · rw [if_pos h1] at hm
    exact fb_X1_readSetting_13 P S0 hc n r S1 a0 x2 S0 hA (Ta0) hm
  · rw [if_neg h1] at hm
    obtain ⟨S_2, hq3, hm⟩ := bd_some hm
    have hA : Ag P S0 S_2 := hA.tr (fr_X10_refuse P n S0 (hA.cl hc) a0 3 (pI S0 1004 a0) (Ta0)  S_2 hq3)
    exact fb_X1_readSetting_13 P S0 hc n r S1 a0 x2 S_2 hA (Ta0) hm
set_option maxHeartbeats 1000000 in
set_option maxRecDepth 100000 in
theorem fb_X1_beginRow_20 (P : Nat → Prop) (S0 : pq_S) (hc : Clo P S0) (n : Nat) (r : Int32) (S1 : pq_S) : ∀ (a1 : Nat) (S : pq_S), Ag P S0 S → P a1 → b_X1_beginRow_20 n a1 S = some (r, S1) → Ag P S0 S1 := by
  intro a1 S hA Ta1 hm
  rw [b_X1_beginRow_20] at hm
  obtain ⟨r8, S_6, hq7, hm⟩ := cb_some hm
  have hA : Ag P S0 S_6 := hA.tr (fr_X9_newRow P n S (hA.cl hc) a1 (Ta1) r8 S_6 hq7)
  cases hm
  exact hA
set_option maxHeartbeats 1000000 in
set_option maxRecDepth 100000 in
theorem fb_X1_beginRow_11 (P : Nat → Prop) (S0 : pq_S) (hc : Clo P S0) (n : Nat) (r : Int32) (S1 : pq_S) : ∀ (a0 : Nat) (a1 : Nat) (S : pq_S), Ag P S0 S → P a0 → P a1 → b_X1_beginRow_11 n a0 a1 S = some (r, S1) → Ag P S0 S1 := by
  intro a0 a1 S hA Ta0 Ta1 hm
  rw [b_X1_beginRow_11] at hm
  obtain ⟨S_9, hq10, hm⟩ := bd_some hm
  have hA : Ag P S0 S_9 := hA.tr (fr_X10_refuse P n S (hA.cl hc) a0 3 (pI S 1004 a0) (Ta0)  S_9 hq10)
  exact fb_X1_beginRow_20 P S0 hc n r S1 a1 S_9 hA (Ta1) hm
set_option maxHeartbeats 1000000 in
set_option maxRecDepth 100000 in
theorem fr_X1_beginRow (P : Nat → Prop) (n : Nat) (S0 : pq_S) (hc : Clo P S0) (a0 : Nat) (a1 : Nat) (x2 : Int32) (Ta0 : P a0) (Ta1 : P a1) (r : Int32) (S1 : pq_S) (hm : m_X1_beginRow n a0 a1 x2 S0 = some (r, S1)) : Ag P S0 S1 := by
  have hA : Ag P S0 S0 := Ag.rf _ _
  rw [m_X1_beginRow] at hm
  by_cases h1 : x2 = 0
  · rw [if_pos h1] at hm
    obtain ⟨r4, S_2, hq3, hm⟩ := cb_some hm
    have hA : Ag P S0 S_2 := hA.tr (fr_X9_isFull P n S0 (hA.cl hc) a1 (Ta1) r4 S_2 hq3)
    by_cases h5 : r4 = 0
    · rw [if_pos h5] at hm
      exact fb_X1_beginRow_20 P S0 hc n r S1 a1 S_2 hA (Ta1) hm
    · rw [if_neg h5] at hm
      exact fb_X1_beginRow_11 P S0 hc n r S1 a0 a1 S_2 hA (Ta0) (Ta1) hm
  · rw [if_neg h1] at hm
    exact fb_X1_beginRow_11 P S0 hc n r S1 a0 a1 S0 hA (Ta0) (Ta1) hm
set_option maxHeartbeats 1000000 in
set_option maxRecDepth 100000 in
theorem fr_X1_copyFrom (P : Nat → Prop) (n : Nat) (S0 : pq_S) (hc : Clo P S0) (a0 : Nat) (a1 : Nat) (Ta0 : P a0) (Ta1 : P a1) (S1 : pq_S) (hm : m_X1_copyFrom n a0 a1 S0 = some S1) : Ag P S0 S1 := by
  have hA : Ag P S0 S0 := Ag.rf _ _
  rw [m_X1_copyFrom] at hm
  obtain ⟨q1, hq1, hm⟩ := bd_some hm
  have Tq1 : P q1 := hA.clo hc Ta0 hq1
  obtain ⟨q2, hq2, hm⟩ := bd_some hm
  have Tq2 : P q2 := hA.clo hc Ta1 hq2
  obtain ⟨S_3, hq4, hm⟩ := bd_some hm
  have hA : Ag P S0 S_3 := hA.tr (fr_X9_copyFrom P n S0 (hA.cl hc) q1 q2 (Tq1) (Tq2)  S_3 hq4)
  obtain ⟨q5, hq5, hm⟩ := bd_some hm
  have Tq5 : P q5 := hA.clo hc Ta0 hq5
  obtain ⟨q6, hq6, hm⟩ := bd_some hm
  have Tq6 : P q6 := hA.clo hc Ta1 hq6
  obtain ⟨S_7, hq8, hm⟩ := bd_some hm
  have hA : Ag P S0 S_7 := hA.tr (fr_X9_copyFrom P n S_3 (hA.cl hc) q5 q6 (Tq5) (Tq6)  S_7 hq8)
  obtain ⟨q9, hq9, hm⟩ := bd_some hm
  have Tq9 : P q9 := hA.clo hc Ta0 hq9
  obtain ⟨q10, hq10, hm⟩ := bd_some hm
  have Tq10 : P q10 := hA.clo hc Ta1 hq10
  obtain ⟨S_11, hq12, hm⟩ := bd_some hm
  have hA : Ag P S0 S_11 := hA.tr (fr_X9_copyFrom P n S_7 (hA.cl hc) q9 q10 (Tq9) (Tq10)  S_11 hq12)
  obtain ⟨q13, hq13, hm⟩ := bd_some hm
  have Tq13 : P q13 := hA.clo hc Ta0 hq13
  obtain ⟨q14, hq14, hm⟩ := bd_some hm
  have Tq14 : P q14 := hA.clo hc Ta1 hq14
  obtain ⟨S_15, hq16, hm⟩ := bd_some hm
  have hA : Ag P S0 S_15 := hA.tr (fr_X9_copyFrom P n S_11 (hA.cl hc) q13 q14 (Tq13) (Tq14)  S_15 hq16)
  have hA : Ag P S0 (sI S_15 104 a0 (pI S_15 104 a1)) := hA.sI Ta0
  have hA : Ag P S0 (sI (sI S_15 104 a0 (pI S_15 104 a1)) 105 a0 (pI (sI S_15 104 a0 (pI S_15 104 a1)) 105 a1)) := hA.sI Ta0
  obtain ⟨S_17, eS_17, hm⟩ := lt_some hm
  have hA : Ag P S0 S_17 := by rw [eS_17]; exact hA
  cases hm
  exact hA
set_option maxHeartbeats 1000000 in
set_option maxRecDepth 100000 in
theorem fr_X1_milesBetween (P : Nat → Prop) (n : Nat) (S0 : pq_S) (hc : Clo P S0) (a0 : Nat) (x1 : Int32) (x2 : Int32) (Ta0 : P a0) (r : Int32) (S1 : pq_S) (hm : m_X1_milesBetween n a0 x1 x2 S0 = some (r, S1)) : Ag P S0 S1 := by
  have hA : Ag P S0 S0 := Ag.rf _ _
  rw [m_X1_milesBetween] at hm
  obtain ⟨q1, hq1, hm⟩ := bd_some hm
  have Tq1 : P q1 := hA.clo hc Ta0 hq1
  obtain ⟨r4, S_2, hq3, hm⟩ := cb_some hm
  have hA : Ag P S0 S_2 := hA.tr (fr_X9_at P n S0 (hA.cl hc) q1 x1 0 (Tq1) r4 S_2 hq3)
  obtain ⟨q5, hq5, hm⟩ := bd_some hm
  have Tq5 : P q5 := hA.clo hc Ta0 hq5
  obtain ⟨r8, S_6, hq7, hm⟩ := cb_some hm
  have hA : Ag P S0 S_6 := hA.tr (fr_X9_at P n S_2 (hA.cl hc) q5 x2 0 (Tq5) r8 S_6 hq7)
  cases hm
  exact hA
set_option maxHeartbeats 1000000 in
set_option maxRecDepth 100000 in
theorem fb_X1_standsAhead_38 (P : Nat → Prop) (S0 : pq_S) (hc : Clo P S0) (n : Nat) (r : Int32) (S1 : pq_S) : ∀  (S : pq_S), Ag P S0 S → b_X1_standsAhead_38 n  S = some (r, S1) → Ag P S0 S1 := by
  intro S hA hm
  rw [b_X1_standsAhead_38] at hm
  cases hm
  exact hA
set_option maxHeartbeats 1000000 in
set_option maxRecDepth 100000 in
theorem fr_X1_standsAhead (P : Nat → Prop) (n : Nat) (S0 : pq_S) (hc : Clo P S0) (a0 : Nat) (x1 : Int32) (x2 : Int32) (Ta0 : P a0) (r : Int32) (S1 : pq_S) (hm : m_X1_standsAhead n a0 x1 x2 S0 = some (r, S1)) : Ag P S0 S1 := by
  have hA : Ag P S0 S0 := Ag.rf _ _
  rw [m_X1_standsAhead] at hm
  obtain ⟨q1, hq1, hm⟩ := bd_some hm
  have Tq1 : P q1 := hA.clo hc Ta0 hq1
  obtain ⟨r4, S_2, hq3, hm⟩ := cb_some hm
  have hA : Ag P S0 S_2 := hA.tr (fr_X9_at P n S0 (hA.cl hc) q1 x1 0 (Tq1) r4 S_2 hq3)
  obtain ⟨q5, hq5, hm⟩ := bd_some hm
  have Tq5 : P q5 := hA.clo hc Ta0 hq5
  obtain ⟨r8, S_6, hq7, hm⟩ := cb_some hm
  have hA : Ag P S0 S_6 := hA.tr (fr_X9_at P n S_2 (hA.cl hc) q5 x2 0 (Tq5) r8 S_6 hq7)
  by_cases h9 : r4 < r8
  · rw [if_pos h9] at hm
    exact fb_X1_standsAhead_38 P S0 hc n r S1  S_6 hA  hm
  · rw [if_neg h9] at hm
    by_cases h10 : r4 = r8
    · rw [if_pos h10] at hm
      by_cases h11 : x2 ≤ x1
      · rw [if_pos h11] at hm
        cases hm
        exact hA
      · rw [if_neg h11] at hm
        exact fb_X1_standsAhead_38 P S0 hc n r S1  S_6 hA  hm
    · rw [if_neg h10] at hm
      cases hm
      exact hA
set_option maxHeartbeats 1000000 in
set_option maxRecDepth 100000 in
theorem fb_X1_neighbour_53 (P : Nat → Prop) (S0 : pq_S) (hc : Clo P S0) (n : Nat) (r : Int32) (S1 : pq_S) (k4 : Nat → Int32 → Int32 → Int32 → Int32 → pq_S → Option (Int32 × pq_S)) (hk4 : ∀ (a0 : Nat) (x1 : Int32) (x2 : Int32) (x3 : Int32) (x4 : Int32) (S : pq_S), Ag P S0 S → P a0 → k4 a0 x1 x2 x3 x4 S = some (r, S1) → Ag P S0 S1) : ∀ (a0 : Nat) (x1 : Int32) (x2 : Int32) (x3 : Int32) (x4 : Int32) (S : pq_S), Ag P S0 S → P a0 → b_X1_neighbour_53 n k4 a0 x1 x2 x3 x4 S = some (r, S1) → Ag P S0 S1 := by
  intro a0 x1 x2 x3 x4 S hA Ta0 hm
  rw [b_X1_neighbour_53] at hm
  exact hk4 a0 x1 x2 x3 (x4 + 1) S hA (Ta0) hm
set_option maxHeartbeats 1000000 in
set_option maxRecDepth 100000 in
theorem fb_X1_neighbour_50 (P : Nat → Prop) (S0 : pq_S) (hc : Clo P S0) (n : Nat) (r : Int32) (S1 : pq_S) (k4 : Nat → Int32 → Int32 → Int32 → Int32 → pq_S → Option (Int32 × pq_S)) (hk4 : ∀ (a0 : Nat) (x1 : Int32) (x2 : Int32) (x3 : Int32) (x4 : Int32) (S : pq_S), Ag P S0 S → P a0 → k4 a0 x1 x2 x3 x4 S = some (r, S1) → Ag P S0 S1) : ∀ (a0 : Nat) (x1 : Int32) (x2 : Int32) (x4 : Int32) (S : pq_S), Ag P S0 S → P a0 → b_X1_neighbour_50 n k4 a0 x1 x2 x4 S = some (r, S1) → Ag P S0 S1 := by
  intro a0 x1 x2 x4 S hA Ta0 hm
  rw [b_X1_neighbour_50] at hm
  exact fb_X1_neighbour_53 P S0 hc n r S1 _ hk4 a0 x1 x2 x4 x4 S hA (Ta0) hm
set_option maxHeartbeats 1000000 in
set_option maxRecDepth 100000 in
theorem fb_X1_neighbour_5 (P : Nat → Prop) (S0 : pq_S) (hc : Clo P S0) (n : Nat) (r : Int32) (S1 : pq_S) : ∀ (f : Nat) (a0 : Nat) (x1 : Int32) (x2 : Int32) (x3 : Int32) (x4 : Int32) (S : pq_S), Ag P S0 S → P a0 → b_X1_neighbour_5 n f a0 x1 x2 x3 x4 S = some (r, S1) → Ag P S0 S1 := by
  intro f
  induction f with
  | zero =>
    intro a0 x1 x2 x3 x4 S hA Ta0 hm
    cases hm
  | succ f ih =>
    intro a0 x1 x2 x3 x4 S hA Ta0 hm
    rw [b_X1_neighbour_5] at hm
    obtain ⟨q1, hq1, hm⟩ := bd_some hm
    have Tq1 : P q1 := hA.clo hc Ta0 hq1
    by_cases h2 : (pI S 902 q1) ≤ x4
    · rw [if_pos h2] at hm
      cases hm
      exact hA
    · rw [if_neg h2] at hm
      by_cases h3 : x4 = x1
      · rw [if_pos h3] at hm
        exact fb_X1_neighbour_53 P S0 hc n r S1 _ ih a0 x1 x2 x3 x4 S hA (Ta0) hm
      · rw [if_neg h3] at hm
        obtain ⟨r6, S_4, hq5, hm⟩ := cb_some hm
        have hA : Ag P S0 S_4 := hA.tr (fr_X1_standsAhead P n S (hA.cl hc) a0 x4 x1 (Ta0) r6 S_4 hq5)
        by_cases h7 : r6 = x2
        · rw [if_pos h7] at hm
          by_cases h8 : x3 = (-1)
          · rw [if_pos h8] at hm
            exact fb_X1_neighbour_50 P S0 hc n r S1 _ ih a0 x1 x2 x4 S_4 hA (Ta0) hm
          · rw [if_neg h8] at hm
            obtain ⟨r11, S_9, hq10, hm⟩ := cb_some hm
            have hA : Ag P S0 S_9 := hA.tr (fr_X1_standsAhead P n S_4 (hA.cl hc) a0 x3 x4 (Ta0) r11 S_9 hq10)
            by_cases h12 : r11 = x2
            · rw [if_pos h12] at hm
              exact fb_X1_neighbour_50 P S0 hc n r S1 _ ih a0 x1 x2 x4 S_9 hA (Ta0) hm
            · rw [if_neg h12] at hm
              exact fb_X1_neighbour_53 P S0 hc n r S1 _ ih a0 x1 x2 x3 x4 S_9 hA (Ta0) hm
        · rw [if_neg h7] at hm
          exact fb_X1_neighbour_53 P S0 hc n r S1 _ ih a0 x1 x2 x3 x4 S_4 hA (Ta0) hm
set_option maxHeartbeats 1000000 in
set_option maxRecDepth 100000 in
theorem fr_X1_neighbour (P : Nat → Prop) (n : Nat) (S0 : pq_S) (hc : Clo P S0) (a0 : Nat) (x1 : Int32) (x2 : Int32) (Ta0 : P a0) (r : Int32) (S1 : pq_S) (hm : m_X1_neighbour n a0 x1 x2 S0 = some (r, S1)) : Ag P S0 S1 := by
  have hA : Ag P S0 S0 := Ag.rf _ _
  rw [m_X1_neighbour] at hm
  exact fb_X1_neighbour_5 P S0 hc n r S1 n a0 x1 x2 (-1) 0 S0 hA (Ta0) hm
set_option maxHeartbeats 1000000 in
set_option maxRecDepth 100000 in
theorem fr_X1_missing (P : Nat → Prop) (n : Nat) (S0 : pq_S) (hc : Clo P S0) (a0 : Nat) (x1 : Int32) (x2 : Int32) (Ta0 : P a0) (r : Int32) (S1 : pq_S) (hm : m_X1_missing n a0 x1 x2 S0 = some (r, S1)) : Ag P S0 S1 := by
  have hA : Ag P S0 S0 := Ag.rf _ _
  rw [m_X1_missing] at hm
  obtain ⟨r3, S_1, hq2, hm⟩ := cb_some hm
  have hA : Ag P S0 S_1 := hA.tr (fr_X1_bitOf P n S0 (hA.cl hc) x2 x1  r3 S_1 hq2)
  obtain ⟨r6, S_4, hq5, hm⟩ := cb_some hm
  have hA : Ag P S0 S_4 := hA.tr (fr_X1_neighbour P n S_1 (hA.cl hc) a0 x1 1 (Ta0) r6 S_4 hq5)
  obtain ⟨r9, S_7, hq8, hm⟩ := cb_some hm
  have hA : Ag P S0 S_7 := hA.tr (fr_X1_bitOf P n S_4 (hA.cl hc) x2 r6  r9 S_7 hq8)
  obtain ⟨r12, S_10, hq11, hm⟩ := cb_some hm
  have hA : Ag P S0 S_10 := hA.tr (fr_X1_neighbour P n S_7 (hA.cl hc) a0 x1 0 (Ta0) r12 S_10 hq11)
  obtain ⟨r15, S_13, hq14, hm⟩ := cb_some hm
  have hA : Ag P S0 S_13 := hA.tr (fr_X1_bitOf P n S_10 (hA.cl hc) x2 r12  r15 S_13 hq14)
  cases hm
  exact hA
set_option maxHeartbeats 1000000 in
set_option maxRecDepth 100000 in
theorem fb_X1_moonsOn_53 (P : Nat → Prop) (S0 : pq_S) (hc : Clo P S0) (n : Nat) (r : Int32) (S1 : pq_S) (k4 : Nat → Int32 → Int32 → Int32 → pq_S → Option (Int32 × pq_S)) (hk4 : ∀ (a0 : Nat) (x1 : Int32) (x2 : Int32) (x3 : Int32) (S : pq_S), Ag P S0 S → P a0 → k4 a0 x1 x2 x3 S = some (r, S1) → Ag P S0 S1) : ∀ (a0 : Nat) (x1 : Int32) (x2 : Int32) (x3 : Int32) (S : pq_S), Ag P S0 S → P a0 → b_X1_moonsOn_53 n k4 a0 x1 x2 x3 S = some (r, S1) → Ag P S0 S1 := by
  intro a0 x1 x2 x3 S hA Ta0 hm
  rw [b_X1_moonsOn_53] at hm
  exact hk4 a0 x1 x2 (x3 + 1) S hA (Ta0) hm
set_option maxHeartbeats 1000000 in
set_option maxRecDepth 100000 in
theorem fb_X1_moonsOn_4 (P : Nat → Prop) (S0 : pq_S) (hc : Clo P S0) (n : Nat) (r : Int32) (S1 : pq_S) : ∀ (f : Nat) (a0 : Nat) (x1 : Int32) (x2 : Int32) (x3 : Int32) (S : pq_S), Ag P S0 S → P a0 → b_X1_moonsOn_4 n f a0 x1 x2 x3 S = some (r, S1) → Ag P S0 S1 := by
  intro f
  induction f with
  | zero =>
    intro a0 x1 x2 x3 S hA Ta0 hm
    cases hm
  | succ f ih =>
    intro a0 x1 x2 x3 S hA Ta0 hm
    rw [b_X1_moonsOn_4] at hm
    obtain ⟨q1, hq1, hm⟩ := bd_some hm
    have Tq1 : P q1 := hA.clo hc Ta0 hq1
    by_cases h2 : (pI S 902 q1) ≤ x3
    · rw [if_pos h2] at hm
      cases hm
      exact hA
    · rw [if_neg h2] at hm
      obtain ⟨q3, hq3, hm⟩ := bd_some hm
      have Tq3 : P q3 := hA.clo hc Ta0 hq3
      obtain ⟨r6, S_4, hq5, hm⟩ := cb_some hm
      have hA : Ag P S0 S_4 := hA.tr (fr_X9_at P n S (hA.cl hc) q3 x3 0 (Tq3) r6 S_4 hq5)
      by_cases h7 : r6 ≤ 0
      · rw [if_pos h7] at hm
        exact fb_X1_moonsOn_53 P S0 hc n r S1 _ ih a0 x1 x2 x3 S_4 hA (Ta0) hm
      · rw [if_neg h7] at hm
        obtain ⟨hn8, hm⟩ := ck_some hm
        obtain ⟨q9, hq9, hm⟩ := bd_some hm
        have Tq9 : P q9 := hA.clo hc Ta0 hq9
        obtain ⟨r12, S_10, hq11, hm⟩ := cb_some hm
        have hA : Ag P S0 S_10 := hA.tr (fr_X9_at P n S_4 (hA.cl hc) q9 x3 1 (Tq9) r12 S_10 hq11)
        by_cases h13 : (x1 - x1 / r6 * r6) = r12
        · rw [if_pos h13] at hm
          obtain ⟨v14, ev14, hm⟩ := lt_some hm
          exact fb_X1_moonsOn_53 P S0 hc n r S1 _ ih a0 x1 v14 x3 S_10 hA (Ta0) hm
        · rw [if_neg h13] at hm
          exact fb_X1_moonsOn_53 P S0 hc n r S1 _ ih a0 x1 x2 x3 S_10 hA (Ta0) hm
set_option maxHeartbeats 1000000 in
set_option maxRecDepth 100000 in
theorem fr_X1_moonsOn (P : Nat → Prop) (n : Nat) (S0 : pq_S) (hc : Clo P S0) (a0 : Nat) (x1 : Int32) (Ta0 : P a0) (r : Int32) (S1 : pq_S) (hm : m_X1_moonsOn n a0 x1 S0 = some (r, S1)) : Ag P S0 S1 := by
  have hA : Ag P S0 S0 := Ag.rf _ _
  rw [m_X1_moonsOn] at hm
  exact fb_X1_moonsOn_4 P S0 hc n r S1 n a0 x1 0 0 S0 hA (Ta0) hm
set_option maxHeartbeats 1000000 in
set_option maxRecDepth 100000 in
theorem fb_X1_firstDay_2 (P : Nat → Prop) (S0 : pq_S) (hc : Clo P S0) (n : Nat) (r : Int32) (S1 : pq_S) : ∀ (f : Nat) (a0 : Nat) (x2 : Int32) (x3 : Int32) (S : pq_S), Ag P S0 S → P a0 → b_X1_firstDay_2 n f a0 x2 x3 S = some (r, S1) → Ag P S0 S1 := by
  intro f
  induction f with
  | zero =>
    intro a0 x2 x3 S hA Ta0 hm
    cases hm
  | succ f ih =>
    intro a0 x2 x3 S hA Ta0 hm
    rw [b_X1_firstDay_2] at hm
    by_cases h1 : 9999 < x3
    · rw [if_pos h1] at hm
      cases hm
      exact hA
    · rw [if_neg h1] at hm
      obtain ⟨r4, S_2, hq3, hm⟩ := cb_some hm
      have hA : Ag P S0 S_2 := hA.tr (fr_X1_moonsOn P n S (hA.cl hc) a0 x3 (Ta0) r4 S_2 hq3)
      by_cases h5 : r4 = x2
      · rw [if_pos h5] at hm
        cases hm
        exact hA
      · rw [if_neg h5] at hm
        exact ih a0 x2 (x3 + 1) S_2 hA (Ta0) hm
set_option maxHeartbeats 1000000 in
set_option maxRecDepth 100000 in
theorem fr_X1_firstDay (P : Nat → Prop) (n : Nat) (S0 : pq_S) (hc : Clo P S0) (a0 : Nat) (x1 : Int32) (x2 : Int32) (Ta0 : P a0) (r : Int32) (S1 : pq_S) (hm : m_X1_firstDay n a0 x1 x2 S0 = some (r, S1)) : Ag P S0 S1 := by
  have hA : Ag P S0 S0 := Ag.rf _ _
  rw [m_X1_firstDay] at hm
  exact fb_X1_firstDay_2 P S0 hc n r S1 n a0 x2 x1 S0 hA (Ta0) hm
set_option maxHeartbeats 1000000 in
set_option maxRecDepth 100000 in
theorem fb_X1_clouded_138 (P : Nat → Prop) (S0 : pq_S) (hc : Clo P S0) (n : Nat) (r : Int32) (S1 : pq_S) (k12 : Nat → Int32 → Int32 → Int32 → Int32 → Int32 → Int32 → Int32 → Int32 → Int32 → Int32 → pq_S → Option (Int32 × pq_S)) (hk12 : ∀ (a0 : Nat) (x2 : Int32) (x3 : Int32) (x4 : Int32) (x5 : Int32) (x6 : Int32) (x7 : Int32) (x8 : Int32) (x9 : Int32) (x10 : Int32) (x11 : Int32) (S : pq_S), Ag P S0 S → P a0 → k12 a0 x2 x3 x4 x5 x6 x7 x8 x9 x10 x11 S = some (r, S1) → Ag P S0 S1) : ∀ (a0 : Nat) (x2 : Int32) (x3 : Int32) (x4 : Int32) (x5 : Int32) (x6 : Int32) (x7 : Int32) (x8 : Int32) (x9 : Int32) (x11 : Int32) (z0 : Int32) (z1 : Int32) (S : pq_S), Ag P S0 S → P a0 → b_X1_clouded_138 n k12 a0 x2 x3 x4 x5 x6 x7 x8 x9 x11 z0 z1 S = some (r, S1) → Ag P S0 S1 := by
  intro a0 x2 x3 x4 x5 x6 x7 x8 x9 x11 z0 z1 S hA Ta0 hm
  rw [b_X1_clouded_138] at hm
  exact hk12 a0 x2 x3 x4 x5 x6 x7 x8 x9 (z0 + z1) (x11 + 1) S hA (Ta0) hm
set_option maxHeartbeats 1000000 in
set_option maxRecDepth 100000 in
theorem fb_X1_clouded_137 (P : Nat → Prop) (S0 : pq_S) (hc : Clo P S0) (n : Nat) (r : Int32) (S1 : pq_S) (k12 : Nat → Int32 → Int32 → Int32 → Int32 → Int32 → Int32 → Int32 → Int32 → Int32 → Int32 → pq_S → Option (Int32 × pq_S)) (hk12 : ∀ (a0 : Nat) (x2 : Int32) (x3 : Int32) (x4 : Int32) (x5 : Int32) (x6 : Int32) (x7 : Int32) (x8 : Int32) (x9 : Int32) (x10 : Int32) (x11 : Int32) (S : pq_S), Ag P S0 S → P a0 → k12 a0 x2 x3 x4 x5 x6 x7 x8 x9 x10 x11 S = some (r, S1) → Ag P S0 S1) : ∀ (a0 : Nat) (x2 : Int32) (x3 : Int32) (x4 : Int32) (x5 : Int32) (x6 : Int32) (x7 : Int32) (x8 : Int32) (x9 : Int32) (x11 : Int32) (z0 : Int32) (S : pq_S), Ag P S0 S → P a0 → b_X1_clouded_137 n k12 a0 x2 x3 x4 x5 x6 x7 x8 x9 x11 z0 S = some (r, S1) → Ag P S0 S1 := by
  intro a0 x2 x3 x4 x5 x6 x7 x8 x9 x11 z0 S hA Ta0 hm
  rw [b_X1_clouded_137] at hm
  exact fb_X1_clouded_138 P S0 hc n r S1 _ hk12 a0 x2 x3 x4 x5 x6 x7 x8 x9 x11 z0 0 S hA (Ta0) hm
set_option maxHeartbeats 1000000 in
set_option maxRecDepth 100000 in
theorem fb_X1_clouded_109 (P : Nat → Prop) (S0 : pq_S) (hc : Clo P S0) (n : Nat) (r : Int32) (S1 : pq_S) (k12 : Nat → Int32 → Int32 → Int32 → Int32 → Int32 → Int32 → Int32 → Int32 → Int32 → Int32 → pq_S → Option (Int32 × pq_S)) (hk12 : ∀ (a0 : Nat) (x2 : Int32) (x3 : Int32) (x4 : Int32) (x5 : Int32) (x6 : Int32) (x7 : Int32) (x8 : Int32) (x9 : Int32) (x10 : Int32) (x11 : Int32) (S : pq_S), Ag P S0 S → P a0 → k12 a0 x2 x3 x4 x5 x6 x7 x8 x9 x10 x11 S = some (r, S1) → Ag P S0 S1) : ∀ (a0 : Nat) (x2 : Int32) (x3 : Int32) (x4 : Int32) (x5 : Int32) (x6 : Int32) (x8 : Int32) (x9 : Int32) (x10 : Int32) (x11 : Int32) (x12 : Int32) (x13 : Int32) (z0 : Int32) (z1 : Int32) (S : pq_S), Ag P S0 S → P a0 → b_X1_clouded_109 n k12 a0 x2 x3 x4 x5 x6 x8 x9 x10 x11 x12 x13 z0 z1 S = some (r, S1) → Ag P S0 S1 := by
  intro a0 x2 x3 x4 x5 x6 x8 x9 x10 x11 x12 x13 z0 z1 S hA Ta0 hm
  rw [b_X1_clouded_109] at hm
  by_cases h11 : x12 = 0
  · rw [if_pos h11] at hm
    exact fb_X1_clouded_137 P S0 hc n r S1 _ hk12 a0 x2 x3 x4 x5 x6 (z0 + z1) x8 (if x9 < x8 then x8 else x9) x11 x10 S hA (Ta0) hm
  · rw [if_neg h11] at hm
    by_cases h12 : x13 = 0
    · rw [if_pos h12] at hm
      exact fb_X1_clouded_137 P S0 hc n r S1 _ hk12 a0 x2 x3 x4 x5 x6 (z0 + z1) x8 (if x9 < x8 then x8 else x9) x11 x10 S hA (Ta0) hm
    · rw [if_neg h12] at hm
      exact fb_X1_clouded_138 P S0 hc n r S1 _ hk12 a0 x2 x3 x4 x5 x6 (z0 + z1) x8 (if x9 < x8 then x8 else x9) x11 x10 1 S hA (Ta0) hm
set_option maxHeartbeats 1000000 in
set_option maxRecDepth 100000 in
theorem fb_X1_clouded_95 (P : Nat → Prop) (S0 : pq_S) (hc : Clo P S0) (n : Nat) (r : Int32) (S1 : pq_S) (k12 : Nat → Int32 → Int32 → Int32 → Int32 → Int32 → Int32 → Int32 → Int32 → Int32 → Int32 → pq_S → Option (Int32 × pq_S)) (hk12 : ∀ (a0 : Nat) (x2 : Int32) (x3 : Int32) (x4 : Int32) (x5 : Int32) (x6 : Int32) (x7 : Int32) (x8 : Int32) (x9 : Int32) (x10 : Int32) (x11 : Int32) (S : pq_S), Ag P S0 S → P a0 → k12 a0 x2 x3 x4 x5 x6 x7 x8 x9 x10 x11 S = some (r, S1) → Ag P S0 S1) : ∀ (a0 : Nat) (x2 : Int32) (x3 : Int32) (x4 : Int32) (x5 : Int32) (x6 : Int32) (x7 : Int32) (x9 : Int32) (x10 : Int32) (x11 : Int32) (x12 : Int32) (x13 : Int32) (z0 : Int32) (S : pq_S), Ag P S0 S → P a0 → b_X1_clouded_95 n k12 a0 x2 x3 x4 x5 x6 x7 x9 x10 x11 x12 x13 z0 S = some (r, S1) → Ag P S0 S1 := by
  intro a0 x2 x3 x4 x5 x6 x7 x9 x10 x11 x12 x13 z0 S hA Ta0 hm
  rw [b_X1_clouded_95] at hm
  by_cases h10 : z0 ≤ 0
  · rw [if_pos h10] at hm
    exact fb_X1_clouded_109 P S0 hc n r S1 _ hk12 a0 x2 x3 x4 x5 x6 z0 x9 x10 x11 x12 x13 x7 0 S hA (Ta0) hm
  · rw [if_neg h10] at hm
    exact fb_X1_clouded_109 P S0 hc n r S1 _ hk12 a0 x2 x3 x4 x5 x6 z0 x9 x10 x11 x12 x13 x7 1 S hA (Ta0) hm
set_option maxHeartbeats 1000000 in
set_option maxRecDepth 100000 in
theorem fb_X1_clouded_87 (P : Nat → Prop) (S0 : pq_S) (hc : Clo P S0) (n : Nat) (r : Int32) (S1 : pq_S) (k12 : Nat → Int32 → Int32 → Int32 → Int32 → Int32 → Int32 → Int32 → Int32 → Int32 → Int32 → pq_S → Option (Int32 × pq_S)) (hk12 : ∀ (a0 : Nat) (x2 : Int32) (x3 : Int32) (x4 : Int32) (x5 : Int32) (x6 : Int32) (x7 : Int32) (x8 : Int32) (x9 : Int32) (x10 : Int32) (x11 : Int32) (S : pq_S), Ag P S0 S → P a0 → k12 a0 x2 x3 x4 x5 x6 x7 x8 x9 x10 x11 S = some (r, S1) → Ag P S0 S1) : ∀ (a0 : Nat) (x2 : Int32) (x3 : Int32) (x4 : Int32) (x5 : Int32) (x6 : Int32) (x7 : Int32) (x8 : Int32) (x9 : Int32) (x10 : Int32) (x11 : Int32) (x12 : Int32) (x13 : Int32) (S : pq_S), Ag P S0 S → P a0 → b_X1_clouded_87 n k12 a0 x2 x3 x4 x5 x6 x7 x8 x9 x10 x11 x12 x13 S = some (r, S1) → Ag P S0 S1 := by
  intro a0 x2 x3 x4 x5 x6 x7 x8 x9 x10 x11 x12 x13 S hA Ta0 hm
  rw [b_X1_clouded_87] at hm
  exact fb_X1_clouded_95 P S0 hc n r S1 _ hk12 a0 x2 x3 x4 x5 x6 x7 x9 x10 x11 x12 x13 (x8 + (1 : Int32)) S hA (Ta0) hm
set_option maxHeartbeats 1000000 in
set_option maxRecDepth 100000 in
theorem fb_X1_clouded_75 (P : Nat → Prop) (S0 : pq_S) (hc : Clo P S0) (n : Nat) (r : Int32) (S1 : pq_S) (k12 : Nat → Int32 → Int32 → Int32 → Int32 → Int32 → Int32 → Int32 → Int32 → Int32 → Int32 → pq_S → Option (Int32 × pq_S)) (hk12 : ∀ (a0 : Nat) (x2 : Int32) (x3 : Int32) (x4 : Int32) (x5 : Int32) (x6 : Int32) (x7 : Int32) (x8 : Int32) (x9 : Int32) (x10 : Int32) (x11 : Int32) (S : pq_S), Ag P S0 S → P a0 → k12 a0 x2 x3 x4 x5 x6 x7 x8 x9 x10 x11 S = some (r, S1) → Ag P S0 S1) : ∀ (a0 : Nat) (x2 : Int32) (x3 : Int32) (x4 : Int32) (x5 : Int32) (x6 : Int32) (x7 : Int32) (x8 : Int32) (x9 : Int32) (x10 : Int32) (x11 : Int32) (x12 : Int32) (z0 : Int32) (S : pq_S), Ag P S0 S → P a0 → b_X1_clouded_75 n k12 a0 x2 x3 x4 x5 x6 x7 x8 x9 x10 x11 x12 z0 S = some (r, S1) → Ag P S0 S1 := by
  intro a0 x2 x3 x4 x5 x6 x7 x8 x9 x10 x11 x12 z0 S hA Ta0 hm
  rw [b_X1_clouded_75] at hm
  by_cases h8 : x12 = 0
  · rw [if_pos h8] at hm
    by_cases h9 : z0 = 0
    · rw [if_pos h9] at hm
      exact fb_X1_clouded_95 P S0 hc n r S1 _ hk12 a0 x2 x3 x4 x5 x6 x7 x9 x10 x11 x12 z0 0 S hA (Ta0) hm
    · rw [if_neg h9] at hm
      exact fb_X1_clouded_87 P S0 hc n r S1 _ hk12 a0 x2 x3 x4 x5 x6 x7 x8 x9 x10 x11 x12 z0 S hA (Ta0) hm
  · rw [if_neg h8] at hm
    exact fb_X1_clouded_87 P S0 hc n r S1 _ hk12 a0 x2 x3 x4 x5 x6 x7 x8 x9 x10 x11 x12 z0 S hA (Ta0) hm
set_option maxHeartbeats 1000000 in
set_option maxRecDepth 100000 in
theorem fb_X1_clouded_57 (P : Nat → Prop) (S0 : pq_S) (hc : Clo P S0) (n : Nat) (r : Int32) (S1 : pq_S) (k12 : Nat → Int32 → Int32 → Int32 → Int32 → Int32 → Int32 → Int32 → Int32 → Int32 → Int32 → pq_S → Option (Int32 × pq_S)) (hk12 : ∀ (a0 : Nat) (x2 : Int32) (x3 : Int32) (x4 : Int32) (x5 : Int32) (x6 : Int32) (x7 : Int32) (x8 : Int32) (x9 : Int32) (x10 : Int32) (x11 : Int32) (S : pq_S), Ag P S0 S → P a0 → k12 a0 x2 x3 x4 x5 x6 x7 x8 x9 x10 x11 S = some (r, S1) → Ag P S0 S1) : ∀ (a0 : Nat) (x2 : Int32) (x3 : Int32) (x4 : Int32) (x5 : Int32) (x6 : Int32) (x7 : Int32) (x8 : Int32) (x9 : Int32) (x10 : Int32) (x11 : Int32) (z0 : Int32) (S : pq_S), Ag P S0 S → P a0 → b_X1_clouded_57 n k12 a0 x2 x3 x4 x5 x6 x7 x8 x9 x10 x11 z0 S = some (r, S1) → Ag P S0 S1 := by
  intro a0 x2 x3 x4 x5 x6 x7 x8 x9 x10 x11 z0 S hA Ta0 hm
  rw [b_X1_clouded_57] at hm
  obtain ⟨r6, S_4, hq5, hm⟩ := cb_some hm
  have hA : Ag P S0 S_4 := hA.tr (fr_X1_moonsOn P n S (hA.cl hc) a0 (x3 + x11) (Ta0) r6 S_4 hq5)
  by_cases h7 : r6 = 0
  · rw [if_pos h7] at hm
    exact fb_X1_clouded_75 P S0 hc n r S1 _ hk12 a0 x2 x3 x4 x5 x6 x7 x8 x9 x10 x11 z0 1 S_4 hA (Ta0) hm
  · rw [if_neg h7] at hm
    exact fb_X1_clouded_75 P S0 hc n r S1 _ hk12 a0 x2 x3 x4 x5 x6 x7 x8 x9 x10 x11 z0 0 S_4 hA (Ta0) hm
set_option maxHeartbeats 1000000 in
set_option maxRecDepth 100000 in
theorem fb_X1_clouded_147 (P : Nat → Prop) (S0 : pq_S) (hc : Clo P S0) (n : Nat) (r : Int32) (S1 : pq_S) : ∀ (x5 : Int32) (x7 : Int32) (x9 : Int32) (x10 : Int32) (S : pq_S), Ag P S0 S → b_X1_clouded_147 n x5 x7 x9 x10 S = some (r, S1) → Ag P S0 S1 := by
  intro x5 x7 x9 x10 S hA hm
  rw [b_X1_clouded_147] at hm
  by_cases h13 : x5 = 0
  · rw [if_pos h13] at hm
    cases hm
    exact hA
  · rw [if_neg h13] at hm
    by_cases h14 : x5 = 1
    · rw [if_pos h14] at hm
      cases hm
      exact hA
    · rw [if_neg h14] at hm
      cases hm
      exact hA
set_option maxHeartbeats 1000000 in
set_option maxRecDepth 100000 in
theorem fb_X1_clouded_18 (P : Nat → Prop) (S0 : pq_S) (hc : Clo P S0) (n : Nat) (r : Int32) (S1 : pq_S) : ∀ (f : Nat) (a0 : Nat) (x2 : Int32) (x3 : Int32) (x4 : Int32) (x5 : Int32) (x6 : Int32) (x7 : Int32) (x8 : Int32) (x9 : Int32) (x10 : Int32) (x11 : Int32) (S : pq_S), Ag P S0 S → P a0 → b_X1_clouded_18 n f a0 x2 x3 x4 x5 x6 x7 x8 x9 x10 x11 S = some (r, S1) → Ag P S0 S1 := by
  intro f
  induction f with
  | zero =>
    intro a0 x2 x3 x4 x5 x6 x7 x8 x9 x10 x11 S hA Ta0 hm
    cases hm
  | succ f ih =>
    intro a0 x2 x3 x4 x5 x6 x7 x8 x9 x10 x11 S hA Ta0 hm
    rw [b_X1_clouded_18] at hm
    by_cases h1 : x4 ≤ x11
    · rw [if_pos h1] at hm
      exact fb_X1_clouded_147 P S0 hc n r S1 x5 x7 x9 x10 S hA  hm
    · rw [if_neg h1] at hm
      obtain ⟨v2, ev2, hm⟩ := lt_some hm
      by_cases h3 : x2 ≤ (((ushr_ v2 16) &&& (32767 : Int32)) - ((ushr_ v2 16) &&& (32767 : Int32)) / 16 * 16)
      · rw [if_pos h3] at hm
        exact fb_X1_clouded_57 P S0 hc n r S1 _ ih a0 x2 x3 x4 x5 v2 x7 x8 x9 x10 x11 0 S hA (Ta0) hm
      · rw [if_neg h3] at hm
        exact fb_X1_clouded_57 P S0 hc n r S1 _ ih a0 x2 x3 x4 x5 v2 x7 x8 x9 x10 x11 1 S hA (Ta0) hm
set_option maxHeartbeats 1000000 in
set_option maxRecDepth 100000 in
theorem fr_X1_clouded (P : Nat → Prop) (n : Nat) (S0 : pq_S) (hc : Clo P S0) (a0 : Nat) (x1 : Int32) (x2 : Int32) (x3 : Int32) (x4 : Int32) (x5 : Int32) (Ta0 : P a0) (r : Int32) (S1 : pq_S) (hm : m_X1_clouded n a0 x1 x2 x3 x4 x5 S0 = some (r, S1)) : Ag P S0 S1 := by
  have hA : Ag P S0 S0 := Ag.rf _ _
  rw [m_X1_clouded] at hm
  exact fb_X1_clouded_18 P S0 hc n r S1 n a0 x2 x3 x4 x5 x1 0 0 0 0 0 S0 hA (Ta0) hm
set_option maxHeartbeats 1000000 in
set_option maxRecDepth 100000 in
theorem fr_X2_inputNamed (P : Nat → Prop) (n : Nat) (S0 : pq_S) (hc : Clo P S0) (a0 : Nat) (Ta0 : P a0) (r : Int32) (S1 : pq_S) (hm : m_X2_inputNamed n a0 S0 = some (r, S1)) : Ag P S0 S1 := by
  have hA : Ag P S0 S0 := Ag.rf _ _
  rw [m_X2_inputNamed] at hm
  obtain ⟨r3, S_1, hq2, hm⟩ := cb_some hm
  have hA : Ag P S0 S_1 := hA.tr (fr_X10_isWord P n S0 (hA.cl hc) a0 8 (Ta0) r3 S_1 hq2)
  by_cases h4 : r3 = 0
  · rw [if_pos h4] at hm
    obtain ⟨r7, S_5, hq6, hm⟩ := cb_some hm
    have hA : Ag P S0 S_5 := hA.tr (fr_X10_isWord P n S_1 (hA.cl hc) a0 9 (Ta0) r7 S_5 hq6)
    by_cases h8 : r7 = 0
    · rw [if_pos h8] at hm
      obtain ⟨r11, S_9, hq10, hm⟩ := cb_some hm
      have hA : Ag P S0 S_9 := hA.tr (fr_X10_isWord P n S_5 (hA.cl hc) a0 10 (Ta0) r11 S_9 hq10)
      by_cases h12 : r11 = 0
      · rw [if_pos h12] at hm
        obtain ⟨r15, S_13, hq14, hm⟩ := cb_some hm
        have hA : Ag P S0 S_13 := hA.tr (fr_X10_isWord P n S_9 (hA.cl hc) a0 11 (Ta0) r15 S_13 hq14)
        by_cases h16 : r15 = 0
        · rw [if_pos h16] at hm
          obtain ⟨r19, S_17, hq18, hm⟩ := cb_some hm
          have hA : Ag P S0 S_17 := hA.tr (fr_X10_isWord P n S_13 (hA.cl hc) a0 12 (Ta0) r19 S_17 hq18)
          by_cases h20 : r19 = 0
          · rw [if_pos h20] at hm
            obtain ⟨r23, S_21, hq22, hm⟩ := cb_some hm
            have hA : Ag P S0 S_21 := hA.tr (fr_X10_isWord P n S_17 (hA.cl hc) a0 13 (Ta0) r23 S_21 hq22)
            by_cases h24 : r23 = 0
            · rw [if_pos h24] at hm
              obtain ⟨r27, S_25, hq26, hm⟩ := cb_some hm
              have hA : Ag P S0 S_25 := hA.tr (fr_X10_isWord P n S_21 (hA.cl hc) a0 14 (Ta0) r27 S_25 hq26)
              by_cases h28 : r27 = 0
              · rw [if_pos h28] at hm
                cases hm
                exact hA
              · rw [if_neg h28] at hm
                cases hm
                exact hA
            · rw [if_neg h24] at hm
              cases hm
              exact hA
          · rw [if_neg h20] at hm
            cases hm
            exact hA
        · rw [if_neg h16] at hm
          cases hm
          exact hA
      · rw [if_neg h12] at hm
        cases hm
        exact hA
    · rw [if_neg h8] at hm
      cases hm
      exact hA
  · rw [if_neg h4] at hm
    cases hm
    exact hA
set_option maxHeartbeats 1000000 in
set_option maxRecDepth 100000 in
theorem fb_X2_value_178 (P : Nat → Prop) (S0 : pq_S) (hc : Clo P S0) (n : Nat) (r : Int32) (S1 : pq_S) (k44 : Nat → Int32 → pq_S → Option (Int32 × pq_S)) (hk44 : ∀ (a0 : Nat) (x7 : Int32) (S : pq_S), Ag P S0 S → P a0 → k44 a0 x7 S = some (r, S1) → Ag P S0 S1) : ∀ (a0 : Nat) (x7 : Int32) (S : pq_S), Ag P S0 S → P a0 → b_X2_value_178 n k44 a0 x7 S = some (r, S1) → Ag P S0 S1 := by
  intro a0 x7 S hA Ta0 hm
  rw [b_X2_value_178] at hm
  exact hk44 a0 (x7 + 1) S hA (Ta0) hm
set_option maxHeartbeats 1000000 in
set_option maxRecDepth 100000 in
theorem fb_X2_value_184 (P : Nat → Prop) (S0 : pq_S) (hc : Clo P S0) (n : Nat) (r : Int32) (S1 : pq_S) : ∀ (a0 : Nat) (S : pq_S), Ag P S0 S → P a0 → b_X2_value_184 n a0 S = some (r, S1) → Ag P S0 S1 := by
  intro a0 S hA Ta0 hm
  rw [b_X2_value_184] at hm
  obtain ⟨r46, S_44, hq45, hm⟩ := cb_some hm
  have hA : Ag P S0 S_44 := hA.tr (fr_X2_pop P n S (hA.cl hc) a0 (Ta0) r46 S_44 hq45)
  cases hm
  exact hA
set_option maxHeartbeats 1000000 in
set_option maxRecDepth 100000 in
theorem fb_X2_value_151 (P : Nat → Prop) (S0 : pq_S) (hc : Clo P S0) (n : Nat) (r : Int32) (S1 : pq_S) (k44 : Nat → Int32 → pq_S → Option (Int32 × pq_S)) (hk44 : ∀ (a0 : Nat) (x7 : Int32) (S : pq_S), Ag P S0 S → P a0 → k44 a0 x7 S = some (r, S1) → Ag P S0 S1) : ∀ (a0 : Nat) (x7 : Int32) (b0 : Nat) (z1 : Int32) (S : pq_S), Ag P S0 S → P a0 → P b0 → b_X2_value_151 n k44 a0 x7 b0 z1 S = some (r, S1) → Ag P S0 S1 := by
  intro a0 x7 b0 z1 S hA Ta0 Tb0 hm
  rw [b_X2_value_151] at hm
  obtain ⟨S_42, hq43, hm⟩ := bd_some hm
  have hA : Ag P S0 S_42 := hA.tr (fr_X2_push P n S (hA.cl hc) b0 z1 (Tb0)  S_42 hq43)
  exact fb_X2_value_178 P S0 hc n r S1 _ hk44 a0 x7 S_42 hA (Ta0) hm
set_option maxHeartbeats 1000000 in
set_option maxRecDepth 100000 in
theorem fb_X2_value_68 (P : Nat → Prop) (S0 : pq_S) (hc : Clo P S0) (n : Nat) (r : Int32) (S1 : pq_S) : ∀ (f : Nat) (a0 : Nat) (x7 : Int32) (S : pq_S), Ag P S0 S → P a0 → b_X2_value_68 n f a0 x7 S = some (r, S1) → Ag P S0 S1 := by
  intro f
  induction f with
  | zero =>
    intro a0 x7 S hA Ta0 hm
    cases hm
  | succ f ih =>
    intro a0 x7 S hA Ta0 hm
    rw [b_X2_value_68] at hm
    by_cases h18 : (pI S 203 a0) ≤ x7
    · rw [if_pos h18] at hm
      exact fb_X2_value_184 P S0 hc n r S1 a0 S hA (Ta0) hm
    · rw [if_neg h18] at hm
      obtain ⟨q19, hq19, hm⟩ := bd_some hm
      have Tq19 : P q19 := hA.clo hc Ta0 hq19
      by_cases h20 : (Int32.ofNat (pN S q19)) ≤ x7
      · rw [if_pos h20] at hm
        exact fb_X2_value_184 P S0 hc n r S1 a0 S hA (Ta0) hm
      · rw [if_neg h20] at hm
        obtain ⟨q21, hq21, hm⟩ := bd_some hm
        have Tq21 : P q21 := hA.clo hc Ta0 hq21
        obtain ⟨hi22, hm⟩ := ck_some hm
        by_cases h23 : 1000 ≤ (pA S q21 (Int32.toNatClampNeg x7))
        · rw [if_pos h23] at hm
          by_cases h24 : 2000 ≤ (pA S q21 (Int32.toNatClampNeg x7))
          · rw [if_pos h24] at hm
            obtain ⟨r27, S_25, hq26, hm⟩ := cb_some hm
            have hA : Ag P S0 S_25 := hA.tr (fr_X2_pop P n S (hA.cl hc) a0 (Ta0) r27 S_25 hq26)
            obtain ⟨r30, S_28, hq29, hm⟩ := cb_some hm
            have hA : Ag P S0 S_28 := hA.tr (fr_X2_pop P n S_25 (hA.cl hc) a0 (Ta0) r30 S_28 hq29)
            obtain ⟨r33, S_31, hq32, hm⟩ := cb_some hm
            have hA : Ag P S0 S_31 := hA.tr (fr_X2_joined P n S_28 (hA.cl hc) (pA S q21 (Int32.toNatClampNeg x7)) r30 r27  r33 S_31 hq32)
            obtain ⟨S_34, hq35, hm⟩ := bd_some hm
            have hA : Ag P S0 S_34 := hA.tr (fr_X2_push P n S_31 (hA.cl hc) a0 r33 (Ta0)  S_34 hq35)
            exact fb_X2_value_178 P S0 hc n r S1 _ ih a0 x7 S_34 hA (Ta0) hm
          · rw [if_neg h24] at hm
            obtain ⟨q36, hq36, hm⟩ := bd_some hm
            have Tq36 : P q36 := hA.clo hc Ta0 hq36
            by_cases h37 : (Int32.ofNat (pN S q36)) ≤ ((pA S q21 (Int32.toNatClampNeg x7)) - (1000 : Int32))
            · rw [if_pos h37] at hm
              exact fb_X2_value_151 P S0 hc n r S1 _ ih a0 x7 a0 0 S hA (Ta0) (Ta0) hm
            · rw [if_neg h37] at hm
              obtain ⟨q38, hq38, hm⟩ := bd_some hm
              have Tq38 : P q38 := hA.clo hc Ta0 hq38
              obtain ⟨hi39, hm⟩ := ck_some hm
              exact fb_X2_value_151 P S0 hc n r S1 _ ih a0 x7 a0 (pA S q38 (Int32.toNatClampNeg ((pA S q21 (Int32.toNatClampNeg x7)) - (1000 : Int32)))) S hA (Ta0) (Ta0) hm
        · rw [if_neg h23] at hm
          obtain ⟨S_40, hq41, hm⟩ := bd_some hm
          have hA : Ag P S0 S_40 := hA.tr (fr_X2_push P n S (hA.cl hc) a0 (pA S q21 (Int32.toNatClampNeg x7)) (Ta0)  S_40 hq41)
          exact fb_X2_value_178 P S0 hc n r S1 _ ih a0 x7 S_40 hA (Ta0) hm
set_option maxHeartbeats 1000000 in
set_option maxRecDepth 100000 in
theorem fr_X2_value (P : Nat → Prop) (n : Nat) (S0 : pq_S) (hc : Clo P S0) (a0 : Nat) (x1 : Int32) (x2 : Int32) (x3 : Int32) (x4 : Int32) (x5 : Int32) (x6 : Int32) (Ta0 : P a0) (r : Int32) (S1 : pq_S) (hm : m_X2_value n a0 x1 x2 x3 x4 x5 x6 S0 = some (r, S1)) : Ag P S0 S1 := by
  have hA : Ag P S0 S0 := Ag.rf _ _
  rw [m_X2_value] at hm
  obtain ⟨q1, hq1, hm⟩ := bd_some hm
  have Tq1 : P q1 := hA.clo hc Ta0 hq1
  obtain ⟨hi2, hm⟩ := ck_some hm
  have hA : Ag P S0 (sA S0 q1 (Int32.toNatClampNeg 0) x1) := hA.sA Tq1
  obtain ⟨q3, hq3, hm⟩ := bd_some hm
  have Tq3 : P q3 := hA.clo hc Ta0 hq3
  obtain ⟨hi4, hm⟩ := ck_some hm
  have hA : Ag P S0 (sA (sA S0 q1 (Int32.toNatClampNeg 0) x1) q3 (Int32.toNatClampNeg 1) x2) := hA.sA Tq3
  obtain ⟨S_5, eS_5, hm⟩ := lt_some hm
  have hA : Ag P S0 S_5 := by rw [eS_5]; exact hA
  obtain ⟨q6, hq6, hm⟩ := bd_some hm
  have Tq6 : P q6 := hA.clo hc Ta0 hq6
  obtain ⟨hi7, hm⟩ := ck_some hm
  have hA : Ag P S0 (sA S_5 q6 (Int32.toNatClampNeg 2) x3) := hA.sA Tq6
  obtain ⟨q8, hq8, hm⟩ := bd_some hm
  have Tq8 : P q8 := hA.clo hc Ta0 hq8
  obtain ⟨hi9, hm⟩ := ck_some hm
  have hA : Ag P S0 (sA (sA S_5 q6 (Int32.toNatClampNeg 2) x3) q8 (Int32.toNatClampNeg 3) x4) := hA.sA Tq8
  obtain ⟨S_10, eS_10, hm⟩ := lt_some hm
  have hA : Ag P S0 S_10 := by rw [eS_10]; exact hA
  obtain ⟨q11, hq11, hm⟩ := bd_some hm
  have Tq11 : P q11 := hA.clo hc Ta0 hq11
  obtain ⟨hi12, hm⟩ := ck_some hm
  have hA : Ag P S0 (sA S_10 q11 (Int32.toNatClampNeg 4) x5) := hA.sA Tq11
  obtain ⟨q13, hq13, hm⟩ := bd_some hm
  have Tq13 : P q13 := hA.clo hc Ta0 hq13
  obtain ⟨hi14, hm⟩ := ck_some hm
  have hA : Ag P S0 (sA (sA S_10 q11 (Int32.toNatClampNeg 4) x5) q13 (Int32.toNatClampNeg 5) (x6 - x6 / 12 * 12)) := hA.sA Tq13
  obtain ⟨S_15, eS_15, hm⟩ := lt_some hm
  have hA : Ag P S0 S_15 := by rw [eS_15]; exact hA
  obtain ⟨q16, hq16, hm⟩ := bd_some hm
  have Tq16 : P q16 := hA.clo hc Ta0 hq16
  obtain ⟨hi17, hm⟩ := ck_some hm
  have hA : Ag P S0 (sA S_15 q16 (Int32.toNatClampNeg 6) (x6 / 12)) := hA.sA Tq16
  have hA : Ag P S0 (sI (sA S_15 q16 (Int32.toNatClampNeg 6) (x6 / 12)) 204 a0 0) := hA.sI Ta0
  exact fb_X2_value_68 P S0 hc n r S1 n a0 0 (sI (sA S_15 q16 (Int32.toNatClampNeg 6) (x6 / 12)) 204 a0 0) hA (Ta0) hm
set_option maxHeartbeats 1000000 in
set_option maxRecDepth 100000 in
theorem fb_X4_gather_75 (P : Nat → Prop) (S0 : pq_S) (hc : Clo P S0) (n : Nat) (S1 : pq_S) (k5 : Nat → Int32 → Int32 → pq_S → Option pq_S) (hk5 : ∀ (a0 : Nat) (x1 : Int32) (x2 : Int32) (S : pq_S), Ag P S0 S → P a0 → k5 a0 x1 x2 S = some S1 → Ag P S0 S1) : ∀ (a0 : Nat) (x1 : Int32) (x2 : Int32) (S : pq_S), Ag P S0 S → P a0 → b_X4_gather_75 n k5 a0 x1 x2 S = some S1 → Ag P S0 S1 := by
  intro a0 x1 x2 S hA Ta0 hm
  rw [b_X4_gather_75] at hm
  exact hk5 a0 x1 (x2 + 1) S hA (Ta0) hm
set_option maxHeartbeats 1000000 in
set_option maxRecDepth 100000 in
theorem fb_X4_gather_7 (P : Nat → Prop) (S0 : pq_S) (hc : Clo P S0) (n : Nat) (S1 : pq_S) : ∀ (f : Nat) (a0 : Nat) (x1 : Int32) (x2 : Int32) (S : pq_S), Ag P S0 S → P a0 → b_X4_gather_7 n f a0 x1 x2 S = some S1 → Ag P S0 S1 := by
  intro f
  induction f with
  | zero =>
    intro a0 x1 x2 S hA Ta0 hm
    cases hm
  | succ f ih =>
    intro a0 x1 x2 S hA Ta0 hm
    rw [b_X4_gather_7] at hm
    obtain ⟨q1, hq1, hm⟩ := bd_some hm
    have Tq1 : P q1 := hA.clo hc Ta0 hq1
    obtain ⟨q2, hq2, hm⟩ := bd_some hm
    have Tq2 : P q2 := hA.clo hc Tq1 hq2
    obtain ⟨q3, hq3, hm⟩ := bd_some hm
    have Tq3 : P q3 := hA.clo hc Tq2 hq3
    by_cases h4 : (pI S 902 q3) ≤ x2
    · rw [if_pos h4] at hm
      cases hm
      exact hA
    · rw [if_neg h4] at hm
      obtain ⟨q5, hq5, hm⟩ := bd_some hm
      have Tq5 : P q5 := hA.clo hc Ta0 hq5
      obtain ⟨q6, hq6, hm⟩ := bd_some hm
      have Tq6 : P q6 := hA.clo hc Tq5 hq6
      obtain ⟨q7, hq7, hm⟩ := bd_some hm
      have Tq7 : P q7 := hA.clo hc Tq6 hq7
      obtain ⟨r10, S_8, hq9, hm⟩ := cb_some hm
      have hA : Ag P S0 S_8 := hA.tr (fr_X9_at P n S (hA.cl hc) q7 x2 0 (Tq7) r10 S_8 hq9)
      by_cases h11 : r10 = x1
      · rw [if_pos h11] at hm
        obtain ⟨q12, hq12, hm⟩ := bd_some hm
        have Tq12 : P q12 := hA.clo hc Ta0 hq12
        by_cases h13 : (Int32.ofNat (pN S_8 q12)) ≤ (pI S_8 405 a0)
        · rw [if_pos h13] at hm
          exact fb_X4_gather_75 P S0 hc n S1 _ ih a0 x1 x2 S_8 hA (Ta0) hm
        · rw [if_neg h13] at hm
          obtain ⟨q14, hq14, hm⟩ := bd_some hm
          have Tq14 : P q14 := hA.clo hc Ta0 hq14
          obtain ⟨hi15, hm⟩ := ck_some hm
          have hA : Ag P S0 (sA S_8 q14 (Int32.toNatClampNeg (pI S_8 405 a0)) x2) := hA.sA Tq14
          have hA : Ag P S0 (sI (sA S_8 q14 (Int32.toNatClampNeg (pI S_8 405 a0)) x2) 405 a0 ((pI (sA S_8 q14 (Int32.toNatClampNeg (pI S_8 405 a0)) x2) 405 a0) + (1 : Int32))) := hA.sI Ta0
          obtain ⟨S_16, eS_16, hm⟩ := lt_some hm
          have hA : Ag P S0 S_16 := by rw [eS_16]; exact hA
          exact fb_X4_gather_75 P S0 hc n S1 _ ih a0 x1 x2 S_16 hA (Ta0) hm
      · rw [if_neg h11] at hm
        exact fb_X4_gather_75 P S0 hc n S1 _ ih a0 x1 x2 S_8 hA (Ta0) hm
set_option maxHeartbeats 1000000 in
set_option maxRecDepth 100000 in
theorem fr_X4_gather (P : Nat → Prop) (n : Nat) (S0 : pq_S) (hc : Clo P S0) (a0 : Nat) (x1 : Int32) (Ta0 : P a0) (S1 : pq_S) (hm : m_X4_gather n a0 x1 S0 = some S1) : Ag P S0 S1 := by
  have hA : Ag P S0 S0 := Ag.rf _ _
  rw [m_X4_gather] at hm
  have hA : Ag P S0 (sI S0 405 a0 0) := hA.sI Ta0
  exact fb_X4_gather_7 P S0 hc n S1 n a0 x1 0 (sI S0 405 a0 0) hA (Ta0) hm
set_option maxHeartbeats 1000000 in
set_option maxRecDepth 100000 in
theorem fr_X4_hoursOf (P : Nat → Prop) (n : Nat) (S0 : pq_S) (hc : Clo P S0) (a0 : Nat) (x1 : Int32) (Ta0 : P a0) (r : Int32) (S1 : pq_S) (hm : m_X4_hoursOf n a0 x1 S0 = some (r, S1)) : Ag P S0 S1 := by
  have hA : Ag P S0 S0 := Ag.rf _ _
  rw [m_X4_hoursOf] at hm
  by_cases h1 : x1 < 0
  · rw [if_pos h1] at hm
    cases hm
    exact hA
  · rw [if_neg h1] at hm
    obtain ⟨q2, hq2, hm⟩ := bd_some hm
    have Tq2 : P q2 := hA.clo hc Ta0 hq2
    by_cases h3 : (Int32.ofNat (pN S0 q2)) ≤ x1
    · rw [if_pos h3] at hm
      cases hm
      exact hA
    · rw [if_neg h3] at hm
      obtain ⟨q4, hq4, hm⟩ := bd_some hm
      have Tq4 : P q4 := hA.clo hc Ta0 hq4
      obtain ⟨q5, hq5, hm⟩ := bd_some hm
      have Tq5 : P q5 := hA.clo hc Tq4 hq5
      obtain ⟨q6, hq6, hm⟩ := bd_some hm
      have Tq6 : P q6 := hA.clo hc Tq5 hq6
      obtain ⟨q7, hq7, hm⟩ := bd_some hm
      have Tq7 : P q7 := hA.clo hc Ta0 hq7
      obtain ⟨hi8, hm⟩ := ck_some hm
      obtain ⟨r11, S_9, hq10, hm⟩ := cb_some hm
      have hA : Ag P S0 S_9 := hA.tr (fr_X9_at P n S0 (hA.cl hc) q6 (pA S0 q7 (Int32.toNatClampNeg x1)) 1 (Tq6) r11 S_9 hq10)
      cases hm
      exact hA
set_option maxHeartbeats 1000000 in
set_option maxRecDepth 100000 in
theorem fb_X4_bestOfSet_82 (P : Nat → Prop) (S0 : pq_S) (hc : Clo P S0) (n : Nat) (r : Int32) (S1 : pq_S) (k4 : Nat → Int32 → Int32 → Int32 → Int32 → Int32 → Int32 → pq_S → Option (Int32 × pq_S)) (hk4 : ∀ (a0 : Nat) (x1 : Int32) (x2 : Int32) (x3 : Int32) (x4 : Int32) (x5 : Int32) (x6 : Int32) (S : pq_S), Ag P S0 S → P a0 → k4 a0 x1 x2 x3 x4 x5 x6 S = some (r, S1) → Ag P S0 S1) : ∀ (a0 : Nat) (x1 : Int32) (x2 : Int32) (x3 : Int32) (x4 : Int32) (x5 : Int32) (x6 : Int32) (S : pq_S), Ag P S0 S → P a0 → b_X4_bestOfSet_82 n k4 a0 x1 x2 x3 x4 x5 x6 S = some (r, S1) → Ag P S0 S1 := by
  intro a0 x1 x2 x3 x4 x5 x6 S hA Ta0 hm
  rw [b_X4_bestOfSet_82] at hm
  exact hk4 a0 x1 x2 x3 x4 x5 (x6 + 1) S hA (Ta0) hm
set_option maxHeartbeats 1000000 in
set_option maxRecDepth 100000 in
theorem fb_X4_bestOfSet_8 (P : Nat → Prop) (S0 : pq_S) (hc : Clo P S0) (n : Nat) (r : Int32) (S1 : pq_S) : ∀ (f : Nat) (a0 : Nat) (x1 : Int32) (x2 : Int32) (x3 : Int32) (x4 : Int32) (x5 : Int32) (x6 : Int32) (S : pq_S), Ag P S0 S → P a0 → b_X4_bestOfSet_8 n f a0 x1 x2 x3 x4 x5 x6 S = some (r, S1) → Ag P S0 S1 := by
  intro f
  induction f with
  | zero =>
    intro a0 x1 x2 x3 x4 x5 x6 S hA Ta0 hm
    cases hm
  | succ f ih =>
    intro a0 x1 x2 x3 x4 x5 x6 S hA Ta0 hm
    rw [b_X4_bestOfSet_8] at hm
    by_cases h1 : (x1 >>> (x6 &&& (31 : Int32))) = 0
    · rw [if_pos h1] at hm
      cases hm
      exact hA
    · rw [if_neg h1] at hm
      by_cases h2 : 12 ≤ x6
      · rw [if_pos h2] at hm
        cases hm
        exact hA
      · rw [if_neg h2] at hm
        obtain ⟨v3, ev3, hm⟩ := lt_some hm
        by_cases h4 : v3 = x1
        · rw [if_pos h4] at hm
          exact fb_X4_bestOfSet_82 P S0 hc n r S1 _ ih a0 x1 x2 x3 x4 x5 x6 S hA (Ta0) hm
        · rw [if_neg h4] at hm
          by_cases h5 : v3 < 0
          · rw [if_pos h5] at hm
            exact fb_X4_bestOfSet_82 P S0 hc n r S1 _ ih a0 x1 x2 x3 x4 x5 x6 S hA (Ta0) hm
          · rw [if_neg h5] at hm
            obtain ⟨q6, hq6, hm⟩ := bd_some hm
            have Tq6 : P q6 := hA.clo hc Ta0 hq6
            by_cases h7 : (Int32.ofNat (pN S q6)) ≤ v3
            · rw [if_pos h7] at hm
              exact fb_X4_bestOfSet_82 P S0 hc n r S1 _ ih a0 x1 x2 x3 x4 x5 x6 S hA (Ta0) hm
            · rw [if_neg h7] at hm
              obtain ⟨q8, hq8, hm⟩ := bd_some hm
              have Tq8 : P q8 := hA.clo hc Ta0 hq8
              obtain ⟨hi9, hm⟩ := ck_some hm
              obtain ⟨r12, S_10, hq11, hm⟩ := cb_some hm
              have hA : Ag P S0 S_10 := hA.tr (fr_X4_hoursOf P n S (hA.cl hc) a0 (x2 + x6) (Ta0) r12 S_10 hq11)
              obtain ⟨r15, S_13, hq14, hm⟩ := cb_some hm
              have hA : Ag P S0 S_13 := hA.tr (fr_X4_putIn P n S_10 (hA.cl hc) a0 (pA S q8 (Int32.toNatClampNeg v3)) r12 x3 x4 (Ta0) r15 S_13 hq14)
              exact fb_X4_bestOfSet_82 P S0 hc n r S1 _ ih a0 x1 x2 x3 x4 (if r15 < x5 then r15 else x5) x6 S_13 hA (Ta0) hm
set_option maxHeartbeats 1000000 in
set_option maxRecDepth 100000 in
theorem fr_X4_bestOfSet (P : Nat → Prop) (n : Nat) (S0 : pq_S) (hc : Clo P S0) (a0 : Nat) (x1 : Int32) (x2 : Int32) (x3 : Int32) (x4 : Int32) (Ta0 : P a0) (r : Int32) (S1 : pq_S) (hm : m_X4_bestOfSet n a0 x1 x2 x3 x4 S0 = some (r, S1)) : Ag P S0 S1 := by
  have hA : Ag P S0 S0 := Ag.rf _ _
  rw [m_X4_bestOfSet] at hm
  exact fb_X4_bestOfSet_8 P S0 hc n r S1 n a0 x1 x2 x3 x4 1024 0 S0 hA (Ta0) hm
set_option maxHeartbeats 1000000 in
set_option maxRecDepth 100000 in
theorem fb_X6_readCarry_133 (P : Nat → Prop) (S0 : pq_S) (hc : Clo P S0) (n : Nat) (S1 : pq_S) : ∀ (b0 : Nat) (z1 : Int32) (z2 : Int32) (z3 : Int32) (S : pq_S), Ag P S0 S → P b0 → b_X6_readCarry_133 n b0 z1 z2 z3 S = some S1 → Ag P S0 S1 := by
  intro b0 z1 z2 z3 S hA Tb0 hm
  rw [b_X6_readCarry_133] at hm
  obtain ⟨S_39, hq40, hm⟩ := bd_some hm
  have hA : Ag P S0 S_39 := hA.tr (fr_X9_put P n S (hA.cl hc) b0 z1 z2 z3 (Tb0)  S_39 hq40)
  cases hm
  exact hA
set_option maxHeartbeats 1000000 in
set_option maxRecDepth 100000 in
theorem fb_X6_readCarry_64 (P : Nat → Prop) (S0 : pq_S) (hc : Clo P S0) (n : Nat) (S1 : pq_S) : ∀ (a0 : Nat) (a1 : Nat) (x3 : Int32) (x4 : Int32) (x6 : Int32) (S : pq_S), Ag P S0 S → P a0 → P a1 → b_X6_readCarry_64 n a0 a1 x3 x4 x6 S = some S1 → Ag P S0 S1 := by
  intro a0 a1 x3 x4 x6 S hA Ta0 Ta1 hm
  rw [b_X6_readCarry_64] at hm
  obtain ⟨q19, hq19, hm⟩ := bd_some hm
  have Tq19 : P q19 := hA.clo hc Ta0 hq19
  obtain ⟨S_20, hq21, hm⟩ := bd_some hm
  have hA : Ag P S0 S_20 := hA.tr (fr_X9_put P n S (hA.cl hc) q19 x3 0 0 (Tq19)  S_20 hq21)
  obtain ⟨q22, hq22, hm⟩ := bd_some hm
  have Tq22 : P q22 := hA.clo hc Ta0 hq22
  obtain ⟨S_23, hq24, hm⟩ := bd_some hm
  have hA : Ag P S0 S_23 := hA.tr (fr_X9_put P n S_20 (hA.cl hc) q22 x3 1 x4 (Tq22)  S_23 hq24)
  obtain ⟨q25, hq25, hm⟩ := bd_some hm
  have Tq25 : P q25 := hA.clo hc Ta0 hq25
  obtain ⟨S_26, hq27, hm⟩ := bd_some hm
  have hA : Ag P S0 S_26 := hA.tr (fr_X9_put P n S_23 (hA.cl hc) q25 x3 2 x6 (Tq25)  S_26 hq27)
  obtain ⟨q28, hq28, hm⟩ := bd_some hm
  have Tq28 : P q28 := hA.clo hc Ta0 hq28
  obtain ⟨r31, S_29, hq30, hm⟩ := cb_some hm
  have hA : Ag P S0 S_29 := hA.tr (fr_X10_takeNumber P n S_26 (hA.cl hc) a1 1 99 (Ta1) r31 S_29 hq30)
  obtain ⟨S_32, hq33, hm⟩ := bd_some hm
  have hA : Ag P S0 S_32 := hA.tr (fr_X9_put P n S_29 (hA.cl hc) q28 x3 3 r31 (Tq28)  S_32 hq33)
  obtain ⟨q34, hq34, hm⟩ := bd_some hm
  have Tq34 : P q34 := hA.clo hc Ta0 hq34
  obtain ⟨r37, S_35, hq36, hm⟩ := cb_some hm
  have hA : Ag P S0 S_35 := hA.tr (fr_X10_takeNumber P n S_32 (hA.cl hc) a1 0 1 (Ta1) r37 S_35 hq36)
  by_cases h38 : r37 = 1
  · rw [if_pos h38] at hm
    exact fb_X6_readCarry_133 P S0 hc n S1 q34 x3 4 0 S_35 hA (Tq34) hm
  · rw [if_neg h38] at hm
    exact fb_X6_readCarry_133 P S0 hc n S1 q34 x3 4 1 S_35 hA (Tq34) hm
set_option maxHeartbeats 1000000 in
set_option maxRecDepth 100000 in
theorem fr_X6_readCarry (P : Nat → Prop) (n : Nat) (S0 : pq_S) (hc : Clo P S0) (a0 : Nat) (a1 : Nat) (a2 : Nat) (x3 : Int32) (Ta0 : P a0) (Ta1 : P a1) (Ta2 : P a2) (S1 : pq_S) (hm : m_X6_readCarry n a0 a1 a2 x3 S0 = some S1) : Ag P S0 S1 := by
  have hA : Ag P S0 S0 := Ag.rf _ _
  rw [m_X6_readCarry] at hm
  obtain ⟨q1, hq1, hm⟩ := bd_some hm
  have Tq1 : P q1 := hA.clo hc Ta2 hq1
  obtain ⟨r4, S_2, hq3, hm⟩ := cb_some hm
  have hA : Ag P S0 S_2 := hA.tr (fr_X10_takeNumber P n S0 (hA.cl hc) a1 0 ((pI S0 902 q1) - (1 : Int32)) (Ta1) r4 S_2 hq3)
  obtain ⟨r7, S_5, hq6, hm⟩ := cb_some hm
  have hA : Ag P S0 S_5 := hA.tr (fr_X10_next P n S_2 (hA.cl hc) a1 (Ta1) r7 S_5 hq6)
  obtain ⟨q8, hq8, hm⟩ := bd_some hm
  have Tq8 : P q8 := hA.clo hc Ta2 hq8
  obtain ⟨r11, S_9, hq10, hm⟩ := cb_some hm
  have hA : Ag P S0 S_9 := hA.tr (fr_X10_takeNumber P n S_5 (hA.cl hc) a1 0 ((pI S_5 902 q8) - (1 : Int32)) (Ta1) r11 S_9 hq10)
  obtain ⟨r14, S_12, hq13, hm⟩ := cb_some hm
  have hA : Ag P S0 S_12 := hA.tr (fr_X10_isWell P n S_9 (hA.cl hc) a1 (Ta1) r14 S_12 hq13)
  by_cases h15 : r14 = 0
  · rw [if_pos h15] at hm
    exact fb_X6_readCarry_64 P S0 hc n S1 a0 a1 x3 r4 r11 S_12 hA (Ta0) (Ta1) hm
  · rw [if_neg h15] at hm
    by_cases h16 : r11 = r4
    · rw [if_pos h16] at hm
      obtain ⟨S_17, hq18, hm⟩ := bd_some hm
      have hA : Ag P S0 S_17 := hA.tr (fr_X10_refuse P n S_12 (hA.cl hc) a1 2 (pI S_5 1003 a1) (Ta1)  S_17 hq18)
      exact fb_X6_readCarry_64 P S0 hc n S1 a0 a1 x3 r4 r11 S_17 hA (Ta0) (Ta1) hm
    · rw [if_neg h16] at hm
      exact fb_X6_readCarry_64 P S0 hc n S1 a0 a1 x3 r4 r11 S_12 hA (Ta0) (Ta1) hm
set_option maxHeartbeats 1000000 in
set_option maxRecDepth 100000 in
theorem fb_X7_arriving_54 (P : Nat → Prop) (S0 : pq_S) (hc : Clo P S0) (n : Nat) (r : Int32) (S1 : pq_S) : ∀ (x3 : Int32) (z0 : Int32) (S : pq_S), Ag P S0 S → b_X7_arriving_54 n x3 z0 S = some (r, S1) → Ag P S0 S1 := by
  intro x3 z0 S hA hm
  rw [b_X7_arriving_54] at hm
  cases hm
  exact hA
set_option maxHeartbeats 1000000 in
set_option maxRecDepth 100000 in
theorem fr_X7_arriving (P : Nat → Prop) (n : Nat) (S0 : pq_S) (hc : Clo P S0) (a0 : Nat) (x1 : Int32) (x2 : Int32) (x3 : Int32) (x4 : Int32) (Ta0 : P a0) (r : Int32) (S1 : pq_S) (hm : m_X7_arriving n a0 x1 x2 x3 x4 S0 = some (r, S1)) : Ag P S0 S1 := by
  have hA : Ag P S0 S0 := Ag.rf _ _
  rw [m_X7_arriving] at hm
  obtain ⟨q1, hq1, hm⟩ := bd_some hm
  have Tq1 : P q1 := hA.clo hc Ta0 hq1
  obtain ⟨r4, S_2, hq3, hm⟩ := cb_some hm
  have hA : Ag P S0 S_2 := hA.tr (fr_X1_milesBetween P n S0 (hA.cl hc) q1 x1 x2 (Tq1) r4 S_2 hq3)
  obtain ⟨q5, hq5, hm⟩ := bd_some hm
  have Tq5 : P q5 := hA.clo hc Ta0 hq5
  obtain ⟨r8, S_6, hq7, hm⟩ := cb_some hm
  have hA : Ag P S0 S_6 := hA.tr (fr_X2_isTold P n S_2 (hA.cl hc) q5 (Tq5) r8 S_6 hq7)
  by_cases h9 : r8 = 0
  · rw [if_pos h9] at hm
    exact fb_X7_arriving_54 P S0 hc n r S1 x3 (x3 - ((x3 * r4) / 40)) S_6 hA  hm
  · rw [if_neg h9] at hm
    obtain ⟨q10, hq10, hm⟩ := bd_some hm
    have Tq10 : P q10 := hA.clo hc Ta0 hq10
    obtain ⟨q11, hq11, hm⟩ := bd_some hm
    have Tq11 : P q11 := hA.clo hc Ta0 hq11
    obtain ⟨r14, S_12, hq13, hm⟩ := cb_some hm
    have hA : Ag P S0 S_12 := hA.tr (fr_X2_value P n S_6 (hA.cl hc) q10 x3 r4 x4 0 0 (pI S_6 803 q11) (Tq10) r14 S_12 hq13)
    exact fb_X7_arriving_54 P S0 hc n r S1 x3 r14 S_12 hA  hm
set_option maxHeartbeats 1000000 in
set_option maxRecDepth 100000 in
theorem fb_X7_comingOut_35 (P : Nat → Prop) (S0 : pq_S) (hc : Clo P S0) (n : Nat) (r : Int32) (S1 : pq_S) : ∀ (x2 : Int32) (z0 : Int32) (S : pq_S), Ag P S0 S → b_X7_comingOut_35 n x2 z0 S = some (r, S1) → Ag P S0 S1 := by
  intro x2 z0 S hA hm
  rw [b_X7_comingOut_35] at hm
  cases hm
  exact hA
set_option maxHeartbeats 1000000 in
set_option maxRecDepth 100000 in
theorem fr_X7_comingOut (P : Nat → Prop) (n : Nat) (S0 : pq_S) (hc : Clo P S0) (a0 : Nat) (x1 : Int32) (x2 : Int32) (x3 : Int32) (Ta0 : P a0) (r : Int32) (S1 : pq_S) (hm : m_X7_comingOut n a0 x1 x2 x3 S0 = some (r, S1)) : Ag P S0 S1 := by
  have hA : Ag P S0 S0 := Ag.rf _ _
  rw [m_X7_comingOut] at hm
  by_cases h1 : x1 = 0
  · rw [if_pos h1] at hm
    cases hm
    exact hA
  · rw [if_neg h1] at hm
    obtain ⟨q2, hq2, hm⟩ := bd_some hm
    have Tq2 : P q2 := hA.clo hc Ta0 hq2
    obtain ⟨r5, S_3, hq4, hm⟩ := cb_some hm
    have hA : Ag P S0 S_3 := hA.tr (fr_X2_isTold P n S0 (hA.cl hc) q2 (Tq2) r5 S_3 hq4)
    by_cases h6 : r5 = 0
    · rw [if_pos h6] at hm
      exact fb_X7_comingOut_35 P S0 hc n r S1 x2 (x1 * (3 : Int32)) S_3 hA  hm
    · rw [if_neg h6] at hm
      obtain ⟨q7, hq7, hm⟩ := bd_some hm
      have Tq7 : P q7 := hA.clo hc Ta0 hq7
      obtain ⟨r10, S_8, hq9, hm⟩ := cb_some hm
      have hA : Ag P S0 S_8 := hA.tr (fr_X2_value P n S_3 (hA.cl hc) q7 0 0 1 x1 x2 x3 (Tq7) r10 S_8 hq9)
      exact fb_X7_comingOut_35 P S0 hc n r S1 x2 r10 S_8 hA  hm
