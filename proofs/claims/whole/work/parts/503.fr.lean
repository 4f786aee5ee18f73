set_option maxHeartbeats 1000000 in
set_option maxRecDepth 100000 in
theorem fr_X7_isMineOpen (P : Nat → Prop) (n : Nat) (S0 : pq_S) (hc : Clo P S0) (a0 : Nat) (x1 : Int32) (x2 : Int32) (Ta0 : P a0) (r : Int32) (S1 : pq_S) (hm : m_X7_isMineOpen n a0 x1 x2 S0 = some (r, S1)) : Ag P S0 S1 := by
  have hA : Ag P S0 S0 := Ag.rf _ _
  rw [m_X7_isMineOpen] at hm
  obtain ⟨q1, hq1, hm⟩ := bd_some hm
  have Tq1 : P q1 := hA.clo hc Ta0 hq1
  obtain ⟨q2, hq2, hm⟩ := bd_some hm
  have Tq2 : P q2 := hA.clo hc Tq1 hq2
  obtain ⟨r5, S_3, hq4, hm⟩ := cb_some hm
  have hA : Ag P S0 S_3 := hA.tr (fr_X9_at P n S0 (hA.cl hc) q2 x1 2 (Tq2) r5 S_3 hq4)
  by_cases h6 : (x2 - x2 / 12 * 12) < r5
  · rw [if_pos h6] at hm
    cases hm
    exact hA
  · rw [if_neg h6] at hm
    cases hm
    exact hA
set_option maxHeartbeats 1000000 in
set_option maxRecDepth 100000 in
theorem fr_X7_isOpenAt (P : Nat → Prop) (n : Nat) (S0 : pq_S) (hc : Clo P S0) (a0 : Nat) (x1 : Int32) (x2 : Int32) (Ta0 : P a0) (r : Int32) (S1 : pq_S) (hm : m_X7_isOpenAt n a0 x1 x2 S0 = some (r, S1)) : Ag P S0 S1 := by
  have hA : Ag P S0 S0 := Ag.rf _ _
  rw [m_X7_isOpenAt] at hm
  obtain ⟨q1, hq1, hm⟩ := bd_some hm
  have Tq1 : P q1 := hA.clo hc Ta0 hq1
  obtain ⟨q2, hq2, hm⟩ := bd_some hm
  have Tq2 : P q2 := hA.clo hc Tq1 hq2
  obtain ⟨r5, S_3, hq4, hm⟩ := cb_some hm
  have hA : Ag P S0 S_3 := hA.tr (fr_X9_at P n S0 (hA.cl hc) q2 x1 0 (Tq2) r5 S_3 hq4)
  by_cases h6 : r5 = 1
  · rw [if_pos h6] at hm
    obtain ⟨q7, hq7, hm⟩ := bd_some hm
    have Tq7 : P q7 := hA.clo hc Ta0 hq7
    obtain ⟨q8, hq8, hm⟩ := bd_some hm
    have Tq8 : P q8 := hA.clo hc Tq7 hq8
    obtain ⟨r11, S_9, hq10, hm⟩ := cb_some hm
    have hA : Ag P S0 S_9 := hA.tr (fr_X9_at P n S_3 (hA.cl hc) q8 x1 0 (Tq8) r11 S_9 hq10)
    by_cases h12 : r11 = x2
    · rw [if_pos h12] at hm
      cases hm
      exact hA
    · rw [if_neg h12] at hm
      cases hm
      exact hA
  · rw [if_neg h6] at hm
    cases hm
    exact hA
set_option maxHeartbeats 1000000 in
set_option maxRecDepth 100000 in
theorem fr_X7_hoursAt (P : Nat → Prop) (n : Nat) (S0 : pq_S) (hc : Clo P S0) (a0 : Nat) (x1 : Int32) (Ta0 : P a0) (r : Int32) (S1 : pq_S) (hm : m_X7_hoursAt n a0 x1 S0 = some (r, S1)) : Ag P S0 S1 := by
  have hA : Ag P S0 S0 := Ag.rf _ _
  rw [m_X7_hoursAt] at hm
  obtain ⟨q1, hq1, hm⟩ := bd_some hm
  have Tq1 : P q1 := hA.clo hc Ta0 hq1
  obtain ⟨q2, hq2, hm⟩ := bd_some hm
  have Tq2 : P q2 := hA.clo hc Tq1 hq2
  obtain ⟨r5, S_3, hq4, hm⟩ := cb_some hm
  have hA : Ag P S0 S_3 := hA.tr (fr_X9_at P n S0 (hA.cl hc) q2 x1 0 (Tq2) r5 S_3 hq4)
  obtain ⟨q6, hq6, hm⟩ := bd_some hm
  have Tq6 : P q6 := hA.clo hc Ta0 hq6
  obtain ⟨q7, hq7, hm⟩ := bd_some hm
  have Tq7 : P q7 := hA.clo hc Tq6 hq7
  obtain ⟨r10, S_8, hq9, hm⟩ := cb_some hm
  have hA : Ag P S0 S_8 := hA.tr (fr_X9_at P n S_3 (hA.cl hc) q7 x1 1 (Tq7) r10 S_8 hq9)
  cases hm
  exact hA
set_option maxHeartbeats 1000000 in
set_option maxRecDepth 100000 in
theorem fb_X7_hoursWanted_63 (P : Nat → Prop) (S0 : pq_S) (hc : Clo P S0) (n : Nat) (r : Int32) (S1 : pq_S) (k4 : Nat → Int32 → Int32 → Int32 → Int32 → pq_S → Option (Int32 × pq_S)) (hk4 : ∀ (a0 : Nat) (x1 : Int32) (x2 : Int32) (x3 : Int32) (x4 : Int32) (S : pq_S), Ag P S0 S → P a0 → k4 a0 x1 x2 x3 x4 S = some (r, S1) → Ag P S0 S1) : ∀ (a0 : Nat) (x1 : Int32) (x2 : Int32) (x3 : Int32) (x4 : Int32) (S : pq_S), Ag P S0 S → P a0 → b_X7_hoursWanted_63 n k4 a0 x1 x2 x3 x4 S = some (r, S1) → Ag P S0 S1 := by
  intro a0 x1 x2 x3 x4 S hA Ta0 hm
  rw [b_X7_hoursWanted_63] at hm
  exact hk4 a0 x1 x2 x3 (x4 + 1) S hA (Ta0) hm
set_option maxHeartbeats 1000000 in
set_option maxRecDepth 100000 in
theorem fb_X7_hoursWanted_5 (P : Nat → Prop) (S0 : pq_S) (hc : Clo P S0) (n : Nat) (r : Int32) (S1 : pq_S) : ∀ (f : Nat) (a0 : Nat) (x1 : Int32) (x2 : Int32) (x3 : Int32) (x4 : Int32) (S : pq_S), Ag P S0 S → P a0 → b_X7_hoursWanted_5 n f a0 x1 x2 x3 x4 S = some (r, S1) → Ag P S0 S1 := by
  intro f
  induction f with
  | zero =>
    intro a0 x1 x2 x3 x4 S hA Ta0 hm
    cases hm
  | succ f ih =>
    intro a0 x1 x2 x3 x4 S hA Ta0 hm
    rw [b_X7_hoursWanted_5] at hm
    obtain ⟨q1, hq1, hm⟩ := bd_some hm
    have Tq1 : P q1 := hA.clo hc Ta0 hq1
    obtain ⟨q2, hq2, hm⟩ := bd_some hm
    have Tq2 : P q2 := hA.clo hc Tq1 hq2
    by_cases h3 : (pI S 902 q2) ≤ x4
    · rw [if_pos h3] at hm
      cases hm
      exact hA
    · rw [if_neg h3] at hm
      obtain ⟨r6, S_4, hq5, hm⟩ := cb_some hm
      have hA : Ag P S0 S_4 := hA.tr (fr_X7_isOpenAt P n S (hA.cl hc) a0 x4 x1 (Ta0) r6 S_4 hq5)
      by_cases h7 : r6 = 0
      · rw [if_pos h7] at hm
        exact fb_X7_hoursWanted_63 P S0 hc n r S1 _ ih a0 x1 x2 x3 x4 S_4 hA (Ta0) hm
      · rw [if_neg h7] at hm
        obtain ⟨q8, hq8, hm⟩ := bd_some hm
        have Tq8 : P q8 := hA.clo hc Ta0 hq8
        obtain ⟨q9, hq9, hm⟩ := bd_some hm
        have Tq9 : P q9 := hA.clo hc Tq8 hq9
        obtain ⟨r12, S_10, hq11, hm⟩ := cb_some hm
        have hA : Ag P S0 S_10 := hA.tr (fr_X9_at P n S_4 (hA.cl hc) q9 x4 3 (Tq9) r12 S_10 hq11)
        by_cases h13 : r12 < x2
        · rw [if_pos h13] at hm
          exact fb_X7_hoursWanted_63 P S0 hc n r S1 _ ih a0 x1 x2 x3 x4 S_10 hA (Ta0) hm
        · rw [if_neg h13] at hm
          obtain ⟨q14, hq14, hm⟩ := bd_some hm
          have Tq14 : P q14 := hA.clo hc Ta0 hq14
          obtain ⟨q15, hq15, hm⟩ := bd_some hm
          have Tq15 : P q15 := hA.clo hc Tq14 hq15
          obtain ⟨r18, S_16, hq17, hm⟩ := cb_some hm
          have hA : Ag P S0 S_16 := hA.tr (fr_X9_at P n S_10 (hA.cl hc) q15 x4 1 (Tq15) r18 S_16 hq17)
          exact fb_X7_hoursWanted_63 P S0 hc n r S1 _ ih a0 x1 x2 (x3 + r18) x4 S_16 hA (Ta0) hm
set_option maxHeartbeats 1000000 in
set_option maxRecDepth 100000 in
theorem fr_X7_hoursWanted (P : Nat → Prop) (n : Nat) (S0 : pq_S) (hc : Clo P S0) (a0 : Nat) (x1 : Int32) (x2 : Int32) (Ta0 : P a0) (r : Int32) (S1 : pq_S) (hm : m_X7_hoursWanted n a0 x1 x2 S0 = some (r, S1)) : Ag P S0 S1 := by
  have hA : Ag P S0 S0 := Ag.rf _ _
  rw [m_X7_hoursWanted] at hm
  exact fb_X7_hoursWanted_5 P S0 hc n r S1 n a0 x1 x2 0 0 S0 hA (Ta0) hm
set_option maxHeartbeats 1000000 in
set_option maxRecDepth 100000 in
theorem fb_X7_isSaleable_49 (P : Nat → Prop) (S0 : pq_S) (hc : Clo P S0) (n : Nat) (r : Int32) (S1 : pq_S) : ∀ (a0 : Nat) (x1 : Int32) (z0 : Int32) (S : pq_S), Ag P S0 S → P a0 → b_X7_isSaleable_49 n a0 x1 z0 S = some (r, S1) → Ag P S0 S1 := by
  intro a0 x1 z0 S hA Ta0 hm
  rw [b_X7_isSaleable_49] at hm
  obtain ⟨q20, hq20, hm⟩ := bd_some hm
  have Tq20 : P q20 := hA.clo hc Ta0 hq20
  obtain ⟨q21, hq21, hm⟩ := bd_some hm
  have Tq21 : P q21 := hA.clo hc Tq20 hq21
  obtain ⟨r24, S_22, hq23, hm⟩ := cb_some hm
  have hA : Ag P S0 S_22 := hA.tr (fr_X9_at P n S (hA.cl hc) q21 x1 0 (Tq21) r24 S_22 hq23)
  by_cases h25 : r24 = 1
  · rw [if_pos h25] at hm
    obtain ⟨q26, hq26, hm⟩ := bd_some hm
    have Tq26 : P q26 := hA.clo hc Ta0 hq26
    obtain ⟨q27, hq27, hm⟩ := bd_some hm
    have Tq27 : P q27 := hA.clo hc Tq26 hq27
    obtain ⟨r30, S_28, hq29, hm⟩ := cb_some hm
    have hA : Ag P S0 S_28 := hA.tr (fr_X9_at P n S_22 (hA.cl hc) q27 x1 1 (Tq27) r30 S_28 hq29)
    by_cases h31 : z0 < r30
    · rw [if_pos h31] at hm
      cases hm
      exact hA
    · rw [if_neg h31] at hm
      cases hm
      exact hA
  · rw [if_neg h25] at hm
    cases hm
    exact hA
set_option maxHeartbeats 1000000 in
set_option maxRecDepth 100000 in
theorem fr_X7_isSaleable (P : Nat → Prop) (n : Nat) (S0 : pq_S) (hc : Clo P S0) (a0 : Nat) (x1 : Int32) (Ta0 : P a0) (r : Int32) (S1 : pq_S) (hm : m_X7_isSaleable n a0 x1 S0 = some (r, S1)) : Ag P S0 S1 := by
  have hA : Ag P S0 S0 := Ag.rf _ _
  rw [m_X7_isSaleable] at hm
  obtain ⟨q1, hq1, hm⟩ := bd_some hm
  have Tq1 : P q1 := hA.clo hc Ta0 hq1
  obtain ⟨q2, hq2, hm⟩ := bd_some hm
  have Tq2 : P q2 := hA.clo hc Tq1 hq2
  obtain ⟨r5, S_3, hq4, hm⟩ := cb_some hm
  have hA : Ag P S0 S_3 := hA.tr (fr_X9_at P n S0 (hA.cl hc) q2 x1 0 (Tq2) r5 S_3 hq4)
  obtain ⟨q6, hq6, hm⟩ := bd_some hm
  have Tq6 : P q6 := hA.clo hc Ta0 hq6
  obtain ⟨q7, hq7, hm⟩ := bd_some hm
  have Tq7 : P q7 := hA.clo hc Tq6 hq7
  obtain ⟨r10, S_8, hq9, hm⟩ := cb_some hm
  have hA : Ag P S0 S_8 := hA.tr (fr_X9_at P n S_3 (hA.cl hc) q7 x1 2 (Tq7) r10 S_8 hq9)
  by_cases h11 : r10 = 1
  · rw [if_pos h11] at hm
    obtain ⟨q15, hq15, hm⟩ := bd_some hm
    have Tq15 : P q15 := hA.clo hc Ta0 hq15
    obtain ⟨q16, hq16, hm⟩ := bd_some hm
    have Tq16 : P q16 := hA.clo hc Tq15 hq16
    obtain ⟨r19, S_17, hq18, hm⟩ := cb_some hm
    have hA : Ag P S0 S_17 := hA.tr (fr_X9_at P n S_8 (hA.cl hc) q16 r5 0 (Tq16) r19 S_17 hq18)
    exact fb_X7_isSaleable_49 P S0 hc n r S1 a0 x1 r19 S_17 hA (Ta0) hm
  · rw [if_neg h11] at hm
    obtain ⟨r14, S_12, hq13, hm⟩ := cb_some hm
    have hA : Ag P S0 S_12 := hA.tr (fr_X7_hoursAt P n S_8 (hA.cl hc) a0 r5 (Ta0) r14 S_12 hq13)
    exact fb_X7_isSaleable_49 P S0 hc n r S1 a0 x1 r14 S_12 hA (Ta0) hm
set_option maxHeartbeats 1000000 in
set_option maxRecDepth 100000 in
theorem fb_X7_sellWant_72 (P : Nat → Prop) (S0 : pq_S) (hc : Clo P S0) (n : Nat) (r : Int32) (S1 : pq_S) : ∀ (a0 : Nat) (x1 : Int32) (x2 : Int32) (x3 : Int32) (z0 : Int32) (S : pq_S), Ag P S0 S → P a0 → b_X7_sellWant_72 n a0 x1 x2 x3 z0 S = some (r, S1) → Ag P S0 S1 := by
  intro a0 x1 x2 x3 z0 S hA Ta0 hm
  rw [b_X7_sellWant_72] at hm
  obtain ⟨q26, hq26, hm⟩ := bd_some hm
  have Tq26 : P q26 := hA.clo hc Ta0 hq26
  obtain ⟨q27, hq27, hm⟩ := bd_some hm
  have Tq27 : P q27 := hA.clo hc Tq26 hq27
  obtain ⟨S_28, hq29, hm⟩ := bd_some hm
  have hA : Ag P S0 S_28 := hA.tr (fr_X9_add P n S (hA.cl hc) q27 x2 1 (-z0) (Tq27)  S_28 hq29)
  obtain ⟨q30, hq30, hm⟩ := bd_some hm
  have Tq30 : P q30 := hA.clo hc Ta0 hq30
  obtain ⟨q31, hq31, hm⟩ := bd_some hm
  have Tq31 : P q31 := hA.clo hc Tq30 hq31
  obtain ⟨S_32, hq33, hm⟩ := bd_some hm
  have hA : Ag P S0 S_32 := hA.tr (fr_X9_add P n S_28 (hA.cl hc) q31 x2 0 (z0 - x3) (Tq31)  S_32 hq33)
  obtain ⟨q34, hq34, hm⟩ := bd_some hm
  have Tq34 : P q34 := hA.clo hc Ta0 hq34
  obtain ⟨q35, hq35, hm⟩ := bd_some hm
  have Tq35 : P q35 := hA.clo hc Ta0 hq35
  obtain ⟨q36, hq36, hm⟩ := bd_some hm
  have Tq36 : P q36 := hA.clo hc Tq35 hq36
  obtain ⟨r39, S_37, hq38, hm⟩ := cb_some hm
  have hA : Ag P S0 S_37 := hA.tr (fr_X9_at P n S_32 (hA.cl hc) q36 x1 3 (Tq36) r39 S_37 hq38)
  have hA : Ag P S0 (sI S_37 804 q34 ((pI S_32 804 q34) + r39)) := hA.sI Tq34
  obtain ⟨q40, hq40, hm⟩ := bd_some hm
  have Tq40 : P q40 := hA.clo hc Ta0 hq40
  obtain ⟨q41, hq41, hm⟩ := bd_some hm
  have Tq41 : P q41 := hA.clo hc Tq40 hq41
  obtain ⟨S_42, hq43, hm⟩ := bd_some hm
  have hA : Ag P S0 S_42 := hA.tr (fr_X9_put P n (sI S_37 804 q34 ((pI S_32 804 q34) + r39)) (hA.cl hc) q41 x1 0 0 (Tq41)  S_42 hq43)
  obtain ⟨q44, hq44, hm⟩ := bd_some hm
  have Tq44 : P q44 := hA.clo hc Ta0 hq44
  obtain ⟨q45, hq45, hm⟩ := bd_some hm
  have Tq45 : P q45 := hA.clo hc Tq44 hq45
  obtain ⟨S_46, hq47, hm⟩ := bd_some hm
  have hA : Ag P S0 S_46 := hA.tr (fr_X9_add P n S_42 (hA.cl hc) q45 x1 1 1 (Tq45)  S_46 hq47)
  cases hm
  exact hA
set_option maxHeartbeats 1000000 in
set_option maxRecDepth 100000 in
theorem fr_X7_sellWant (P : Nat → Prop) (n : Nat) (S0 : pq_S) (hc : Clo P S0) (a0 : Nat) (x1 : Int32) (Ta0 : P a0) (r : Int32) (S1 : pq_S) (hm : m_X7_sellWant n a0 x1 S0 = some (r, S1)) : Ag P S0 S1 := by
  have hA : Ag P S0 S0 := Ag.rf _ _
  rw [m_X7_sellWant] at hm
  obtain ⟨r3, S_1, hq2, hm⟩ := cb_some hm
  have hA : Ag P S0 S_1 := hA.tr (fr_X7_isSaleable P n S0 (hA.cl hc) a0 x1 (Ta0) r3 S_1 hq2)
  by_cases h4 : r3 = 0
  · rw [if_pos h4] at hm
    cases hm
    exact hA
  · rw [if_neg h4] at hm
    obtain ⟨q5, hq5, hm⟩ := bd_some hm
    have Tq5 : P q5 := hA.clo hc Ta0 hq5
    obtain ⟨q6, hq6, hm⟩ := bd_some hm
    have Tq6 : P q6 := hA.clo hc Tq5 hq6
    obtain ⟨r9, S_7, hq8, hm⟩ := cb_some hm
    have hA : Ag P S0 S_7 := hA.tr (fr_X9_at P n S_1 (hA.cl hc) q6 x1 0 (Tq6) r9 S_7 hq8)
    obtain ⟨q10, hq10, hm⟩ := bd_some hm
    have Tq10 : P q10 := hA.clo hc Ta0 hq10
    obtain ⟨q11, hq11, hm⟩ := bd_some hm
    have Tq11 : P q11 := hA.clo hc Tq10 hq11
    obtain ⟨r14, S_12, hq13, hm⟩ := cb_some hm
    have hA : Ag P S0 S_12 := hA.tr (fr_X9_at P n S_7 (hA.cl hc) q11 x1 1 (Tq11) r14 S_12 hq13)
    obtain ⟨q15, hq15, hm⟩ := bd_some hm
    have Tq15 : P q15 := hA.clo hc Ta0 hq15
    obtain ⟨q16, hq16, hm⟩ := bd_some hm
    have Tq16 : P q16 := hA.clo hc Tq15 hq16
    obtain ⟨r19, S_17, hq18, hm⟩ := cb_some hm
    have hA : Ag P S0 S_17 := hA.tr (fr_X9_at P n S_12 (hA.cl hc) q16 x1 2 (Tq16) r19 S_17 hq18)
    by_cases h20 : r19 = 1
    · rw [if_pos h20] at hm
      exact fb_X7_sellWant_72 P S0 hc n r S1 a0 x1 r9 r14 0 S_17 hA (Ta0) hm
    · rw [if_neg h20] at hm
      obtain ⟨q21, hq21, hm⟩ := bd_some hm
      have Tq21 : P q21 := hA.clo hc Ta0 hq21
      obtain ⟨q22, hq22, hm⟩ := bd_some hm
      have Tq22 : P q22 := hA.clo hc Tq21 hq22
      obtain ⟨r25, S_23, hq24, hm⟩ := cb_some hm
      have hA : Ag P S0 S_23 := hA.tr (fr_X9_at P n S_17 (hA.cl hc) q22 r9 1 (Tq22) r25 S_23 hq24)
      exact fb_X7_sellWant_72 P S0 hc n r S1 a0 x1 r9 r14 (if r25 < r14 then r25 else r14) S_23 hA (Ta0) hm
set_option maxHeartbeats 1000000 in
set_option maxRecDepth 100000 in
theorem fr_X7_behindMonth (P : Nat → Prop) (n : Nat) (S0 : pq_S) (hc : Clo P S0) (a0 : Nat) (x1 : Int32) (x2 : Int32) (x3 : Int32) (Ta0 : P a0) (r : Int32) (S1 : pq_S) (hm : m_X7_behindMonth n a0 x1 x2 x3 S0 = some (r, S1)) : Ag P S0 S1 := by
  have hA : Ag P S0 S0 := Ag.rf _ _
  rw [m_X7_behindMonth] at hm
  obtain ⟨r3, S_1, hq2, hm⟩ := cb_some hm
  have hA : Ag P S0 S_1 := hA.tr (fr_X7_leaking P n S0 (hA.cl hc) a0 x3 (Ta0) r3 S_1 hq2)
  by_cases h4 : x2 = 0
  · rw [if_pos h4] at hm
    obtain ⟨q5, hq5, hm⟩ := bd_some hm
    have Tq5 : P q5 := hA.clo hc Ta0 hq5
    obtain ⟨q6, hq6, hm⟩ := bd_some hm
    have Tq6 : P q6 := hA.clo hc Tq5 hq6
    obtain ⟨r9, S_7, hq8, hm⟩ := cb_some hm
    have hA : Ag P S0 S_7 := hA.tr (fr_X9_at P n S_1 (hA.cl hc) q6 x1 3 (Tq6) r9 S_7 hq8)
    cases hm
    exact hA
  · rw [if_neg h4] at hm
    cases hm
    exact hA
set_option maxHeartbeats 1000000 in
set_option maxRecDepth 100000 in
theorem fr_X7_passMonthFor (P : Nat → Prop) (n : Nat) (S0 : pq_S) (hc : Clo P S0) (a0 : Nat) (x1 : Int32) (x2 : Int32) (Ta0 : P a0) (S1 : pq_S) (hm : m_X7_passMonthFor n a0 x1 x2 S0 = some S1) : Ag P S0 S1 := by
  have hA : Ag P S0 S0 := Ag.rf _ _
  rw [m_X7_passMonthFor] at hm
  obtain ⟨q1, hq1, hm⟩ := bd_some hm
  have Tq1 : P q1 := hA.clo hc Ta0 hq1
  obtain ⟨q2, hq2, hm⟩ := bd_some hm
  have Tq2 : P q2 := hA.clo hc Tq1 hq2
  obtain ⟨r5, S_3, hq4, hm⟩ := cb_some hm
  have hA : Ag P S0 S_3 := hA.tr (fr_X9_at P n S0 (hA.cl hc) q2 x1 x2 (Tq2) r5 S_3 hq4)
  obtain ⟨q6, hq6, hm⟩ := bd_some hm
  have Tq6 : P q6 := hA.clo hc Ta0 hq6
  obtain ⟨q7, hq7, hm⟩ := bd_some hm
  have Tq7 : P q7 := hA.clo hc Tq6 hq7
  obtain ⟨r10, S_8, hq9, hm⟩ := cb_some hm
  have hA : Ag P S0 S_8 := hA.tr (fr_X7_leaking P n S_3 (hA.cl hc) a0 r5 (Ta0) r10 S_8 hq9)
  obtain ⟨S_11, hq12, hm⟩ := bd_some hm
  have hA : Ag P S0 S_11 := hA.tr (fr_X9_add P n S_8 (hA.cl hc) q7 x1 2 r10 (Tq7)  S_11 hq12)
  obtain ⟨q13, hq13, hm⟩ := bd_some hm
  have Tq13 : P q13 := hA.clo hc Ta0 hq13
  obtain ⟨q14, hq14, hm⟩ := bd_some hm
  have Tq14 : P q14 := hA.clo hc Tq13 hq14
  obtain ⟨r17, S_15, hq16, hm⟩ := cb_some hm
  have hA : Ag P S0 S_15 := hA.tr (fr_X7_behindMonth P n S_11 (hA.cl hc) a0 x1 x2 r5 (Ta0) r17 S_15 hq16)
  obtain ⟨S_18, hq19, hm⟩ := bd_some hm
  have hA : Ag P S0 S_18 := hA.tr (fr_X9_put P n S_15 (hA.cl hc) q14 x1 x2 r17 (Tq14)  S_18 hq19)
  cases hm
  exact hA
set_option maxHeartbeats 1000000 in
set_option maxRecDepth 100000 in
theorem fb_X7_fullestPlace_38 (P : Nat → Prop) (S0 : pq_S) (hc : Clo P S0) (n : Nat) (r : Int32) (S1 : pq_S) (k4 : Nat → Int32 → Int32 → pq_S → Option (Int32 × pq_S)) (hk4 : ∀ (a0 : Nat) (x1 : Int32) (x2 : Int32) (S : pq_S), Ag P S0 S → P a0 → k4 a0 x1 x2 S = some (r, S1) → Ag P S0 S1) : ∀ (a0 : Nat) (x1 : Int32) (x2 : Int32) (S : pq_S), Ag P S0 S → P a0 → b_X7_fullestPlace_38 n k4 a0 x1 x2 S = some (r, S1) → Ag P S0 S1 := by
  intro a0 x1 x2 S hA Ta0 hm
  rw [b_X7_fullestPlace_38] at hm
  exact hk4 a0 x1 (x2 + 1) S hA (Ta0) hm
set_option maxHeartbeats 1000000 in
set_option maxRecDepth 100000 in
theorem fb_X7_fullestPlace_36 (P : Nat → Prop) (S0 : pq_S) (hc : Clo P S0) (n : Nat) (r : Int32) (S1 : pq_S) (k4 : Nat → Int32 → Int32 → pq_S → Option (Int32 × pq_S)) (hk4 : ∀ (a0 : Nat) (x1 : Int32) (x2 : Int32) (S : pq_S), Ag P S0 S → P a0 → k4 a0 x1 x2 S = some (r, S1) → Ag P S0 S1) : ∀ (a0 : Nat) (x2 : Int32) (S : pq_S), Ag P S0 S → P a0 → b_X7_fullestPlace_36 n k4 a0 x2 S = some (r, S1) → Ag P S0 S1 := by
  intro a0 x2 S hA Ta0 hm
  rw [b_X7_fullestPlace_36] at hm
  exact fb_X7_fullestPlace_38 P S0 hc n r S1 _ hk4 a0 x2 x2 S hA (Ta0) hm
set_option maxHeartbeats 1000000 in
set_option maxRecDepth 100000 in
theorem fb_X7_fullestPlace_4 (P : Nat → Prop) (S0 : pq_S) (hc : Clo P S0) (n : Nat) (r : Int32) (S1 : pq_S) : ∀ (f : Nat) (a0 : Nat) (x1 : Int32) (x2 : Int32) (S : pq_S), Ag P S0 S → P a0 → b_X7_fullestPlace_4 n f a0 x1 x2 S = some (r, S1) → Ag P S0 S1 := by
  intro f
  induction f with
  | zero =>
    intro a0 x1 x2 S hA Ta0 hm
    cases hm
  | succ f ih =>
    intro a0 x1 x2 S hA Ta0 hm
    rw [b_X7_fullestPlace_4] at hm
    obtain ⟨q1, hq1, hm⟩ := bd_some hm
    have Tq1 : P q1 := hA.clo hc Ta0 hq1
    obtain ⟨q2, hq2, hm⟩ := bd_some hm
    have Tq2 : P q2 := hA.clo hc Tq1 hq2
    by_cases h3 : (pI S 902 q2) ≤ x2
    · rw [if_pos h3] at hm
      cases hm
      exact hA
    · rw [if_neg h3] at hm
      by_cases h4 : x1 = (-1)
      · rw [if_pos h4] at hm
        exact fb_X7_fullestPlace_36 P S0 hc n r S1 _ ih a0 x2 S hA (Ta0) hm
      · rw [if_neg h4] at hm
        obtain ⟨r7, S_5, hq6, hm⟩ := cb_some hm
        have hA : Ag P S0 S_5 := hA.tr (fr_X7_hoursAt P n S (hA.cl hc) a0 x2 (Ta0) r7 S_5 hq6)
        obtain ⟨r10, S_8, hq9, hm⟩ := cb_some hm
        have hA : Ag P S0 S_8 := hA.tr (fr_X7_hoursAt P n S_5 (hA.cl hc) a0 x1 (Ta0) r10 S_8 hq9)
        by_cases h11 : r7 ≤ r10
        · rw [if_pos h11] at hm
          exact fb_X7_fullestPlace_38 P S0 hc n r S1 _ ih a0 x1 x2 S_8 hA (Ta0) hm
        · rw [if_neg h11] at hm
          exact fb_X7_fullestPlace_36 P S0 hc n r S1 _ ih a0 x2 S_8 hA (Ta0) hm
set_option maxHeartbeats 1000000 in
set_option maxRecDepth 100000 in
theorem fr_X7_fullestPlace (P : Nat → Prop) (n : Nat) (S0 : pq_S) (hc : Clo P S0) (a0 : Nat) (Ta0 : P a0) (r : Int32) (S1 : pq_S) (hm : m_X7_fullestPlace n a0 S0 = some (r, S1)) : Ag P S0 S1 := by
  have hA : Ag P S0 S0 := Ag.rf _ _
  rw [m_X7_fullestPlace] at hm
  exact fb_X7_fullestPlace_4 P S0 hc n r S1 n a0 (-1) 0 S0 hA (Ta0) hm
set_option maxHeartbeats 1000000 in
set_option maxRecDepth 100000 in
theorem fr_X7_isDearer (P : Nat → Prop) (n : Nat) (S0 : pq_S) (hc : Clo P S0) (a0 : Nat) (x1 : Int32) (x2 : Int32) (Ta0 : P a0) (r : Int32) (S1 : pq_S) (hm : m_X7_isDearer n a0 x1 x2 S0 = some (r, S1)) : Ag P S0 S1 := by
  have hA : Ag P S0 S0 := Ag.rf _ _
  rw [m_X7_isDearer] at hm
  obtain ⟨q1, hq1, hm⟩ := bd_some hm
  have Tq1 : P q1 := hA.clo hc Ta0 hq1
  obtain ⟨q2, hq2, hm⟩ := bd_some hm
  have Tq2 : P q2 := hA.clo hc Tq1 hq2
  obtain ⟨r5, S_3, hq4, hm⟩ := cb_some hm
  have hA : Ag P S0 S_3 := hA.tr (fr_X9_at P n S0 (hA.cl hc) q2 x1 3 (Tq2) r5 S_3 hq4)
  obtain ⟨q6, hq6, hm⟩ := bd_some hm
  have Tq6 : P q6 := hA.clo hc Ta0 hq6
  obtain ⟨q7, hq7, hm⟩ := bd_some hm
  have Tq7 : P q7 := hA.clo hc Tq6 hq7
  obtain ⟨r10, S_8, hq9, hm⟩ := cb_some hm
  have hA : Ag P S0 S_8 := hA.tr (fr_X9_at P n S_3 (hA.cl hc) q7 x2 1 (Tq7) r10 S_8 hq9)
  obtain ⟨q11, hq11, hm⟩ := bd_some hm
  have Tq11 : P q11 := hA.clo hc Ta0 hq11
  obtain ⟨q12, hq12, hm⟩ := bd_some hm
  have Tq12 : P q12 := hA.clo hc Tq11 hq12
  obtain ⟨r15, S_13, hq14, hm⟩ := cb_some hm
  have hA : Ag P S0 S_13 := hA.tr (fr_X9_at P n S_8 (hA.cl hc) q12 x2 3 (Tq12) r15 S_13 hq14)
  obtain ⟨q16, hq16, hm⟩ := bd_some hm
  have Tq16 : P q16 := hA.clo hc Ta0 hq16
  obtain ⟨q17, hq17, hm⟩ := bd_some hm
  have Tq17 : P q17 := hA.clo hc Tq16 hq17
  obtain ⟨r20, S_18, hq19, hm⟩ := cb_some hm
  have hA : Ag P S0 S_18 := hA.tr (fr_X9_at P n S_13 (hA.cl hc) q17 x1 1 (Tq17) r20 S_18 hq19)
  by_cases h21 : (r5 * r10) ≤ (r15 * r20)
  · rw [if_pos h21] at hm
    cases hm
    exact hA
  · rw [if_neg h21] at hm
    cases hm
    exact hA
set_option maxHeartbeats 1000000 in
set_option maxRecDepth 100000 in
theorem fb_X8_openWants_2 (P : Nat → Prop) (S0 : pq_S) (hc : Clo P S0) (n : Nat) (S1 : pq_S) : ∀ (f : Nat) (a0 : Nat) (x1 : Int32) (S : pq_S), Ag P S0 S → P a0 → b_X8_openWants_2 n f a0 x1 S = some S1 → Ag P S0 S1 := by
  intro f
  induction f with
  | zero =>
    intro a0 x1 S hA Ta0 hm
    cases hm
  | succ f ih =>
    intro a0 x1 S hA Ta0 hm
    rw [b_X8_openWants_2] at hm
    obtain ⟨q1, hq1, hm⟩ := bd_some hm
    have Tq1 : P q1 := hA.clo hc Ta0 hq1
    by_cases h2 : (pI S 902 q1) ≤ x1
    · rw [if_pos h2] at hm
      cases hm
      exact hA
    · rw [if_neg h2] at hm
      obtain ⟨q3, hq3, hm⟩ := bd_some hm
      have Tq3 : P q3 := hA.clo hc Ta0 hq3
      obtain ⟨S_4, hq5, hm⟩ := bd_some hm
      have hA : Ag P S0 S_4 := hA.tr (fr_X9_put P n S (hA.cl hc) q3 x1 0 1 (Tq3)  S_4 hq5)
      exact ih a0 (x1 + 1) S_4 hA (Ta0) hm
set_option maxHeartbeats 1000000 in
set_option maxRecDepth 100000 in
theorem fr_X8_openWants (P : Nat → Prop) (n : Nat) (S0 : pq_S) (hc : Clo P S0) (a0 : Nat) (Ta0 : P a0) (S1 : pq_S) (hm : m_X8_openWants n a0 S0 = some S1) : Ag P S0 S1 := by
  have hA : Ag P S0 S0 := Ag.rf _ _
  rw [m_X8_openWants] at hm
  exact fb_X8_openWants_2 P S0 hc n S1 n a0 0 S0 hA (Ta0) hm
set_option maxHeartbeats 1000000 in
set_option maxRecDepth 100000 in
theorem fr_X8_bring (P : Nat → Prop) (n : Nat) (S0 : pq_S) (hc : Clo P S0) (a0 : Nat) (x1 : Int32) (x2 : Int32) (x3 : Int32) (Ta0 : P a0) (S1 : pq_S) (hm : m_X8_bring n a0 x1 x2 x3 S0 = some S1) : Ag P S0 S1 := by
  have hA : Ag P S0 S0 := Ag.rf _ _
  rw [m_X8_bring] at hm
  obtain ⟨q1, hq1, hm⟩ := bd_some hm
  have Tq1 : P q1 := hA.clo hc Ta0 hq1
  obtain ⟨q2, hq2, hm⟩ := bd_some hm
  have Tq2 : P q2 := hA.clo hc Ta0 hq2
  obtain ⟨r5, S_3, hq4, hm⟩ := cb_some hm
  have hA : Ag P S0 S_3 := hA.tr (fr_X9_at P n S0 (hA.cl hc) q2 x1 x2 (Tq2) r5 S_3 hq4)
  obtain ⟨S_6, hq7, hm⟩ := bd_some hm
  have hA : Ag P S0 S_6 := hA.tr (fr_X9_put P n S_3 (hA.cl hc) q1 x1 x2 (if 999 < (r5 + x3) then 999 else (r5 + x3)) (Tq1)  S_6 hq7)
  cases hm
  exact hA
set_option maxHeartbeats 1000000 in
set_option maxRecDepth 100000 in
theorem fr_X8_copyFrom (P : Nat → Prop) (n : Nat) (S0 : pq_S) (hc : Clo P S0) (a0 : Nat) (a1 : Nat) (Ta0 : P a0) (Ta1 : P a1) (S1 : pq_S) (hm : m_X8_copyFrom n a0 a1 S0 = some S1) : Ag P S0 S1 := by
  have hA : Ag P S0 S0 := Ag.rf _ _
  rw [m_X8_copyFrom] at hm
  obtain ⟨q1, hq1, hm⟩ := bd_some hm
  have Tq1 : P q1 := hA.clo hc Ta0 hq1
  obtain ⟨q2, hq2, hm⟩ := bd_some hm
  have Tq2 : P q2 := hA.clo hc Ta1 hq2
  obtain ⟨S_3, hq4, hm⟩ := bd_some hm
  have hA : Ag P S0 S_3 := hA.tr (fr_X9_copyFrom P n S0 (hA.cl hc) q1 q2 (Tq1) (Tq2)  S_3 hq4)
  obtain ⟨q5, hq5, hm⟩ := bd_some hm
  have Tq5 : P q5 := hA.clo hc Ta0 hq5
  obtain ⟨q6, hq6, hm⟩ := bd_some hm
  have Tq6 : P q6 := hA.clo hc Ta1 hq6
  obtain ⟨S_7, hq8, hm⟩ := bd_some hm
  have hA : Ag P S0 S_7 := hA.tr (fr_X9_copyFrom P n S_3 (hA.cl hc) q5 q6 (Tq5) (Tq6)  S_7 hq8)
  obtain ⟨q9, hq9, hm⟩ := bd_some hm
  have Tq9 : P q9 := hA.clo hc Ta0 hq9
  obtain ⟨q10, hq10, hm⟩ := bd_some hm
  have Tq10 : P q10 := hA.clo hc Ta1 hq10
  obtain ⟨S_11, hq12, hm⟩ := bd_some hm
  have hA : Ag P S0 S_11 := hA.tr (fr_X9_copyFrom P n S_7 (hA.cl hc) q9 q10 (Tq9) (Tq10)  S_11 hq12)
  have hA : Ag P S0 (sI S_11 803 a0 (pI S_11 803 a1)) := hA.sI Ta0
  have hA : Ag P S0 (sI (sI S_11 803 a0 (pI S_11 803 a1)) 804 a0 (pI (sI S_11 803 a0 (pI S_11 803 a1)) 804 a1)) := hA.sI Ta0
  obtain ⟨S_13, eS_13, hm⟩ := lt_some hm
  have hA : Ag P S0 S_13 := by rw [eS_13]; exact hA
  cases hm
  exact hA
def FG_tryW (n : Nat) (rec : (Nat → Int32 → Int32 → Nat → Int32 → Int32 → Int32 → pq_S → Option pq_S)) : Prop := (∀ (P : Nat → Prop) (S0 : pq_S) (_ : Clo P S0) (a0 : Nat) (x1 : Int32) (x2 : Int32) (a3 : Nat) (x4 : Int32) (x5 : Int32) (x6 : Int32) (_Ta0 : P a0) (_Ta3 : P a3) (S1 : pq_S), rec a0 x1 x2 a3 x4 x5 x6 S0 = some S1 → Ag P S0 S1)
set_option maxHeartbeats 1000000 in
set_option maxRecDepth 100000 in
theorem fg_X3_tryWants (n : Nat) (rec : (Nat → Int32 → Int32 → Nat → Int32 → Int32 → Int32 → pq_S → Option pq_S)) (hrec : FG_tryW n rec) (P : Nat → Prop) (S0 : pq_S) (hc : Clo P S0) (a0 : Nat) (x1 : Int32) (x2 : Int32) (a3 : Nat) (x4 : Int32) (x5 : Int32) (x6 : Int32) (Ta0 : P a0) (Ta3 : P a3) (S1 : pq_S) (hm : g_X3_tryWants n rec a0 x1 x2 a3 x4 x5 x6 S0 = some S1) : Ag P S0 S1 := by
  have hA : Ag P S0 S0 := Ag.rf _ _
  rw [g_X3_tryWants] at hm
  obtain ⟨q1, hq1, hm⟩ := bd_some hm
  have Tq1 : P q1 := hA.clo hc Ta0 hq1
  obtain ⟨q2, hq2, hm⟩ := bd_some hm
  have Tq2 : P q2 := hA.clo hc Tq1 hq2
  obtain ⟨q3, hq3, hm⟩ := bd_some hm
  have Tq3 : P q3 := hA.clo hc Tq2 hq3
  by_cases h4 : x2 < (pI S0 902 q3)
  · rw [if_pos h4] at hm
    obtain ⟨S_5, hq6, hm⟩ := bd_some hm
    have hA : Ag P S0 S_5 := hA.tr (hrec P S0 (hA.cl hc) a0 x1 (x2 + (1 : Int32)) a3 x4 x5 x6 (Ta0) (Ta3)  S_5 hq6)
    obtain ⟨q7, hq7, hm⟩ := bd_some hm
    have Tq7 : P q7 := hA.clo hc Ta0 hq7
    obtain ⟨r10, S_8, hq9, hm⟩ := cb_some hm
    have hA : Ag P S0 S_8 := hA.tr (fr_X7_isOpenAt P n S_5 (hA.cl hc) q7 x2 x1 (Tq7) r10 S_8 hq9)
    by_cases h11 : r10 = 0
    · rw [if_pos h11] at hm
      cases hm
      exact hA
    · rw [if_neg h11] at hm
      obtain ⟨q12, hq12, hm⟩ := bd_some hm
      have Tq12 : P q12 := hA.clo hc Ta0 hq12
      obtain ⟨q13, hq13, hm⟩ := bd_some hm
      have Tq13 : P q13 := hA.clo hc Tq12 hq13
      obtain ⟨q14, hq14, hm⟩ := bd_some hm
      have Tq14 : P q14 := hA.clo hc Tq13 hq14
      obtain ⟨r17, S_15, hq16, hm⟩ := cb_some hm
      have hA : Ag P S0 S_15 := hA.tr (fr_X9_at P n S_8 (hA.cl hc) q14 x2 1 (Tq14) r17 S_15 hq16)
      obtain ⟨q18, hq18, hm⟩ := bd_some hm
      have Tq18 : P q18 := hA.clo hc Ta0 hq18
      obtain ⟨q19, hq19, hm⟩ := bd_some hm
      have Tq19 : P q19 := hA.clo hc Tq18 hq19
      obtain ⟨q20, hq20, hm⟩ := bd_some hm
      have Tq20 : P q20 := hA.clo hc Tq19 hq20
      obtain ⟨r23, S_21, hq22, hm⟩ := cb_some hm
      have hA : Ag P S0 S_21 := hA.tr (fr_X9_at P n S_15 (hA.cl hc) q20 x2 3 (Tq20) r23 S_21 hq22)
      obtain ⟨q24, hq24, hm⟩ := bd_some hm
      have Tq24 : P q24 := hA.clo hc Ta0 hq24
      obtain ⟨q25, hq25, hm⟩ := bd_some hm
      have Tq25 : P q25 := hA.clo hc Tq24 hq25
      obtain ⟨q26, hq26, hm⟩ := bd_some hm
      have Tq26 : P q26 := hA.clo hc Tq25 hq26
      obtain ⟨r29, S_27, hq28, hm⟩ := cb_some hm
      have hA : Ag P S0 S_27 := hA.tr (fr_X9_at P n S_21 (hA.cl hc) q26 x2 2 (Tq26) r29 S_27 hq28)
      obtain ⟨S_30, hq31, hm⟩ := bd_some hm
      have hA : Ag P S0 S_30 := hA.tr (hrec P S_27 (hA.cl hc) a0 x1 (x2 + (1 : Int32)) a3 (x4 + (r17 * r29)) (x5 + r17) ((x6 + (r23 * (4096 : Int32))) - ((1 : Int32) <<< (x2 &&& (31 : Int32)))) (Ta0) (Ta3)  S_30 hq31)
      cases hm
      exact hA
  · rw [if_neg h4] at hm
    by_cases h32 : (if x4 < x5 then x5 else x4) < 0
    · rw [if_pos h32] at hm
      cases hm
      exact hA
    · rw [if_neg h32] at hm
      by_cases h33 : (Int32.ofNat (pN S0 a3)) ≤ (if x4 < x5 then x5 else x4)
      · rw [if_pos h33] at hm
        cases hm
        exact hA
      · rw [if_neg h33] at hm
        obtain ⟨hi34, hm⟩ := ck_some hm
        obtain ⟨hi35, hm⟩ := ck_some hm
        have hA : Ag P S0 (sA S0 a3 (Int32.toNatClampNeg (if x4 < x5 then x5 else x4)) (if (pA S0 a3 (Int32.toNatClampNeg (if x4 < x5 then x5 else x4))) < x6 then x6 else (pA S0 a3 (Int32.toNatClampNeg (if x4 < x5 then x5 else x4))))) := hA.sA Ta3
        obtain ⟨S_36, eS_36, hm⟩ := lt_some hm
        have hA : Ag P S0 S_36 := by rw [eS_36]; exact hA
        cases hm
        exact hA
theorem fh_tryW (n : Nat) : ∀ d : Nat, FG_tryW n (m_tryW_d n d) := by
  intro d
  induction d with
  | zero =>
    exact (fun _ _ _ _ _ _ _ _ _ _ _ _ _ hm => by cases hm)
  | succ d ih =>
    exact (fun q0 q1 q2 q3 q4 q5 q6 q7 q8 q9 q10 q11 q12 hm => fg_X3_tryWants n _ ih q0 q1 q2 q3 q4 q5 q6 q7 q8 q9 q10 q11 q12 hm)
theorem fr_X3_tryWants (P : Nat → Prop) (n : Nat) (S0 : pq_S) (hc : Clo P S0) (a0 : Nat) (x1 : Int32) (x2 : Int32) (a3 : Nat) (x4 : Int32) (x5 : Int32) (x6 : Int32) (Ta0 : P a0) (Ta3 : P a3) (S1 : pq_S) (hm : m_X3_tryWants n a0 x1 x2 a3 x4 x5 x6 S0 = some S1) : Ag P S0 S1 := (fh_tryW n 64) P S0 hc a0 x1 x2 a3 x4 x5 x6 Ta0 Ta3 S1 hm
def FG_tryS (n : Nat) (rec : (Nat → Int32 → Int32 → Int32 → Int32 → Int32 → Int32 → Int32 → pq_S → Option pq_S)) : Prop := (∀ (P : Nat → Prop) (S0 : pq_S) (_ : Clo P S0) (a0 : Nat) (x1 : Int32) (x2 : Int32) (x3 : Int32) (x4 : Int32) (x5 : Int32) (x6 : Int32) (x7 : Int32) (_Ta0 : P a0) (S1 : pq_S), rec a0 x1 x2 x3 x4 x5 x6 x7 S0 = some S1 → Ag P S0 S1)
set_option maxHeartbeats 1000000 in
set_option maxRecDepth 100000 in
theorem fb_X7_tryShafts_71 (P : Nat → Prop) (S0 : pq_S) (hc : Clo P S0) (n : Nat) (rec : (Nat → Int32 → Int32 → Int32 → Int32 → Int32 → Int32 → Int32 → pq_S → Option pq_S)) (hrec : FG_tryS n rec) (S1 : pq_S) : ∀ (f : Nat) (a0 : Nat) (x1 : Int32) (x2 : Int32) (x3 : Int32) (x4 : Int32) (x5 : Int32) (x6 : Int32) (x7 : Int32) (x8 : Int32) (x9 : Int32) (x10 : Int32) (S : pq_S), Ag P S0 S → P a0 → b_X7_tryShafts_71 n rec f a0 x1 x2 x3 x4 x5 x6 x7 x8 x9 x10 S = some S1 → Ag P S0 S1 := by
  intro f
  induction f with
  | zero =>
    intro a0 x1 x2 x3 x4 x5 x6 x7 x8 x9 x10 S hA Ta0 hm
    cases hm
  | succ f ih =>
    intro a0 x1 x2 x3 x4 x5 x6 x7 x8 x9 x10 S hA Ta0 hm
    rw [b_X7_tryShafts_71] at hm
    by_cases h9 : x9 < x10
    · rw [if_pos h9] at hm
      cases hm
      exact hA
    · rw [if_neg h9] at hm
      obtain ⟨r12, S_10, hq11, hm⟩ := cb_some hm
      have hA : Ag P S0 S_10 := hA.tr (fr_X7_comingOut P n S (hA.cl hc) a0 x10 x5 x8 (Ta0) r12 S_10 hq11)
      obtain ⟨S_13, hq14, hm⟩ := bd_some hm
      have hA : Ag P S0 S_13 := hA.tr (hrec P S_10 (hA.cl hc) a0 x1 (x2 - (1 : Int32)) x3 (x4 + (1 : Int32)) (x5 - r12) ((x6 + r12) - x10) ((x7 * (10 : Int32)) + x10) (Ta0)  S_13 hq14)
      exact ih a0 x1 x2 x3 x4 x5 x6 x7 x8 x9 (x10 + 1) S_13 hA (Ta0) hm
set_option maxHeartbeats 1000000 in
set_option maxRecDepth 100000 in
theorem fb_X7_tryShafts_66 (P : Nat → Prop) (S0 : pq_S) (hc : Clo P S0) (n : Nat) (rec : (Nat → Int32 → Int32 → Int32 → Int32 → Int32 → Int32 → Int32 → pq_S → Option pq_S)) (hrec : FG_tryS n rec) (S1 : pq_S) : ∀ (a0 : Nat) (x1 : Int32) (x2 : Int32) (x3 : Int32) (x4 : Int32) (x5 : Int32) (x6 : Int32) (x7 : Int32) (x8 : Int32) (z0 : Int32) (S : pq_S), Ag P S0 S → P a0 → b_X7_tryShafts_66 n rec a0 x1 x2 x3 x4 x5 x6 x7 x8 z0 S = some S1 → Ag P S0 S1 := by
  intro a0 x1 x2 x3 x4 x5 x6 x7 x8 z0 S hA Ta0 hm
  rw [b_X7_tryShafts_66] at hm
  exact fb_X7_tryShafts_71 P S0 hc n rec hrec S1 n a0 x1 x2 x3 x4 x5 x6 x7 x8 z0 0 S hA (Ta0) hm
set_option maxHeartbeats 1000000 in
set_option maxRecDepth 100000 in
theorem fg_X7_tryShafts (n : Nat) (rec : (Nat → Int32 → Int32 → Int32 → Int32 → Int32 → Int32 → Int32 → pq_S → Option pq_S)) (hrec : FG_tryS n rec) (P : Nat → Prop) (S0 : pq_S) (hc : Clo P S0) (a0 : Nat) (x1 : Int32) (x2 : Int32) (x3 : Int32) (x4 : Int32) (x5 : Int32) (x6 : Int32) (x7 : Int32) (Ta0 : P a0) (S1 : pq_S) (hm : g_X7_tryShafts n rec a0 x1 x2 x3 x4 x5 x6 x7 S0 = some S1) : Ag P S0 S1 := by
  have hA : Ag P S0 S0 := Ag.rf _ _
  rw [g_X7_tryShafts] at hm
  by_cases h1 : (pI S0 704 a0) < (x6 + x5)
  · rw [if_pos h1] at hm
    by_cases h2 : 0 < x2
    · rw [if_pos h2] at hm
      obtain ⟨q3, hq3, hm⟩ := bd_some hm
      have Tq3 : P q3 := hA.clo hc Ta0 hq3
      obtain ⟨r6, S_4, hq5, hm⟩ := cb_some hm
      have hA : Ag P S0 S_4 := hA.tr (fr_X7_isMineOpen P n S0 (hA.cl hc) a0 x1 ((pI S0 803 q3) + x4) (Ta0) r6 S_4 hq5)
      by_cases h7 : r6 = 0
      · rw [if_pos h7] at hm
        exact fb_X7_tryShafts_66 P S0 hc n rec hrec S1 a0 x1 x2 x3 x4 x5 x6 x7 ((pI S0 803 q3) + x4) 0 S_4 hA (Ta0) hm
      · rw [if_neg h7] at hm
        exact fb_X7_tryShafts_66 P S0 hc n rec hrec S1 a0 x1 x2 x3 x4 x5 x6 x7 ((pI S0 803 q3) + x4) x3 S_4 hA (Ta0) hm
    · rw [if_neg h2] at hm
      by_cases h8 : x6 ≤ (pI S0 704 a0)
      · rw [if_pos h8] at hm
        cases hm
        exact hA
      · rw [if_neg h8] at hm
        have hA : Ag P S0 (sI S0 704 a0 x6) := hA.sI Ta0
        have hA : Ag P S0 (sI (sI S0 704 a0 x6) 705 a0 x7) := hA.sI Ta0
        cases hm
        exact hA
  · rw [if_neg h1] at hm
    cases hm
    exact hA
theorem fh_tryS (n : Nat) : ∀ d : Nat, FG_tryS n (m_tryS_d n d) := by
  intro d
  induction d with
  | zero =>
    exact (fun _ _ _ _ _ _ _ _ _ _ _ _ _ hm => by cases hm)
  | succ d ih =>
    exact (fun q0 q1 q2 q3 q4 q5 q6 q7 q8 q9 q10 q11 q12 hm => fg_X7_tryShafts n _ ih q0 q1 q2 q3 q4 q5 q6 q7 q8 q9 q10 q11 q12 hm)
theorem fr_X7_tryShafts (P : Nat → Prop) (n : Nat) (S0 : pq_S) (hc : Clo P S0) (a0 : Nat) (x1 : Int32) (x2 : Int32) (x3 : Int32) (x4 : Int32) (x5 : Int32) (x6 : Int32) (x7 : Int32) (Ta0 : P a0) (S1 : pq_S) (hm : m_X7_tryShafts n a0 x1 x2 x3 x4 x5 x6 x7 S0 = some S1) : Ag P S0 S1 := (fh_tryS n 64) P S0 hc a0 x1 x2 x3 x4 x5 x6 x7 Ta0 S1 hm
def FG_seaM (n : Nat) (rec : (Nat → Int32 → Int32 → Int32 → Int32 → Int32 → pq_S → Option pq_S)) : Prop := (∀ (P : Nat → Prop) (S0 : pq_S) (_ : Clo P S0) (a0 : Nat) (x1 : Int32) (x2 : Int32) (x3 : Int32) (x4 : Int32) (x5 : Int32) (_Ta0 : P a0) (S1 : pq_S), rec a0 x1 x2 x3 x4 x5 S0 = some S1 → Ag P S0 S1)
set_option maxHeartbeats 1000000 in
set_option maxRecDepth 100000 in
theorem fb_X12_seams_60 (P : Nat → Prop) (S0 : pq_S) (hc : Clo P S0) (n : Nat) (rec : (Nat → Int32 → Int32 → Int32 → Int32 → Int32 → pq_S → Option pq_S)) (hrec : FG_seaM n rec) (S1 : pq_S) : ∀  (S : pq_S), Ag P S0 S → b_X12_seams_60 n rec  S = some S1 → Ag P S0 S1 := by
  intro S hA hm
  rw [b_X12_seams_60] at hm
  cases hm
  exact hA
set_option maxHeartbeats 1000000 in
set_option maxRecDepth 100000 in
theorem fb_X12_seams_79 (P : Nat → Prop) (S0 : pq_S) (hc : Clo P S0) (n : Nat) (rec : (Nat → Int32 → Int32 → Int32 → Int32 → Int32 → pq_S → Option pq_S)) (hrec : FG_seaM n rec) (S1 : pq_S) (k23 : Nat → Int32 → Int32 → Int32 → Int32 → Int32 → Int32 → Int32 → pq_S → Option pq_S) (hk23 : ∀ (a0 : Nat) (x1 : Int32) (x2 : Int32) (x3 : Int32) (x4 : Int32) (x5 : Int32) (x6 : Int32) (x7 : Int32) (S : pq_S), Ag P S0 S → P a0 → k23 a0 x1 x2 x3 x4 x5 x6 x7 S = some S1 → Ag P S0 S1) : ∀ (a0 : Nat) (x1 : Int32) (x2 : Int32) (x3 : Int32) (x4 : Int32) (x5 : Int32) (x6 : Int32) (x7 : Int32) (z0 : Int32) (S : pq_S), Ag P S0 S → P a0 → b_X12_seams_79 n rec k23 a0 x1 x2 x3 x4 x5 x6 x7 z0 S = some S1 → Ag P S0 S1 := by
  intro a0 x1 x2 x3 x4 x5 x6 x7 z0 S hA Ta0 hm
  rw [b_X12_seams_79] at hm
  obtain ⟨q16, hq16, hm⟩ := bd_some hm
  have Tq16 : P q16 := hA.clo hc Ta0 hq16
  obtain ⟨hi17, hm⟩ := ck_some hm
  obtain ⟨hi18, hm⟩ := ck_some hm
  have hA : Ag P S0 (sA S q16 (Int32.toNatClampNeg ((42 : Int32) + x1)) ((pA S q16 (Int32.toNatClampNeg ((42 : Int32) + x1))) - z0)) := hA.sA Tq16
  obtain ⟨S_19, eS_19, hm⟩ := lt_some hm
  have hA : Ag P S0 S_19 := by rw [eS_19]; exact hA
  obtain ⟨q20, hq20, hm⟩ := bd_some hm
  have Tq20 : P q20 := hA.clo hc Ta0 hq20
  obtain ⟨hi21, hm⟩ := ck_some hm
  obtain ⟨hi22, hm⟩ := ck_some hm
  have hA : Ag P S0 (sA S_19 q20 (Int32.toNatClampNeg 48) ((pA S_19 q20 (Int32.toNatClampNeg 48)) + (1 : Int32))) := hA.sA Tq20
  obtain ⟨S_23, eS_23, hm⟩ := lt_some hm
  have hA : Ag P S0 S_23 := by rw [eS_23]; exact hA
  obtain ⟨S_24, hq25, hm⟩ := bd_some hm
  have hA : Ag P S0 S_24 := hA.tr (hrec P S_23 (hA.cl hc) a0 x1 (x2 - (1 : Int32)) x3 ((x4 + z0) - x7) (((10 : Int32) * x5) + x7) (Ta0)  S_24 hq25)
  obtain ⟨q26, hq26, hm⟩ := bd_some hm
  have Tq26 : P q26 := hA.clo hc Ta0 hq26
  obtain ⟨hi27, hm⟩ := ck_some hm
  obtain ⟨hi28, hm⟩ := ck_some hm
  have hA : Ag P S0 (sA S_24 q26 (Int32.toNatClampNeg 48) ((pA S_24 q26 (Int32.toNatClampNeg 48)) - (1 : Int32))) := hA.sA Tq26
  obtain ⟨S_29, eS_29, hm⟩ := lt_some hm
  have hA : Ag P S0 S_29 := by rw [eS_29]; exact hA
  obtain ⟨q30, hq30, hm⟩ := bd_some hm
  have Tq30 : P q30 := hA.clo hc Ta0 hq30
  obtain ⟨hi31, hm⟩ := ck_some hm
  have hA : Ag P S0 (sA S_29 q30 (Int32.toNatClampNeg ((42 : Int32) + x1)) x6) := hA.sA Tq30
  exact hk23 a0 x1 x2 x3 x4 x5 x6 (x7 + 1) (sA S_29 q30 (Int32.toNatClampNeg ((42 : Int32) + x1)) x6) hA (Ta0) hm
set_option maxHeartbeats 1000000 in
set_option maxRecDepth 100000 in
theorem fb_X12_seams_63 (P : Nat → Prop) (S0 : pq_S) (hc : Clo P S0) (n : Nat) (rec : (Nat → Int32 → Int32 → Int32 → Int32 → Int32 → pq_S → Option pq_S)) (hrec : FG_seaM n rec) (S1 : pq_S) (k23 : Nat → Int32 → Int32 → Int32 → Int32 → Int32 → Int32 → Int32 → pq_S → Option pq_S) (hk23 : ∀ (a0 : Nat) (x1 : Int32) (x2 : Int32) (x3 : Int32) (x4 : Int32) (x5 : Int32) (x6 : Int32) (x7 : Int32) (S : pq_S), Ag P S0 S → P a0 → k23 a0 x1 x2 x3 x4 x5 x6 x7 S = some S1 → Ag P S0 S1) : ∀ (a0 : Nat) (x1 : Int32) (x2 : Int32) (x3 : Int32) (x4 : Int32) (x5 : Int32) (x6 : Int32) (x7 : Int32) (S : pq_S), Ag P S0 S → P a0 → b_X12_seams_63 n rec k23 a0 x1 x2 x3 x4 x5 x6 x7 S = some S1 → Ag P S0 S1 := by
  intro a0 x1 x2 x3 x4 x5 x6 x7 S hA Ta0 hm
  rw [b_X12_seams_63] at hm
  by_cases h12 : x7 = 0
  · rw [if_pos h12] at hm
    exact fb_X12_seams_79 P S0 hc n rec hrec S1 _ hk23 a0 x1 x2 x3 x4 x5 x6 x7 0 S hA (Ta0) hm
  · rw [if_neg h12] at hm
    obtain ⟨r15, S_13, hq14, hm⟩ := cb_some hm
    have hA : Ag P S0 S_13 := hA.tr (fr_X12_digOf P n S (hA.cl hc) a0 x1 x7 (Ta0) r15 S_13 hq14)
    exact fb_X12_seams_79 P S0 hc n rec hrec S1 _ hk23 a0 x1 x2 x3 x4 x5 x6 x7 r15 S_13 hA (Ta0) hm
set_option maxHeartbeats 1000000 in
set_option maxRecDepth 100000 in
theorem fb_X12_seams_41 (P : Nat → Prop) (S0 : pq_S) (hc : Clo P S0) (n : Nat) (rec : (Nat → Int32 → Int32 → Int32 → Int32 → Int32 → pq_S → Option pq_S)) (hrec : FG_seaM n rec) (S1 : pq_S) : ∀ (f : Nat) (a0 : Nat) (x1 : Int32) (x2 : Int32) (x3 : Int32) (x4 : Int32) (x5 : Int32) (x6 : Int32) (x7 : Int32) (S : pq_S), Ag P S0 S → P a0 → b_X12_seams_41 n rec f a0 x1 x2 x3 x4 x5 x6 x7 S = some S1 → Ag P S0 S1 := by
  intro f
  induction f with
  | zero =>
    intro a0 x1 x2 x3 x4 x5 x6 x7 S hA Ta0 hm
    cases hm
  | succ f ih =>
    intro a0 x1 x2 x3 x4 x5 x6 x7 S hA Ta0 hm
    rw [b_X12_seams_41] at hm
    by_cases h6 : x3 < x7
    · rw [if_pos h6] at hm
      cases hm
      exact hA
    · rw [if_neg h6] at hm
      by_cases h7 : x7 ≤ 0
      · rw [if_pos h7] at hm
        exact fb_X12_seams_63 P S0 hc n rec hrec S1 _ ih a0 x1 x2 x3 x4 x5 x6 x7 S hA (Ta0) hm
      · rw [if_neg h7] at hm
        obtain ⟨r10, S_8, hq9, hm⟩ := cb_some hm
        have hA : Ag P S0 S_8 := hA.tr (fr_X12_isOpenMine P n S (hA.cl hc) a0 x1 (Ta0) r10 S_8 hq9)
        by_cases h11 : r10 = 0
        · rw [if_pos h11] at hm
          exact fb_X12_seams_60 P S0 hc n rec hrec S1  S_8 hA  hm
        · rw [if_neg h11] at hm
          exact fb_X12_seams_63 P S0 hc n rec hrec S1 _ ih a0 x1 x2 x3 x4 x5 x6 x7 S_8 hA (Ta0) hm
set_option maxHeartbeats 1000000 in
set_option maxRecDepth 100000 in
theorem fg_X12_seams (n : Nat) (rec : (Nat → Int32 → Int32 → Int32 → Int32 → Int32 → pq_S → Option pq_S)) (hrec : FG_seaM n rec) (P : Nat → Prop) (S0 : pq_S) (hc : Clo P S0) (a0 : Nat) (x1 : Int32) (x2 : Int32) (x3 : Int32) (x4 : Int32) (x5 : Int32) (Ta0 : P a0) (S1 : pq_S) (hm : g_X12_seams n rec a0 x1 x2 x3 x4 x5 S0 = some S1) : Ag P S0 S1 := by
  have hA : Ag P S0 S0 := Ag.rf _ _
  rw [g_X12_seams] at hm
  by_cases h1 : x2 = 0
  · rw [if_pos h1] at hm
    by_cases h5 : (pI S0 1265 a0) < x4
    · rw [if_pos h5] at hm
      have hA : Ag P S0 (sI S0 1265 a0 x4) := hA.sI Ta0
      have hA : Ag P S0 (sI (sI S0 1265 a0 x4) 1266 a0 x5) := hA.sI Ta0
      cases hm
      exact hA
    · rw [if_neg h5] at hm
      cases hm
      exact hA
  · rw [if_neg h1] at hm
    obtain ⟨q2, hq2, hm⟩ := bd_some hm
    have Tq2 : P q2 := hA.clo hc Ta0 hq2
    obtain ⟨hi3, hm⟩ := ck_some hm
    obtain ⟨v4, ev4, hm⟩ := lt_some hm
    exact fb_X12_seams_41 P S0 hc n rec hrec S1 n a0 x1 x2 x3 x4 x5 v4 0 S0 hA (Ta0) hm
theorem fh_seaM (n : Nat) : ∀ d : Nat, FG_seaM n (m_seaM_d n d) := by
  intro d
  induction d with
  | zero =>
    exact (fun _ _ _ _ _ _ _ _ _ _ _ hm => by cases hm)
  | succ d ih =>
    exact (fun q0 q1 q2 q3 q4 q5 q6 q7 q8 q9 q10 hm => fg_X12_seams n _ ih q0 q1 q2 q3 q4 q5 q6 q7 q8 q9 q10 hm)
theorem fr_X12_seams (P : Nat → Prop) (n : Nat) (S0 : pq_S) (hc : Clo P S0) (a0 : Nat) (x1 : Int32) (x2 : Int32) (x3 : Int32) (x4 : Int32) (x5 : Int32) (Ta0 : P a0) (S1 : pq_S) (hm : m_X12_seams n a0 x1 x2 x3 x4 x5 S0 = some S1) : Ag P S0 S1 := (fh_seaM n 64) P S0 hc a0 x1 x2 x3 x4 x5 Ta0 S1 hm
def FG_goeS (n : Nat) (rec : (Nat → Int32 → Int32 → pq_S → Option pq_S)) : Prop := (∀ (P : Nat → Prop) (S0 : pq_S) (_ : Clo P S0) (a0 : Nat) (x1 : Int32) (x2 : Int32) (_Ta0 : P a0) (S1 : pq_S), rec a0 x1 x2 S0 = some S1 → Ag P S0 S1)
set_option maxHeartbeats 1000000 in
set_option maxRecDepth 100000 in
theorem fb_X12_goesSteps_125 (P : Nat → Prop) (S0 : pq_S) (hc : Clo P S0) (n : Nat) (rec : (Nat → Int32 → Int32 → pq_S → Option pq_S)) (hrec : FG_goeS n rec) (S1 : pq_S) (k2 : Nat → Int32 → Int32 → pq_S → Option pq_S) (hk2 : ∀ (a0 : Nat) (x2 : Int32) (x3 : Int32) (S : pq_S), Ag P S0 S → P a0 → k2 a0 x2 x3 S = some S1 → Ag P S0 S1) : ∀ (a0 : Nat) (x2 : Int32) (x3 : Int32) (S : pq_S), Ag P S0 S → P a0 → b_X12_goesSteps_125 n rec k2 a0 x2 x3 S = some S1 → Ag P S0 S1 := by
  intro a0 x2 x3 S hA Ta0 hm
  rw [b_X12_goesSteps_125] at hm
  exact hk2 a0 x2 (x3 + 5) S hA (Ta0) hm
set_option maxHeartbeats 1000000 in
set_option maxRecDepth 100000 in
theorem fb_X12_goesSteps_88 (P : Nat → Prop) (S0 : pq_S) (hc : Clo P S0) (n : Nat) (rec : (Nat → Int32 → Int32 → pq_S → Option pq_S)) (hrec : FG_goeS n rec) (S1 : pq_S) (k2 : Nat → Int32 → Int32 → pq_S → Option pq_S) (hk2 : ∀ (a0 : Nat) (x2 : Int32) (x3 : Int32) (S : pq_S), Ag P S0 S → P a0 → k2 a0 x2 x3 S = some S1 → Ag P S0 S1) : ∀ (a0 : Nat) (x2 : Int32) (x4 : Int32) (S : pq_S), Ag P S0 S → P a0 → b_X12_goesSteps_88 n rec k2 a0 x2 x4 S = some S1 → Ag P S0 S1 := by
  intro a0 x2 x4 S hA Ta0 hm
  rw [b_X12_goesSteps_88] at hm
  exact hk2 a0 x2 x4 S hA (Ta0) hm
set_option maxHeartbeats 1000000 in
set_option maxRecDepth 100000 in
theorem fb_X12_goesSteps_50 (P : Nat → Prop) (S0 : pq_S) (hc : Clo P S0) (n : Nat) (rec : (Nat → Int32 → Int32 → pq_S → Option pq_S)) (hrec : FG_goeS n rec) (S1 : pq_S) (k2 : Nat → Int32 → Int32 → pq_S → Option pq_S) (hk2 : ∀ (a0 : Nat) (x2 : Int32) (x3 : Int32) (S : pq_S), Ag P S0 S → P a0 → k2 a0 x2 x3 S = some S1 → Ag P S0 S1) : ∀ (f : Nat) (a0 : Nat) (x2 : Int32) (x3 : Int32) (x4 : Int32) (x5 : Int32) (S : pq_S), Ag P S0 S → P a0 → b_X12_goesSteps_50 n rec k2 f a0 x2 x3 x4 x5 S = some S1 → Ag P S0 S1 := by
  intro f
  induction f with
  | zero =>
    intro a0 x2 x3 x4 x5 S hA Ta0 hm
    cases hm
  | succ f ih =>
    intro a0 x2 x3 x4 x5 S hA Ta0 hm
    rw [b_X12_goesSteps_50] at hm
    obtain ⟨q13, hq13, hm⟩ := bd_some hm
    have Tq13 : P q13 := hA.clo hc Ta0 hq13
    obtain ⟨hi14, hm⟩ := ck_some hm
    by_cases h15 : (pA S q13 (Int32.toNatClampNeg (x3 + (1 : Int32)))) ≤ x5
    · rw [if_pos h15] at hm
      exact fb_X12_goesSteps_88 P S0 hc n rec hrec S1 _ hk2 a0 x2 x4 S hA (Ta0) hm
    · rw [if_neg h15] at hm
      by_cases h16 : 200 ≤ (pI S 1243 a0)
      · rw [if_pos h16] at hm
        exact fb_X12_goesSteps_88 P S0 hc n rec hrec S1 _ hk2 a0 x2 x4 S hA (Ta0) hm
      · rw [if_neg h16] at hm
        obtain ⟨S_17, hq18, hm⟩ := bd_some hm
        have hA : Ag P S0 S_17 := hA.tr (hrec P S (hA.cl hc) a0 (x3 + (5 : Int32)) x4 (Ta0)  S_17 hq18)
        exact ih a0 x2 x3 x4 (x5 + 1) S_17 hA (Ta0) hm
set_option maxHeartbeats 1000000 in
set_option maxRecDepth 100000 in
theorem fb_X12_goesSteps_2 (P : Nat → Prop) (S0 : pq_S) (hc : Clo P S0) (n : Nat) (rec : (Nat → Int32 → Int32 → pq_S → Option pq_S)) (hrec : FG_goeS n rec) (S1 : pq_S) : ∀ (f : Nat) (a0 : Nat) (x2 : Int32) (x3 : Int32) (S : pq_S), Ag P S0 S → P a0 → b_X12_goesSteps_2 n rec f a0 x2 x3 S = some S1 → Ag P S0 S1 := by
  intro f
  induction f with
  | zero =>
    intro a0 x2 x3 S hA Ta0 hm
    cases hm
  | succ f ih =>
    intro a0 x2 x3 S hA Ta0 hm
    rw [b_X12_goesSteps_2] at hm
    by_cases h1 : x2 ≤ x3
    · rw [if_pos h1] at hm
      cases hm
      exact hA
    · rw [if_neg h1] at hm
      by_cases h2 : 200 ≤ (pI S 1243 a0)
      · rw [if_pos h2] at hm
        cases hm
        exact hA
      · rw [if_neg h2] at hm
        have hA : Ag P S0 (sI S 1243 a0 ((pI S 1243 a0) + (1 : Int32))) := hA.sI Ta0
        obtain ⟨q3, hq3, hm⟩ := bd_some hm
        have Tq3 : P q3 := hA.clo hc Ta0 hq3
        obtain ⟨hi4, hm⟩ := ck_some hm
        by_cases h5 : (pA (sI S 1243 a0 ((pI S 1243 a0) + (1 : Int32))) q3 (Int32.toNatClampNeg x3)) = 5
        · rw [if_pos h5] at hm
          obtain ⟨q10, hq10, hm⟩ := bd_some hm
          have Tq10 : P q10 := hA.clo hc Ta0 hq10
          obtain ⟨hi11, hm⟩ := ck_some hm
          obtain ⟨v12, ev12, hm⟩ := lt_some hm
          exact fb_X12_goesSteps_50 P S0 hc n rec hrec S1 _ ih n a0 x2 x3 v12 0 (sI S 1243 a0 ((pI S 1243 a0) + (1 : Int32))) hA (Ta0) hm
        · rw [if_neg h5] at hm
          obtain ⟨r8, S_6, hq7, hm⟩ := cb_some hm
          have hA : Ag P S0 S_6 := hA.tr (fr_X12_goes P n (sI S 1243 a0 ((pI S 1243 a0) + (1 : Int32))) (hA.cl hc) a0 x3 (Ta0) r8 S_6 hq7)
          by_cases h9 : r8 = 0
          · rw [if_pos h9] at hm
            have hA : Ag P S0 (sI S_6 1245 a0 ((pI S_6 1245 a0) + (1 : Int32))) := hA.sI Ta0
            exact fb_X12_goesSteps_125 P S0 hc n rec hrec S1 _ ih a0 x2 x3 (sI S_6 1245 a0 ((pI S_6 1245 a0) + (1 : Int32))) hA (Ta0) hm
          · rw [if_neg h9] at hm
            have hA : Ag P S0 (sI S_6 1244 a0 ((pI S_6 1244 a0) + (1 : Int32))) := hA.sI Ta0
            exact fb_X12_goesSteps_125 P S0 hc n rec hrec S1 _ ih a0 x2 x3 (sI S_6 1244 a0 ((pI S_6 1244 a0) + (1 : Int32))) hA (Ta0) hm
set_option maxHeartbeats 1000000 in
set_option maxRecDepth 100000 in
theorem fg_X12_goesSteps (n : Nat) (rec : (Nat → Int32 → Int32 → pq_S → Option pq_S)) (hrec : FG_goeS n rec) (P : Nat → Prop) (S0 : pq_S) (hc : Clo P S0) (a0 : Nat) (x1 : Int32) (x2 : Int32) (Ta0 : P a0) (S1 : pq_S) (hm : g_X12_goesSteps n rec a0 x1 x2 S0 = some S1) : Ag P S0 S1 := by
  have hA : Ag P S0 S0 := Ag.rf _ _
  rw [g_X12_goesSteps] at hm
  exact fb_X12_goesSteps_2 P S0 hc n rec hrec S1 n a0 x2 x1 S0 hA (Ta0) hm
theorem fh_goeS (n : Nat) : ∀ d : Nat, FG_goeS n (m_goeS_d n d) := by
  intro d
  induction d with
  | zero =>
    exact (fun _ _ _ _ _ _ _ _ hm => by cases hm)
  | succ d ih =>
    exact (fun q0 q1 q2 q3 q4 q5 q6 q7 hm => fg_X12_goesSteps n _ ih q0 q1 q2 q3 q4 q5 q6 q7 hm)
theorem fr_X12_goesSteps (P : Nat → Prop) (n : Nat) (S0 : pq_S) (hc : Clo P S0) (a0 : Nat) (x1 : Int32) (x2 : Int32) (Ta0 : P a0) (S1 : pq_S) (hm : m_X12_goesSteps n a0 x1 x2 S0 = some S1) : Ag P S0 S1 := (fh_goeS n 64) P S0 hc a0 x1 x2 Ta0 S1 hm
def FG_lawP (n : Nat) (rec : (Nat → Nat → Int32 → pq_S → Option pq_S) × (Nat → Nat → Int32 → pq_S → Option pq_S) × (Nat → Nat → Int32 → pq_S → Option pq_S) × (Nat → Nat → Int32 → pq_S → Option pq_S) × (Nat → Nat → Int32 → pq_S → Option pq_S) × (Nat → Nat → Int32 → Int32 → pq_S → Option pq_S)) : Prop := (∀ (P : Nat → Prop) (S0 : pq_S) (_ : Clo P S0) (a0 : Nat) (a1 : Nat) (x2 : Int32) (_Ta0 : P a0) (_Ta1 : P a1) (S1 : pq_S), rec.1 a0 a1 x2 S0 = some S1 → Ag P S0 S1) ∧ (∀ (P : Nat → Prop) (S0 : pq_S) (_ : Clo P S0) (a0 : Nat) (a1 : Nat) (x2 : Int32) (_Ta0 : P a0) (_Ta1 : P a1) (S1 : pq_S), rec.2.1 a0 a1 x2 S0 = some S1 → Ag P S0 S1) ∧ (∀ (P : Nat → Prop) (S0 : pq_S) (_ : Clo P S0) (a0 : Nat) (a1 : Nat) (x2 : Int32) (_Ta0 : P a0) (_Ta1 : P a1) (S1 : pq_S), rec.2.2.1 a0 a1 x2 S0 = some S1 → Ag P S0 S1) ∧ (∀ (P : Nat → Prop) (S0 : pq_S) (_ : Clo P S0) (a0 : Nat) (a1 : Nat) (x2 : Int32) (_Ta0 : P a0) (_Ta1 : P a1) (S1 : pq_S), rec.2.2.2.1 a0 a1 x2 S0 = some S1 → Ag P S0 S1) ∧ (∀ (P : Nat → Prop) (S0 : pq_S) (_ : Clo P S0) (a0 : Nat) (a1 : Nat) (x2 : Int32) (_Ta0 : P a0) (_Ta1 : P a1) (S1 : pq_S), rec.2.2.2.2.1 a0 a1 x2 S0 = some S1 → Ag P S0 S1) ∧ (∀ (P : Nat → Prop) (S0 : pq_S) (_ : Clo P S0) (a0 : Nat) (a1 : Nat) (x2 : Int32) (x3 : Int32) (_Ta0 : P a0) (_Ta1 : P a1) (S1 : pq_S), rec.2.2.2.2.2 a0 a1 x2 x3 S0 = some S1 → Ag P S0 S1)
set_option maxHeartbeats 1000000 in
set_option maxRecDepth 100000 in
theorem fb_X2_readSum_51 (P : Nat → Prop) (S0 : pq_S) (hc : Clo P S0) (n : Nat) (rec : (Nat → Nat → Int32 → pq_S → Option pq_S) × (Nat → Nat → Int32 → pq_S → Option pq_S) × (Nat → Nat → Int32 → pq_S → Option pq_S) × (Nat → Nat → Int32 → pq_S → Option pq_S) × (Nat → Nat → Int32 → pq_S → Option pq_S) × (Nat → Nat → Int32 → Int32 → pq_S → Option pq_S)) (hrec : FG_lawP n rec) (S1 : pq_S) (k6 : Nat → Nat → Int32 → Int32 → pq_S → Option pq_S) (hk6 : ∀ (a0 : Nat) (a1 : Nat) (x2 : Int32) (x3 : Int32) (S : pq_S), Ag P S0 S → P a0 → P a1 → k6 a0 a1 x2 x3 S = some S1 → Ag P S0 S1) : ∀ (a0 : Nat) (a1 : Nat) (x2 : Int32) (x3 : Int32) (z0 : Int32) (S : pq_S), Ag P S0 S → P a0 → P a1 → b_X2_readSum_51 n rec k6 a0 a1 x2 x3 z0 S = some S1 → Ag P S0 S1 := by
  intro a0 a1 x2 x3 z0 S hA Ta0 Ta1 hm
  rw [b_X2_readSum_51] at hm
  obtain ⟨r18, S_16, hq17, hm⟩ := cb_some hm
  have hA : Ag P S0 S_16 := hA.tr (fr_X10_next P n S (hA.cl hc) a1 (Ta1) r18 S_16 hq17)
  obtain ⟨S_19, hq20, hm⟩ := bd_some hm
  have hA : Ag P S0 S_19 := hA.tr (fr_X10_takeSign P n S_16 (hA.cl hc) a1 r18 (Ta1)  S_19 hq20)
  obtain ⟨S_21, hq22, hm⟩ := bd_some hm
  have hA : Ag P S0 S_21 := hA.tr (hrec.2.1 P S_19 (hA.cl hc) a0 a1 x2 (Ta0) (Ta1)  S_21 hq22)
  obtain ⟨S_23, hq24, hm⟩ := bd_some hm
  have hA : Ag P S0 S_23 := hA.tr (fr_X2_append P n S_21 (hA.cl hc) a0 z0 (Ta0)  S_23 hq24)
  exact hk6 a0 a1 x2 (x3 + 1) S_23 hA (Ta0) (Ta1) hm
set_option maxHeartbeats 1000000 in
set_option maxRecDepth 100000 in
theorem fb_X2_readSum_33 (P : Nat → Prop) (S0 : pq_S) (hc : Clo P S0) (n : Nat) (rec : (Nat → Nat → Int32 → pq_S → Option pq_S) × (Nat → Nat → Int32 → pq_S → Option pq_S) × (Nat → Nat → Int32 → pq_S → Option pq_S) × (Nat → Nat → Int32 → pq_S → Option pq_S) × (Nat → Nat → Int32 → pq_S → Option pq_S) × (Nat → Nat → Int32 → Int32 → pq_S → Option pq_S)) (hrec : FG_lawP n rec) (S1 : pq_S) (k6 : Nat → Nat → Int32 → Int32 → pq_S → Option pq_S) (hk6 : ∀ (a0 : Nat) (a1 : Nat) (x2 : Int32) (x3 : Int32) (S : pq_S), Ag P S0 S → P a0 → P a1 → k6 a0 a1 x2 x3 S = some S1 → Ag P S0 S1) : ∀ (a0 : Nat) (a1 : Nat) (x2 : Int32) (x3 : Int32) (S : pq_S), Ag P S0 S → P a0 → P a1 → b_X2_readSum_33 n rec k6 a0 a1 x2 x3 S = some S1 → Ag P S0 S1 := by
  intro a0 a1 x2 x3 S hA Ta0 Ta1 hm
  rw [b_X2_readSum_33] at hm
  obtain ⟨r14, S_12, hq13, hm⟩ := cb_some hm
  have hA : Ag P S0 S_12 := hA.tr (fr_X10_next P n S (hA.cl hc) a1 (Ta1) r14 S_12 hq13)
  by_cases h15 : r14 = 43
  · rw [if_pos h15] at hm
    exact fb_X2_readSum_51 P S0 hc n rec hrec S1 _ hk6 a0 a1 x2 x3 2000 S_12 hA (Ta0) (Ta1) hm
  · rw [if_neg h15] at hm
    exact fb_X2_readSum_51 P S0 hc n rec hrec S1 _ hk6 a0 a1 x2 x3 2001 S_12 hA (Ta0) (Ta1) hm
set_option maxHeartbeats 1000000 in
set_option maxRecDepth 100000 in
theorem fb_X2_readSum_8 (P : Nat → Prop) (S0 : pq_S) (hc : Clo P S0) (n : Nat) (rec : (Nat → Nat → Int32 → pq_S → Option pq_S) × (Nat → Nat → Int32 → pq_S → Option pq_S) × (Nat → Nat → Int32 → pq_S → Option pq_S) × (Nat → Nat → Int32 → pq_S → Option pq_S) × (Nat → Nat → Int32 → pq_S → Option pq_S) × (Nat → Nat → Int32 → Int32 → pq_S → Option pq_S)) (hrec : FG_lawP n rec) (S1 : pq_S) : ∀ (f : Nat) (a0 : Nat) (a1 : Nat) (x2 : Int32) (x3 : Int32) (S : pq_S), Ag P S0 S → P a0 → P a1 → b_X2_readSum_8 n rec f a0 a1 x2 x3 S = some S1 → Ag P S0 S1 := by
  intro f
  induction f with
  | zero =>
    intro a0 a1 x2 x3 S hA Ta0 Ta1 hm
    cases hm
  | succ f ih =>
    intro a0 a1 x2 x3 S hA Ta0 Ta1 hm
    rw [b_X2_readSum_8] at hm
    by_cases h3 : 150 ≤ x3
    · rw [if_pos h3] at hm
      cases hm
      exact hA
    · rw [if_neg h3] at hm
      obtain ⟨r6, S_4, hq5, hm⟩ := cb_some hm
      have hA : Ag P S0 S_4 := hA.tr (fr_X10_next P n S (hA.cl hc) a1 (Ta1) r6 S_4 hq5)
      by_cases h7 : r6 = 43
      · rw [if_pos h7] at hm
        exact fb_X2_readSum_33 P S0 hc n rec hrec S1 _ ih a0 a1 x2 x3 S_4 hA (Ta0) (Ta1) hm
      · rw [if_neg h7] at hm
        obtain ⟨r10, S_8, hq9, hm⟩ := cb_some hm
        have hA : Ag P S0 S_8 := hA.tr (fr_X10_next P n S_4 (hA.cl hc) a1 (Ta1) r10 S_8 hq9)
        by_cases h11 : r10 = 45
        · rw [if_pos h11] at hm
          exact fb_X2_readSum_33 P S0 hc n rec hrec S1 _ ih a0 a1 x2 x3 S_8 hA (Ta0) (Ta1) hm
        · rw [if_neg h11] at hm
          cases hm
          exact hA
set_option maxHeartbeats 1000000 in
set_option maxRecDepth 100000 in
theorem fg_X2_readSum (n : Nat) (rec : (Nat → Nat → Int32 → pq_S → Option pq_S) × (Nat → Nat → Int32 → pq_S → Option pq_S) × (Nat → Nat → Int32 → pq_S → Option pq_S) × (Nat → Nat → Int32 → pq_S → Option pq_S) × (Nat → Nat → Int32 → pq_S → Option pq_S) × (Nat → Nat → Int32 → Int32 → pq_S → Option pq_S)) (hrec : FG_lawP n rec) (P : Nat → Prop) (S0 : pq_S) (hc : Clo P S0) (a0 : Nat) (a1 : Nat) (x2 : Int32) (Ta0 : P a0) (Ta1 : P a1) (S1 : pq_S) (hm : g_X2_readSum n rec a0 a1 x2 S0 = some S1) : Ag P S0 S1 := by
  have hA : Ag P S0 S0 := Ag.rf _ _
  rw [g_X2_readSum] at hm
  obtain ⟨S_1, hq2, hm⟩ := bd_some hm
  have hA : Ag P S0 S_1 := hA.tr (hrec.2.1 P S0 (hA.cl hc) a0 a1 x2 (Ta0) (Ta1)  S_1 hq2)
  exact fb_X2_readSum_8 P S0 hc n rec hrec S1 n a0 a1 x2 0 S_1 hA (Ta0) (Ta1) hm
set_option maxHeartbeats 1000000 in
set_option maxRecDepth 100000 in
theorem fb_X2_readProduct_51 (P : Nat → Prop) (S0 : pq_S) (hc : Clo P S0) (n : Nat) (rec : (Nat → Nat → Int32 → pq_S → Option pq_S) × (Nat → Nat → Int32 → pq_S → Option pq_S) × (Nat → Nat → Int32 → pq_S → Option pq_S) × (Nat → Nat → Int32 → pq_S → Option pq_S) × (Nat → Nat → Int32 → pq_S → Option pq_S) × (Nat → Nat → Int32 → Int32 → pq_S → Option pq_S)) (hrec : FG_lawP n rec) (S1 : pq_S) (k6 : Nat → Nat → Int32 → Int32 → pq_S → Option pq_S) (hk6 : ∀ (a0 : Nat) (a1 : Nat) (x2 : Int32) (x3 : Int32) (S : pq_S), Ag P S0 S → P a0 → P a1 → k6 a0 a1 x2 x3 S = some S1 → Ag P S0 S1) : ∀ (a0 : Nat) (a1 : Nat) (x2 : Int32) (x3 : Int32) (z0 : Int32) (S : pq_S), Ag P S0 S → P a0 → P a1 → b_X2_readProduct_51 n rec k6 a0 a1 x2 x3 z0 S = some S1 → Ag P S0 S1 := by
  intro a0 a1 x2 x3 z0 S hA Ta0 Ta1 hm
  rw [b_X2_readProduct_51] at hm
  obtain ⟨r18, S_16, hq17, hm⟩ := cb_some hm
  have hA : Ag P S0 S_16 := hA.tr (fr_X10_next P n S (hA.cl hc) a1 (Ta1) r18 S_16 hq17)
  obtain ⟨S_19, hq20, hm⟩ := bd_some hm
  have hA : Ag P S0 S_19 := hA.tr (fr_X10_takeSign P n S_16 (hA.cl hc) a1 r18 (Ta1)  S_19 hq20)
  obtain ⟨S_21, hq22, hm⟩ := bd_some hm
  have hA : Ag P S0 S_21 := hA.tr (hrec.2.2.1 P S_19 (hA.cl hc) a0 a1 x2 (Ta0) (Ta1)  S_21 hq22)
  obtain ⟨S_23, hq24, hm⟩ := bd_some hm
  have hA : Ag P S0 S_23 := hA.tr (fr_X2_append P n S_21 (hA.cl hc) a0 z0 (Ta0)  S_23 hq24)
  exact hk6 a0 a1 x2 (x3 + 1) S_23 hA (Ta0) (Ta1) hm
set_option maxHeartbeats 1000000 in
set_option maxRecDepth 100000 in
theorem fb_X2_readProduct_33 (P : Nat → Prop) (S0 : pq_S) (hc : Clo P S0) (n : Nat) (rec : (Nat → Nat → Int32 → pq_S → Option pq_S) × (Nat → Nat → Int32 → pq_S → Option pq_S) × (Nat → Nat → Int32 → pq_S → Option pq_S) × (Nat → Nat → Int32 → pq_S → Option pq_S) × (Nat → Nat → Int32 → pq_S → Option pq_S) × (Nat → Nat → Int32 → Int32 → pq_S → Option pq_S)) (hrec : FG_lawP n rec) (S1 : pq_S) (k6 : Nat → Nat → Int32 → Int32 → pq_S → Option pq_S) (hk6 : ∀ (a0 : Nat) (a1 : Nat) (x2 : Int32) (x3 : Int32) (S : pq_S), Ag P S0 S → P a0 → P a1 → k6 a0 a1 x2 x3 S = some S1 → Ag P S0 S1) : ∀ (a0 : Nat) (a1 : Nat) (x2 : Int32) (x3 : Int32) (S : pq_S), Ag P S0 S → P a0 → P a1 → b_X2_readProduct_33 n rec k6 a0 a1 x2 x3 S = some S1 → Ag P S0 S1 := by
  intro a0 a1 x2 x3 S hA Ta0 Ta1 hm
  rw [b_X2_readProduct_33] at hm
  obtain ⟨r14, S_12, hq13, hm⟩ := cb_some hm
  have hA : Ag P S0 S_12 := hA.tr (fr_X10_next P n S (hA.cl hc) a1 (Ta1) r14 S_12 hq13)
  by_cases h15 : r14 = 42
  · rw [if_pos h15] at hm
    exact fb_X2_readProduct_51 P S0 hc n rec hrec S1 _ hk6 a0 a1 x2 x3 2002 S_12 hA (Ta0) (Ta1) hm
  · rw [if_neg h15] at hm
    exact fb_X2_readProduct_51 P S0 hc n rec hrec S1 _ hk6 a0 a1 x2 x3 2003 S_12 hA (Ta0) (Ta1) hm
set_option maxHeartbeats 1000000 in
set_option maxRecDepth 100000 in
theorem fb_X2_readProduct_8 (P : Nat → Prop) (S0 : pq_S) (hc : Clo P S0) (n : Nat) (rec : (Nat → Nat → Int32 → pq_S → Option pq_S) × (Nat → Nat → Int32 → pq_S → Option pq_S) × (Nat → Nat → Int32 → pq_S → Option pq_S) × (Nat → Nat → Int32 → pq_S → Option pq_S) × (Nat → Nat → Int32 → pq_S → Option pq_S) × (Nat → Nat → Int32 → Int32 → pq_S → Option pq_S)) (hrec : FG_lawP n rec) (S1 : pq_S) : ∀ (f : Nat) (a0 : Nat) (a1 : Nat) (x2 : Int32) (x3 : Int32) (S : pq_S), Ag P S0 S → P a0 → P a1 → b_X2_readProduct_8 n rec f a0 a1 x2 x3 S = some S1 → Ag P S0 S1 := by
  intro f
  induction f with
  | zero =>
    intro a0 a1 x2 x3 S hA Ta0 Ta1 hm
    cases hm
  | succ f ih =>
    intro a0 a1 x2 x3 S hA Ta0 Ta1 hm
    rw [b_X2_readProduct_8] at hm
    by_cases h3 : 150 ≤ x3
    · rw [if_pos h3] at hm
      cases hm
      exact hA
    · rw [if_neg h3] at hm
      obtain ⟨r6, S_4, hq5, hm⟩ := cb_some hm
      have hA : Ag P S0 S_4 := hA.tr (fr_X10_next P n S (hA.cl hc) a1 (Ta1) r6 S_4 hq5)
      by_cases h7 : r6 = 42
      · rw [if_pos h7] at hm
        exact fb_X2_readProduct_33 P S0 hc n rec hrec S1 _ ih a0 a1 x2 x3 S_4 hA (Ta0) (Ta1) hm
      · rw [if_neg h7] at hm
        obtain ⟨r10, S_8, hq9, hm⟩ := cb_some hm
        have hA : Ag P S0 S_8 := hA.tr (fr_X10_next P n S_4 (hA.cl hc) a1 (Ta1) r10 S_8 hq9)
        by_cases h11 : r10 = 47
        · rw [if_pos h11] at hm
          exact fb_X2_readProduct_33 P S0 hc n rec hrec S1 _ ih a0 a1 x2 x3 S_8 hA (Ta0) (Ta1) hm
        · rw [if_neg h11] at hm
          cases hm
          exact hA
set_option maxHeartbeats 1000000 in
set_option maxRecDepth 100000 in
theorem fg_X2_readProduct (n : Nat) (rec : (Nat → Nat → Int32 → pq_S → Option pq_S) × (Nat → Nat → Int32 → pq_S → Option pq_S) × (Nat → Nat → Int32 → pq_S → Option pq_S) × (Nat → Nat → Int32 → pq_S → Option pq_S) × (Nat → Nat → Int32 → pq_S → Option pq_S) × (Nat → Nat → Int32 → Int32 → pq_S → Option pq_S)) (hrec : FG_lawP n rec) (P : Nat → Prop) (S0 : pq_S) (hc : Clo P S0) (a0 : Nat) (a1 : Nat) (x2 : Int32) (Ta0 : P a0) (Ta1 : P a1) (S1 : pq_S) (hm : g_X2_readProduct n rec a0 a1 x2 S0 = some S1) : Ag P S0 S1 := by
  have hA : Ag P S0 S0 := Ag.rf _ _
  rw [g_X2_readProduct] at hm
  obtain ⟨S_1, hq2, hm⟩ := bd_some hm
  have hA : Ag P S0 S_1 := hA.tr (hrec.2.2.1 P S0 (hA.cl hc) a0 a1 x2 (Ta0) (Ta1)  S_1 hq2)
  exact fb_X2_readProduct_8 P S0 hc n rec hrec S1 n a0 a1 x2 0 S_1 hA (Ta0) (Ta1) hm
set_option maxHeartbeats 1000000 in
set_option maxRecDepth 100000 in
theorem fg_X2_readUnit (n : Nat) (rec : (Nat → Nat → Int32 → pq_S → Option pq_S) × (Nat → Nat → Int32 → pq_S → Option pq_S) × (Nat → Nat → Int32 → pq_S → Option pq_S) × (Nat → Nat → Int32 → pq_S → Option pq_S) × (Nat → Nat → Int32 → pq_S → Option pq_S) × (Nat → Nat → Int32 → Int32 → pq_S → Option pq_S)) (hrec : FG_lawP n rec) (P : Nat → Prop) (S0 : pq_S) (hc : Clo P S0) (a0 : Nat) (a1 : Nat) (x2 : Int32) (Ta0 : P a0) (Ta1 : P a1) (S1 : pq_S) (hm : g_X2_readUnit n rec a0 a1 x2 S0 = some S1) : Ag P S0 S1 := by
  have hA : Ag P S0 S0 := Ag.rf _ _
  rw [g_X2_readUnit] at hm
  obtain ⟨r3, S_1, hq2, hm⟩ := cb_some hm
  have hA : Ag P S0 S_1 := hA.tr (fr_X10_next P n S0 (hA.cl hc) a1 (Ta1) r3 S_1 hq2)
  obtain ⟨r6, S_4, hq5, hm⟩ := cb_some hm
  have hA : Ag P S0 S_4 := hA.tr (fr_X11_isWithin P n S_1 (hA.cl hc) r3 48 57  r6 S_4 hq5)
  by_cases h7 : r6 = 0
  · rw [if_pos h7] at hm
    obtain ⟨r10, S_8, hq9, hm⟩ := cb_some hm
    have hA : Ag P S0 S_8 := hA.tr (fr_X11_isWithin P n S_4 (hA.cl hc) r3 97 122  r10 S_8 hq9)
    by_cases h11 : r10 = 0
    · rw [if_pos h11] at hm
      by_cases h12 : r3 = 40
      · rw [if_pos h12] at hm
        obtain ⟨S_15, hq16, hm⟩ := bd_some hm
        have hA : Ag P S0 S_15 := hA.tr (hrec.2.2.2.1 P S_8 (hA.cl hc) a0 a1 x2 (Ta0) (Ta1)  S_15 hq16)
        cases hm
        exact hA
      · rw [if_neg h12] at hm
        obtain ⟨S_13, hq14, hm⟩ := bd_some hm
        have hA : Ag P S0 S_13 := hA.tr (fr_X10_refuse P n S_8 (hA.cl hc) a1 1 (pI S_8 1003 a1) (Ta1)  S_13 hq14)
        cases hm
        exact hA
    · rw [if_neg h11] at hm
      obtain ⟨S_17, hq18, hm⟩ := bd_some hm
      have hA : Ag P S0 S_17 := hA.tr (hrec.2.2.2.2.1 P S_8 (hA.cl hc) a0 a1 x2 (Ta0) (Ta1)  S_17 hq18)
      cases hm
      exact hA
  · rw [if_neg h7] at hm
    obtain ⟨r21, S_19, hq20, hm⟩ := cb_some hm
    have hA : Ag P S0 S_19 := hA.tr (fr_X10_takeNumber P n S_4 (hA.cl hc) a1 0 999 (Ta1) r21 S_19 hq20)
    obtain ⟨S_22, hq23, hm⟩ := bd_some hm
    have hA : Ag P S0 S_22 := hA.tr (fr_X2_append P n S_19 (hA.cl hc) a0 r21 (Ta0)  S_22 hq23)
    cases hm
    exact hA
set_option maxHeartbeats 1000000 in
set_option maxRecDepth 100000 in
theorem fg_X2_readBracket (n : Nat) (rec : (Nat → Nat → Int32 → pq_S → Option pq_S) × (Nat → Nat → Int32 → pq_S → Option pq_S) × (Nat → Nat → Int32 → pq_S → Option pq_S) × (Nat → Nat → Int32 → pq_S → Option pq_S) × (Nat → Nat → Int32 → pq_S → Option pq_S) × (Nat → Nat → Int32 → Int32 → pq_S → Option pq_S)) (hrec : FG_lawP n rec) (P : Nat → Prop) (S0 : pq_S) (hc : Clo P S0) (a0 : Nat) (a1 : Nat) (x2 : Int32) (Ta0 : P a0) (Ta1 : P a1) (S1 : pq_S) (hm : g_X2_readBracket n rec a0 a1 x2 S0 = some S1) : Ag P S0 S1 := by
  have hA : Ag P S0 S0 := Ag.rf _ _
  rw [g_X2_readBracket] at hm
  by_cases h1 : x2 < 6
  · rw [if_pos h1] at hm
    obtain ⟨S_2, hq3, hm⟩ := bd_some hm
    have hA : Ag P S0 S_2 := hA.tr (fr_X10_takeSign P n S0 (hA.cl hc) a1 40 (Ta1)  S_2 hq3)
    obtain ⟨S_4, hq5, hm⟩ := bd_some hm
    have hA : Ag P S0 S_4 := hA.tr (hrec.1 P S_2 (hA.cl hc) a0 a1 (x2 + (1 : Int32)) (Ta0) (Ta1)  S_4 hq5)
    obtain ⟨S_6, hq7, hm⟩ := bd_some hm
    have hA : Ag P S0 S_6 := hA.tr (fr_X10_takeSign P n S_4 (hA.cl hc) a1 41 (Ta1)  S_6 hq7)
    cases hm
    exact hA
  · rw [if_neg h1] at hm
    obtain ⟨S_8, hq9, hm⟩ := bd_some hm
    have hA : Ag P S0 S_8 := hA.tr (fr_X10_refuse P n S0 (hA.cl hc) a1 3 (pI S0 1003 a1) (Ta1)  S_8 hq9)
    cases hm
    exact hA
set_option maxHeartbeats 1000000 in
set_option maxRecDepth 100000 in
theorem fb_X2_readWord_65 (P : Nat → Prop) (S0 : pq_S) (hc : Clo P S0) (n : Nat) (rec : (Nat → Nat → Int32 → pq_S → Option pq_S) × (Nat → Nat → Int32 → pq_S → Option pq_S) × (Nat → Nat → Int32 → pq_S → Option pq_S) × (Nat → Nat → Int32 → pq_S → Option pq_S) × (Nat → Nat → Int32 → pq_S → Option pq_S) × (Nat → Nat → Int32 → Int32 → pq_S → Option pq_S)) (hrec : FG_lawP n rec) (S1 : pq_S) : ∀ (a0 : Nat) (x3 : Int32) (S : pq_S), Ag P S0 S → P a0 → b_X2_readWord_65 n rec a0 x3 S = some S1 → Ag P S0 S1 := by
  intro a0 x3 S hA Ta0 hm
  rw [b_X2_readWord_65] at hm
  obtain ⟨S_21, hq22, hm⟩ := bd_some hm
  have hA : Ag P S0 S_21 := hA.tr (fr_X2_append P n S (hA.cl hc) a0 ((1000 : Int32) + x3) (Ta0)  S_21 hq22)
  cases hm
  exact hA
set_option maxHeartbeats 1000000 in
set_option maxRecDepth 100000 in
theorem fg_X2_readWord (n : Nat) (rec : (Nat → Nat → Int32 → pq_S → Option pq_S) × (Nat → Nat → Int32 → pq_S → Option pq_S) × (Nat → Nat → Int32 → pq_S → Option pq_S) × (Nat → Nat → Int32 → pq_S → Option pq_S) × (Nat → Nat → Int32 → pq_S → Option pq_S) × (Nat → Nat → Int32 → Int32 → pq_S → Option pq_S)) (hrec : FG_lawP n rec) (P : Nat → Prop) (S0 : pq_S) (hc : Clo P S0) (a0 : Nat) (a1 : Nat) (x2 : Int32) (Ta0 : P a0) (Ta1 : P a1) (S1 : pq_S) (hm : g_X2_readWord n rec a0 a1 x2 S0 = some S1) : Ag P S0 S1 := by
  have hA : Ag P S0 S0 := Ag.rf _ _
  rw [g_X2_readWord] at hm
  obtain ⟨S_1, hq2, hm⟩ := bd_some hm
  have hA : Ag P S0 S_1 := hA.tr (fr_X10_takeWord P n S0 (hA.cl hc) a1 (Ta1)  S_1 hq2)
  obtain ⟨r5, S_3, hq4, hm⟩ := cb_some hm
  have hA : Ag P S0 S_3 := hA.tr (fr_X10_isWord P n S_1 (hA.cl hc) a1 6 (Ta1) r5 S_3 hq4)
  by_cases h6 : r5 = 0
  · rw [if_pos h6] at hm
    obtain ⟨r9, S_7, hq8, hm⟩ := cb_some hm
    have hA : Ag P S0 S_7 := hA.tr (fr_X10_isWord P n S_3 (hA.cl hc) a1 7 (Ta1) r9 S_7 hq8)
    by_cases h10 : r9 = 0
    · rw [if_pos h10] at hm
      obtain ⟨r13, S_11, hq12, hm⟩ := cb_some hm
      have hA : Ag P S0 S_11 := hA.tr (fr_X2_inputNamed P n S_7 (hA.cl hc) a1 (Ta1) r13 S_11 hq12)
      by_cases h14 : r13 = (-1)
      · rw [if_pos h14] at hm
        obtain ⟨S_15, hq16, hm⟩ := bd_some hm
        have hA : Ag P S0 S_15 := hA.tr (fr_X10_refuse P n S_11 (hA.cl hc) a1 1 (pI S_11 1004 a1) (Ta1)  S_15 hq16)
        exact fb_X2_readWord_65 P S0 hc n rec hrec S1 a0 r13 S_15 hA (Ta0) hm
      · rw [if_neg h14] at hm
        exact fb_X2_readWord_65 P S0 hc n rec hrec S1 a0 r13 S_11 hA (Ta0) hm
    · rw [if_neg h10] at hm
      obtain ⟨S_17, hq18, hm⟩ := bd_some hm
      have hA : Ag P S0 S_17 := hA.tr (hrec.2.2.2.2.2 P S_7 (hA.cl hc) a0 a1 x2 2005 (Ta0) (Ta1)  S_17 hq18)
      cases hm
      exact hA
  · rw [if_neg h6] at hm
    obtain ⟨S_19, hq20, hm⟩ := bd_some hm
    have hA : Ag P S0 S_19 := hA.tr (hrec.2.2.2.2.2 P S_3 (hA.cl hc) a0 a1 x2 2004 (Ta0) (Ta1)  S_19 hq20)
    cases hm
    exact hA
set_option maxHeartbeats 1000000 in
set_option maxRecDepth 100000 in
theorem fg_X2_readPair (n : Nat) (rec : (Nat → Nat → Int32 → pq_S → Option pq_S) × (Nat → Nat → Int32 → pq_S → Option pq_S) × (Nat → Nat → Int32 → pq_S → Option pq_S) × (Nat → Nat → Int32 → pq_S → Option pq_S) × (Nat → Nat → Int32 → pq_S → Option pq_S) × (Nat → Nat → Int32 → Int32 → pq_S → Option pq_S)) (hrec : FG_lawP n rec) (P : Nat → Prop) (S0 : pq_S) (hc : Clo P S0) (a0 : Nat) (a1 : Nat) (x2 : Int32) (x3 : Int32) (Ta0 : P a0) (Ta1 : P a1) (S1 : pq_S) (hm : g_X2_readPair n rec a0 a1 x2 x3 S0 = some S1) : Ag P S0 S1 := by
  have hA : Ag P S0 S0 := Ag.rf _ _
  rw [g_X2_readPair] at hm
  by_cases h1 : x2 < 6
  · rw [if_pos h1] at hm
    obtain ⟨S_2, hq3, hm⟩ := bd_some hm
    have hA : Ag P S0 S_2 := hA.tr (fr_X10_takeSign P n S0 (hA.cl hc) a1 91 (Ta1)  S_2 hq3)
    obtain ⟨S_4, hq5, hm⟩ := bd_some hm
    have hA : Ag P S0 S_4 := hA.tr (hrec.1 P S_2 (hA.cl hc) a0 a1 (x2 + (1 : Int32)) (Ta0) (Ta1)  S_4 hq5)
    obtain ⟨S_6, hq7, hm⟩ := bd_some hm
    have hA : Ag P S0 S_6 := hA.tr (fr_X10_takeSign P n S_4 (hA.cl hc) a1 44 (Ta1)  S_6 hq7)
    obtain ⟨S_8, hq9, hm⟩ := bd_some hm
    have hA : Ag P S0 S_8 := hA.tr (hrec.1 P S_6 (hA.cl hc) a0 a1 (x2 + (1 : Int32)) (Ta0) (Ta1)  S_8 hq9)
    obtain ⟨S_10, hq11, hm⟩ := bd_some hm
    have hA : Ag P S0 S_10 := hA.tr (fr_X10_takeSign P n S_8 (hA.cl hc) a1 93 (Ta1)  S_10 hq11)
    obtain ⟨S_12, hq13, hm⟩ := bd_some hm
    have hA : Ag P S0 S_12 := hA.tr (fr_X2_append P n S_10 (hA.cl hc) a0 x3 (Ta0)  S_12 hq13)
    cases hm
    exact hA
  · rw [if_neg h1] at hm
    obtain ⟨S_14, hq15, hm⟩ := bd_some hm
    have hA : Ag P S0 S_14 := hA.tr (fr_X10_refuse P n S0 (hA.cl hc) a1 3 (pI S0 1004 a1) (Ta1)  S_14 hq15)
    cases hm
    exact hA
theorem fh_lawP (n : Nat) : ∀ d : Nat, FG_lawP n (m_lawP_d n d) := by
  intro d
  induction d with
  | zero =>
    exact ⟨(fun _ _ _ _ _ _ _ _ _ hm => by cases hm), (fun _ _ _ _ _ _ _ _ _ hm => by cases hm), (fun _ _ _ _ _ _ _ _ _ hm => by cases hm), (fun _ _ _ _ _ _ _ _ _ hm => by cases hm), (fun _ _ _ _ _ _ _ _ _ hm => by cases hm), (fun _ _ _ _ _ _ _ _ _ _ hm => by cases hm)⟩
  | succ d ih =>
    exact ⟨(fun q0 q1 q2 q3 q4 q5 q6 q7 q8 hm => fg_X2_readSum n _ ih q0 q1 q2 q3 q4 q5 q6 q7 q8 hm), (fun q0 q1 q2 q3 q4 q5 q6 q7 q8 hm => fg_X2_readProduct n _ ih q0 q1 q2 q3 q4 q5 q6 q7 q8 hm), (fun q0 q1 q2 q3 q4 q5 q6 q7 q8 hm => fg_X2_readUnit n _ ih q0 q1 q2 q3 q4 q5 q6 q7 q8 hm), (fun q0 q1 q2 q3 q4 q5 q6 q7 q8 hm => fg_X2_readBracket n _ ih q0 q1 q2 q3 q4 q5 q6 q7 q8 hm), (fun q0 q1 q2 q3 q4 q5 q6 q7 q8 hm => fg_X2_readWord n _ ih q0 q1 q2 q3 q4 q5 q6 q7 q8 hm), (fun q0 q1 q2 q3 q4 q5 q6 q7 q8 q9 hm => fg_X2_readPair n _ ih q0 q1 q2 q3 q4 q5 q6 q7 q8 q9 hm)⟩
theorem fr_X2_readSum (P : Nat → Prop) (n : Nat) (S0 : pq_S) (hc : Clo P S0) (a0 : Nat) (a1 : Nat) (x2 : Int32) (Ta0 : P a0) (Ta1 : P a1) (S1 : pq_S) (hm : m_X2_readSum n a0 a1 x2 S0 = some S1) : Ag P S0 S1 := (fh_lawP n 64).1 P S0 hc a0 a1 x2 Ta0 Ta1 S1 hm
theorem fr_X2_readProduct (P : Nat → Prop) (n : Nat) (S0 : pq_S) (hc : Clo P S0) (a0 : Nat) (a1 : Nat) (x2 : Int32) (Ta0 : P a0) (Ta1 : P a1) (S1 : pq_S) (hm : m_X2_readProduct n a0 a1 x2 S0 = some S1) : Ag P S0 S1 := (fh_lawP n 64).2.1 P S0 hc a0 a1 x2 Ta0 Ta1 S1 hm
theorem fr_X2_readUnit (P : Nat → Prop) (n : Nat) (S0 : pq_S) (hc : Clo P S0) (a0 : Nat) (a1 : Nat) (x2 : Int32) (Ta0 : P a0) (Ta1 : P a1) (S1 : pq_S) (hm : m_X2_readUnit n a0 a1 x2 S0 = some S1) : Ag P S0 S1 := (fh_lawP n 64).2.2.1 P S0 hc a0 a1 x2 Ta0 Ta1 S1 hm
theorem fr_X2_readBracket (P : Nat → Prop) (n : Nat) (S0 : pq_S) (hc : Clo P S0) (a0 : Nat) (a1 : Nat) (x2 : Int32) (Ta0 : P a0) (Ta1 : P a1) (S1 : pq_S) (hm : m_X2_readBracket n a0 a1 x2 S0 = some S1) : Ag P S0 S1 := (fh_lawP n 64).2.2.2.1 P S0 hc a0 a1 x2 Ta0 Ta1 S1 hm
theorem fr_X2_readWord (P : Nat → Prop) (n : Nat) (S0 : pq_S) (hc : Clo P S0) (a0 : Nat) (a1 : Nat) (x2 : Int32) (Ta0 : P a0) (Ta1 : P a1) (S1 : pq_S) (hm : m_X2_readWord n a0 a1 x2 S0 = some S1) : Ag P S0 S1 := (fh_lawP n 64).2.2.2.2.1 P S0 hc a0 a1 x2 Ta0 Ta1 S1 hm
theorem fr_X2_readPair (P : Nat → Prop) (n : Nat) (S0 : pq_S) (hc : Clo P S0) (a0 : Nat) (a1 : Nat) (x2 : Int32) (x3 : Int32) (Ta0 : P a0) (Ta1 : P a1) (S1 : pq_S) (hm : m_X2_readPair n a0 a1 x2 x3 S0 = some S1) : Ag P S0 S1 := (fh_lawP n 64).2.2.2.2.2 P S0 hc a0 a1 x2 x3 Ta0 Ta1 S1 hm
def FG_proP (n : Nat) (rec : (Nat → Nat → Nat → Int32 → pq_S → Option pq_S) × (Nat → Nat → Nat → Int32 → pq_S → Option pq_S) × (Nat → Nat → Nat → Int32 → Int32 → pq_S → Option pq_S)) : Prop := (∀ (P : Nat → Prop) (S0 : pq_S) (_ : Clo P S0) (a0 : Nat) (a1 : Nat) (a2 : Nat) (x3 : Int32) (_Ta0 : P a0) (_Ta1 : P a1) (_Ta2 : P a2) (S1 : pq_S), rec.1 a0 a1 a2 x3 S0 = some S1 → Ag P S0 S1) ∧ (∀ (P : Nat → Prop) (S0 : pq_S) (_ : Clo P S0) (a0 : Nat) (a1 : Nat) (a2 : Nat) (x3 : Int32) (_Ta0 : P a0) (_Ta1 : P a1) (_Ta2 : P a2) (S1 : pq_S), rec.2.1 a0 a1 a2 x3 S0 = some S1 → Ag P S0 S1) ∧ (∀ (P : Nat → Prop) (S0 : pq_S) (_ : Clo P S0) (a0 : Nat) (a1 : Nat) (a2 : Nat) (x3 : Int32) (x4 : Int32) (_Ta0 : P a0) (_Ta1 : P a1) (_Ta2 : P a2) (S1 : pq_S), rec.2.2 a0 a1 a2 x3 x4 S0 = some S1 → Ag P S0 S1)
set_option maxHeartbeats 1000000 in
set_option maxRecDepth 100000 in
theorem fb_X6_readSteps_46 (P : Nat → Prop) (S0 : pq_S) (hc : Clo P S0) (n : Nat) (rec : (Nat → Nat → Nat → Int32 → pq_S → Option pq_S) × (Nat → Nat → Nat → Int32 → pq_S → Option pq_S) × (Nat → Nat → Nat → Int32 → Int32 → pq_S → Option pq_S)) (hrec : FG_proP n rec) (S1 : pq_S) (k2 : Nat → Nat → Nat → Int32 → Int32 → pq_S → Option pq_S) (hk2 : ∀ (a0 : Nat) (a1 : Nat) (a2 : Nat) (x3 : Int32) (x4 : Int32) (S : pq_S), Ag P S0 S → P a0 → P a1 → P a2 → k2 a0 a1 a2 x3 x4 S = some S1 → Ag P S0 S1) : ∀ (a0 : Nat) (a1 : Nat) (a2 : Nat) (x3 : Int32) (x4 : Int32) (S : pq_S), Ag P S0 S → P a0 → P a1 → P a2 → b_X6_readSteps_46 n rec k2 a0 a1 a2 x3 x4 S = some S1 → Ag P S0 S1 := by
  intro a0 a1 a2 x3 x4 S hA Ta0 Ta1 Ta2 hm
  rw [b_X6_readSteps_46] at hm
  obtain ⟨S_18, hq19, hm⟩ := bd_some hm
  have hA : Ag P S0 S_18 := hA.tr (fr_X10_takeSign P n S (hA.cl hc) a1 59 (Ta1)  S_18 hq19)
  exact hk2 a0 a1 a2 x3 (x4 + 1) S_18 hA (Ta0) (Ta1) (Ta2) hm
set_option maxHeartbeats 1000000 in
set_option maxRecDepth 100000 in
theorem fb_X6_readSteps_3 (P : Nat → Prop) (S0 : pq_S) (hc : Clo P S0) (n : Nat) (rec : (Nat → Nat → Nat → Int32 → pq_S → Option pq_S) × (Nat → Nat → Nat → Int32 → pq_S → Option pq_S) × (Nat → Nat → Nat → Int32 → Int32 → pq_S → Option pq_S)) (hrec : FG_proP n rec) (S1 : pq_S) : ∀ (f : Nat) (a0 : Nat) (a1 : Nat) (a2 : Nat) (x3 : Int32) (x4 : Int32) (S : pq_S), Ag P S0 S → P a0 → P a1 → P a2 → b_X6_readSteps_3 n rec f a0 a1 a2 x3 x4 S = some S1 → Ag P S0 S1 := by
  intro f
  induction f with
  | zero =>
    intro a0 a1 a2 x3 x4 S hA Ta0 Ta1 Ta2 hm
    cases hm
  | succ f ih =>
    intro a0 a1 a2 x3 x4 S hA Ta0 Ta1 Ta2 hm
    rw [b_X6_readSteps_3] at hm
    by_cases h1 : 150 < x4
    · rw [if_pos h1] at hm
      cases hm
      exact hA
    · rw [if_neg h1] at hm
      obtain ⟨r4, S_2, hq3, hm⟩ := cb_some hm
      have hA : Ag P S0 S_2 := hA.tr (fr_X10_next P n S (hA.cl hc) a1 (Ta1) r4 S_2 hq3)
      by_cases h5 : r4 = (-1)
      · rw [if_pos h5] at hm
        cases hm
        exact hA
      · rw [if_neg h5] at hm
        obtain ⟨r8, S_6, hq7, hm⟩ := cb_some hm
        have hA : Ag P S0 S_6 := hA.tr (fr_X10_next P n S_2 (hA.cl hc) a1 (Ta1) r8 S_6 hq7)
        by_cases h9 : r8 = 93
        · rw [if_pos h9] at hm
          cases hm
          exact hA
        · rw [if_neg h9] at hm
          obtain ⟨S_10, hq11, hm⟩ := bd_some hm
          have hA : Ag P S0 S_10 := hA.tr (fr_X10_takeWord P n S_6 (hA.cl hc) a1 (Ta1)  S_10 hq11)
          obtain ⟨r14, S_12, hq13, hm⟩ := cb_some hm
          have hA : Ag P S0 S_12 := hA.tr (fr_X10_isWell P n S_10 (hA.cl hc) a1 (Ta1) r14 S_12 hq13)
          by_cases h15 : r14 = 0
          · rw [if_pos h15] at hm
            exact fb_X6_readSteps_46 P S0 hc n rec hrec S1 _ ih a0 a1 a2 x3 x4 S_12 hA (Ta0) (Ta1) (Ta2) hm
          · rw [if_neg h15] at hm
            obtain ⟨S_16, hq17, hm⟩ := bd_some hm
            have hA : Ag P S0 S_16 := hA.tr (hrec.2.1 P S_12 (hA.cl hc) a0 a1 a2 x3 (Ta0) (Ta1) (Ta2)  S_16 hq17)
            exact fb_X6_readSteps_46 P S0 hc n rec hrec S1 _ ih a0 a1 a2 x3 x4 S_16 hA (Ta0) (Ta1) (Ta2) hm
set_option maxHeartbeats 1000000 in
set_option maxRecDepth 100000 in
theorem fg_X6_readSteps (n : Nat) (rec : (Nat → Nat → Nat → Int32 → pq_S → Option pq_S) × (Nat → Nat → Nat → Int32 → pq_S → Option pq_S) × (Nat → Nat → Nat → Int32 → Int32 → pq_S → Option pq_S)) (hrec : FG_proP n rec) (P : Nat → Prop) (S0 : pq_S) (hc : Clo P S0) (a0 : Nat) (a1 : Nat) (a2 : Nat) (x3 : Int32) (Ta0 : P a0) (Ta1 : P a1) (Ta2 : P a2) (S1 : pq_S) (hm : g_X6_readSteps n rec a0 a1 a2 x3 S0 = some S1) : Ag P S0 S1 := by
  have hA : Ag P S0 S0 := Ag.rf _ _
  rw [g_X6_readSteps] at hm
  exact fb_X6_readSteps_3 P S0 hc n rec hrec S1 n a0 a1 a2 x3 0 S0 hA (Ta0) (Ta1) (Ta2) hm
set_option maxHeartbeats 1000000 in
set_option maxRecDepth 100000 in
theorem fg_X6_readStep (n : Nat) (rec : (Nat → Nat → Nat → Int32 → pq_S → Option pq_S) × (Nat → Nat → Nat → Int32 → pq_S → Option pq_S) × (Nat → Nat → Nat → Int32 → Int32 → pq_S → Option pq_S)) (hrec : FG_proP n rec) (P : Nat → Prop) (S0 : pq_S) (hc : Clo P S0) (a0 : Nat) (a1 : Nat) (a2 : Nat) (x3 : Int32) (Ta0 : P a0) (Ta1 : P a1) (Ta2 : P a2) (S1 : pq_S) (hm : g_X6_readStep n rec a0 a1 a2 x3 S0 = some S1) : Ag P S0 S1 := by
  have hA : Ag P S0 S0 := Ag.rf _ _
  rw [g_X6_readStep] at hm
  obtain ⟨q1, hq1, hm⟩ := bd_some hm
  have Tq1 : P q1 := hA.clo hc Ta0 hq1
  obtain ⟨r4, S_2, hq3, hm⟩ := cb_some hm
  have hA : Ag P S0 S_2 := hA.tr (fr_X9_newRow P n S0 (hA.cl hc) q1 (Tq1) r4 S_2 hq3)
  obtain ⟨r7, S_5, hq6, hm⟩ := cb_some hm
  have hA : Ag P S0 S_5 := hA.tr (fr_X10_isWord P n S_2 (hA.cl hc) a1 15 (Ta1) r7 S_5 hq6)
  by_cases h8 : r7 = 0
  · rw [if_pos h8] at hm
    obtain ⟨r11, S_9, hq10, hm⟩ := cb_some hm
    have hA : Ag P S0 S_9 := hA.tr (fr_X10_isWord P n S_5 (hA.cl hc) a1 16 (Ta1) r11 S_9 hq10)
    by_cases h12 : r11 = 0
    · rw [if_pos h12] at hm
      obtain ⟨r15, S_13, hq14, hm⟩ := cb_some hm
      have hA : Ag P S0 S_13 := hA.tr (fr_X10_isWord P n S_9 (hA.cl hc) a1 17 (Ta1) r15 S_13 hq14)
      by_cases h16 : r15 = 0
      · rw [if_pos h16] at hm
        obtain ⟨r19, S_17, hq18, hm⟩ := cb_some hm
        have hA : Ag P S0 S_17 := hA.tr (fr_X10_isWord P n S_13 (hA.cl hc) a1 18 (Ta1) r19 S_17 hq18)
        by_cases h20 : r19 = 0
        · rw [if_pos h20] at hm
          obtain ⟨r23, S_21, hq22, hm⟩ := cb_some hm
          have hA : Ag P S0 S_21 := hA.tr (fr_X10_isWord P n S_17 (hA.cl hc) a1 13 (Ta1) r23 S_21 hq22)
          by_cases h24 : r23 = 0
          · rw [if_pos h24] at hm
            obtain ⟨r27, S_25, hq26, hm⟩ := cb_some hm
            have hA : Ag P S0 S_25 := hA.tr (fr_X10_isWord P n S_21 (hA.cl hc) a1 19 (Ta1) r27 S_25 hq26)
            by_cases h28 : r27 = 0
            · rw [if_pos h28] at hm
              obtain ⟨S_29, hq30, hm⟩ := bd_some hm
              have hA : Ag P S0 S_29 := hA.tr (fr_X10_refuse P n S_25 (hA.cl hc) a1 1 (pI S_25 1004 a1) (Ta1)  S_29 hq30)
              cases hm
              exact hA
            · rw [if_neg h28] at hm
              obtain ⟨S_31, hq32, hm⟩ := bd_some hm
              have hA : Ag P S0 S_31 := hA.tr (hrec.2.2 P S_25 (hA.cl hc) a0 a1 a2 r4 x3 (Ta0) (Ta1) (Ta2)  S_31 hq32)
              cases hm
              exact hA
          · rw [if_neg h24] at hm
            obtain ⟨q33, hq33, hm⟩ := bd_some hm
            have Tq33 : P q33 := hA.clo hc Ta0 hq33
            obtain ⟨S_34, hq35, hm⟩ := bd_some hm
            have hA : Ag P S0 S_34 := hA.tr (fr_X9_put P n S_21 (hA.cl hc) q33 r4 0 4 (Tq33)  S_34 hq35)
            cases hm
            exact hA
        · rw [if_neg h20] at hm
          obtain ⟨q36, hq36, hm⟩ := bd_some hm
          have Tq36 : P q36 := hA.clo hc Ta0 hq36
          obtain ⟨S_37, hq38, hm⟩ := bd_some hm
          have hA : Ag P S0 S_37 := hA.tr (fr_X9_put P n S_17 (hA.cl hc) q36 r4 0 3 (Tq36)  S_37 hq38)
          obtain ⟨q39, hq39, hm⟩ := bd_some hm
          have Tq39 : P q39 := hA.clo hc Ta0 hq39
          obtain ⟨q40, hq40, hm⟩ := bd_some hm
          have Tq40 : P q40 := hA.clo hc Ta2 hq40
          obtain ⟨r43, S_41, hq42, hm⟩ := cb_some hm
          have hA : Ag P S0 S_41 := hA.tr (fr_X10_takeNumber P n S_37 (hA.cl hc) a1 0 ((pI S_37 902 q40) - (1 : Int32)) (Ta1) r43 S_41 hq42)
          obtain ⟨S_44, hq45, hm⟩ := bd_some hm
          have hA : Ag P S0 S_44 := hA.tr (fr_X9_put P n S_41 (hA.cl hc) q39 r4 1 r43 (Tq39)  S_44 hq45)
          obtain ⟨q46, hq46, hm⟩ := bd_some hm
          have Tq46 : P q46 := hA.clo hc Ta0 hq46
          obtain ⟨r49, S_47, hq48, hm⟩ := cb_some hm
          have hA : Ag P S0 S_47 := hA.tr (fr_X10_takeNumber P n S_44 (hA.cl hc) a1 1 9 (Ta1) r49 S_47 hq48)
          obtain ⟨S_50, hq51, hm⟩ := bd_some hm
          have hA : Ag P S0 S_50 := hA.tr (fr_X9_put P n S_47 (hA.cl hc) q46 r4 2 r49 (Tq46)  S_50 hq51)
          cases hm
          exact hA
      · rw [if_neg h16] at hm
        obtain ⟨q52, hq52, hm⟩ := bd_some hm
        have Tq52 : P q52 := hA.clo hc Ta0 hq52
        obtain ⟨S_53, hq54, hm⟩ := bd_some hm
        have hA : Ag P S0 S_53 := hA.tr (fr_X9_put P n S_13 (hA.cl hc) q52 r4 0 2 (Tq52)  S_53 hq54)
        obtain ⟨q55, hq55, hm⟩ := bd_some hm
        have Tq55 : P q55 := hA.clo hc Ta0 hq55
        obtain ⟨q56, hq56, hm⟩ := bd_some hm
        have Tq56 : P q56 := hA.clo hc Ta2 hq56
        obtain ⟨r59, S_57, hq58, hm⟩ := cb_some hm
        have hA : Ag P S0 S_57 := hA.tr (fr_X10_takeNumber P n S_53 (hA.cl hc) a1 0 ((pI S_53 902 q56) - (1 : Int32)) (Ta1) r59 S_57 hq58)
        obtain ⟨S_60, hq61, hm⟩ := bd_some hm
        have hA : Ag P S0 S_60 := hA.tr (fr_X9_put P n S_57 (hA.cl hc) q55 r4 1 r59 (Tq55)  S_60 hq61)
        obtain ⟨q62, hq62, hm⟩ := bd_some hm
        have Tq62 : P q62 := hA.clo hc Ta0 hq62
        obtain ⟨r65, S_63, hq64, hm⟩ := cb_some hm
        have hA : Ag P S0 S_63 := hA.tr (fr_X10_takeNumber P n S_60 (hA.cl hc) a1 1 99 (Ta1) r65 S_63 hq64)
        obtain ⟨S_66, hq67, hm⟩ := bd_some hm
        have hA : Ag P S0 S_66 := hA.tr (fr_X9_put P n S_63 (hA.cl hc) q62 r4 2 r65 (Tq62)  S_66 hq67)
        cases hm
        exact hA
    · rw [if_neg h12] at hm
      obtain ⟨q68, hq68, hm⟩ := bd_some hm
      have Tq68 : P q68 := hA.clo hc Ta0 hq68
      obtain ⟨S_69, hq70, hm⟩ := bd_some hm
      have hA : Ag P S0 S_69 := hA.tr (fr_X9_put P n S_9 (hA.cl hc) q68 r4 0 1 (Tq68)  S_69 hq70)
      obtain ⟨q71, hq71, hm⟩ := bd_some hm
      have Tq71 : P q71 := hA.clo hc Ta0 hq71
      obtain ⟨q72, hq72, hm⟩ := bd_some hm
      have Tq72 : P q72 := hA.clo hc Ta2 hq72
      obtain ⟨r75, S_73, hq74, hm⟩ := cb_some hm
      have hA : Ag P S0 S_73 := hA.tr (fr_X10_takeNumber P n S_69 (hA.cl hc) a1 0 ((pI S_69 902 q72) - (1 : Int32)) (Ta1) r75 S_73 hq74)
      obtain ⟨S_76, hq77, hm⟩ := bd_some hm
      have hA : Ag P S0 S_76 := hA.tr (fr_X9_put P n S_73 (hA.cl hc) q71 r4 1 r75 (Tq71)  S_76 hq77)
      cases hm
      exact hA
  · rw [if_neg h8] at hm
    obtain ⟨S_78, hq79, hm⟩ := bd_some hm
    have hA : Ag P S0 S_78 := hA.tr (fr_X6_readCarry P n S_5 (hA.cl hc) a0 a1 a2 r4 (Ta0) (Ta1) (Ta2)  S_78 hq79)
    cases hm
    exact hA
set_option maxHeartbeats 1000000 in
set_option maxRecDepth 100000 in
theorem fg_X6_readAgain (n : Nat) (rec : (Nat → Nat → Nat → Int32 → pq_S → Option pq_S) × (Nat → Nat → Nat → Int32 → pq_S → Option pq_S) × (Nat → Nat → Nat → Int32 → Int32 → pq_S → Option pq_S)) (hrec : FG_proP n rec) (P : Nat → Prop) (S0 : pq_S) (hc : Clo P S0) (a0 : Nat) (a1 : Nat) (a2 : Nat) (x3 : Int32) (x4 : Int32) (Ta0 : P a0) (Ta1 : P a1) (Ta2 : P a2) (S1 : pq_S) (hm : g_X6_readAgain n rec a0 a1 a2 x3 x4 S0 = some S1) : Ag P S0 S1 := by
  have hA : Ag P S0 S0 := Ag.rf _ _
  rw [g_X6_readAgain] at hm
  by_cases h1 : x4 < 6
  · rw [if_pos h1] at hm
    obtain ⟨q2, hq2, hm⟩ := bd_some hm
    have Tq2 : P q2 := hA.clo hc Ta0 hq2
    obtain ⟨S_3, hq4, hm⟩ := bd_some hm
    have hA : Ag P S0 S_3 := hA.tr (fr_X9_put P n S0 (hA.cl hc) q2 x3 0 5 (Tq2)  S_3 hq4)
    obtain ⟨q5, hq5, hm⟩ := bd_some hm
    have Tq5 : P q5 := hA.clo hc Ta0 hq5
    obtain ⟨r8, S_6, hq7, hm⟩ := cb_some hm
    have hA : Ag P S0 S_6 := hA.tr (fr_X10_takeNumber P n S_3 (hA.cl hc) a1 0 20 (Ta1) r8 S_6 hq7)
    obtain ⟨S_9, hq10, hm⟩ := bd_some hm
    have hA : Ag P S0 S_9 := hA.tr (fr_X9_put P n S_6 (hA.cl hc) q5 x3 1 r8 (Tq5)  S_9 hq10)
    obtain ⟨S_11, hq12, hm⟩ := bd_some hm
    have hA : Ag P S0 S_11 := hA.tr (fr_X10_takeSign P n S_9 (hA.cl hc) a1 91 (Ta1)  S_11 hq12)
    obtain ⟨S_13, hq14, hm⟩ := bd_some hm
    have hA : Ag P S0 S_13 := hA.tr (hrec.1 P S_11 (hA.cl hc) a0 a1 a2 (x4 + (1 : Int32)) (Ta0) (Ta1) (Ta2)  S_13 hq14)
    obtain ⟨S_15, hq16, hm⟩ := bd_some hm
    have hA : Ag P S0 S_15 := hA.tr (fr_X10_takeSign P n S_13 (hA.cl hc) a1 93 (Ta1)  S_15 hq16)
    obtain ⟨q17, hq17, hm⟩ := bd_some hm
    have Tq17 : P q17 := hA.clo hc Ta0 hq17
    obtain ⟨q18, hq18, hm⟩ := bd_some hm
    have Tq18 : P q18 := hA.clo hc Ta0 hq18
    obtain ⟨S_19, hq20, hm⟩ := bd_some hm
    have hA : Ag P S0 S_19 := hA.tr (fr_X9_put P n S_15 (hA.cl hc) q17 x3 2 (pI S_15 902 q18) (Tq17)  S_19 hq20)
    cases hm
    exact hA
  · rw [if_neg h1] at hm
    obtain ⟨S_21, hq22, hm⟩ := bd_some hm
    have hA : Ag P S0 S_21 := hA.tr (fr_X10_refuse P n S0 (hA.cl hc) a1 3 (pI S0 1004 a1) (Ta1)  S_21 hq22)
    cases hm
    exact hA
theorem fh_proP (n : Nat) : ∀ d : Nat, FG_proP n (m_proP_d n d) := by
  intro d
  induction d with
  | zero =>
    exact ⟨(fun _ _ _ _ _ _ _ _ _ _ _ hm => by cases hm), (fun _ _ _ _ _ _ _ _ _ _ _ hm => by cases hm), (fun _ _ _ _ _ _ _ _ _ _ _ _ hm => by cases hm)⟩
  | succ d ih =>
    exact ⟨(fun q0 q1 q2 q3 q4 q5 q6 q7 q8 q9 q10 hm => fg_X6_readSteps n _ ih q0 q1 q2 q3 q4 q5 q6 q7 q8 q9 q10 hm), (fun q0 q1 q2 q3 q4 q5 q6 q7 q8 q9 q10 hm => fg_X6_readStep n _ ih q0 q1 q2 q3 q4 q5 q6 q7 q8 q9 q10 hm), (fun q0 q1 q2 q3 q4 q5 q6 q7 q8 q9 q10 q11 hm => fg_X6_readAgain n _ ih q0 q1 q2 q3 q4 q5 q6 q7 q8 q9 q10 q11 hm)⟩
theorem fr_X6_readSteps (P : Nat → Prop) (n : Nat) (S0 : pq_S) (hc : Clo P S0) (a0 : Nat) (a1 : Nat) (a2 : Nat) (x3 : Int32) (Ta0 : P a0) (Ta1 : P a1) (Ta2 : P a2) (S1 : pq_S) (hm : m_X6_readSteps n a0 a1 a2 x3 S0 = some S1) : Ag P S0 S1 := (fh_proP n 64).1 P S0 hc a0 a1 a2 x3 Ta0 Ta1 Ta2 S1 hm
theorem fr_X6_readStep (P : Nat → Prop) (n : Nat) (S0 : pq_S) (hc : Clo P S0) (a0 : Nat) (a1 : Nat) (a2 : Nat) (x3 : Int32) (Ta0 : P a0) (Ta1 : P a1) (Ta2 : P a2) (S1 : pq_S) (hm : m_X6_readStep n a0 a1 a2 x3 S0 = some S1) : Ag P S0 S1 := (fh_proP n 64).2.1 P S0 hc a0 a1 a2 x3 Ta0 Ta1 Ta2 S1 hm
theorem fr_X6_readAgain (P : Nat → Prop) (n : Nat) (S0 : pq_S) (hc : Clo P S0) (a0 : Nat) (a1 : Nat) (a2 : Nat) (x3 : Int32) (x4 : Int32) (Ta0 : P a0) (Ta1 : P a1) (Ta2 : P a2) (S1 : pq_S) (hm : m_X6_readAgain n a0 a1 a2 x3 x4 S0 = some S1) : Ag P S0 S1 := (fh_proP n 64).2.2 P S0 hc a0 a1 a2 x3 x4 Ta0 Ta1 Ta2 S1 hm
set_option maxHeartbeats 1000000 in
set_option maxRecDepth 100000 in
theorem fb_X12_work_155 (P : Nat → Prop) (S0 : pq_S) (hc : Clo P S0) (n : Nat) (r : Int32) (S1 : pq_S) : ∀ (a0 : Nat) (S : pq_S), Ag P S0 S → P a0 → b_X12_work_155 n a0 S = some (r, S1) → Ag P S0 S1 := by
  intro a0 S hA Ta0 hm
  rw [b_X12_work_155] at hm
  have hA : Ag P S0 (sI S 1241 a0 ((pI S 1241 a0) + (1 : Int32))) := hA.sI Ta0
  obtain ⟨q38, hq38, hm⟩ := bd_some hm
  have Tq38 : P q38 := hA.clo hc Ta0 hq38
  obtain ⟨q39, hq39, hm⟩ := bd_some hm
  have Tq39 : P q39 := hA.clo hc Ta0 hq39
  obtain ⟨S_40, hq41, hm⟩ := bd_some hm
  have hA : Ag P S0 S_40 := hA.tr (fr_X12_copies P n (sI S 1241 a0 ((pI S 1241 a0) + (1 : Int32))) (hA.cl hc) a0 q38 q39 50 (Ta0) (Tq38) (Tq39)  S_40 hq41)
  have hA : Ag P S0 (sI S_40 1243 a0 0) := hA.sI Ta0
  have hA : Ag P S0 (sI (sI S_40 1243 a0 0) 1244 a0 0) := hA.sI Ta0
  have hA : Ag P S0 (sI (sI (sI S_40 1243 a0 0) 1244 a0 0) 1245 a0 0) := hA.sI Ta0
  obtain ⟨S_42, hq43, hm⟩ := bd_some hm
  have hA : Ag P S0 S_42 := hA.tr (fr_X12_goesSteps P n (sI (sI (sI S_40 1243 a0 0) 1244 a0 0) 1245 a0 0) (hA.cl hc) a0 0 (pI (sI (sI (sI S_40 1243 a0 0) 1244 a0 0) 1245 a0 0) 1240 a0) (Ta0)  S_42 hq43)
  obtain ⟨q44, hq44, hm⟩ := bd_some hm
  have Tq44 : P q44 := hA.clo hc Ta0 hq44
  obtain ⟨q45, hq45, hm⟩ := bd_some hm
  have Tq45 : P q45 := hA.clo hc Ta0 hq45
  obtain ⟨S_46, hq47, hm⟩ := bd_some hm
  have hA : Ag P S0 S_46 := hA.tr (fr_X12_copies P n S_42 (hA.cl hc) a0 q44 q45 50 (Ta0) (Tq44) (Tq45)  S_46 hq47)
  have hA : Ag P S0 (sI S_46 1242 a0 (pI S_46 1245 a0)) := hA.sI Ta0
  cases hm
  exact hA
set_option maxHeartbeats 1000000 in
set_option maxRecDepth 100000 in
theorem fb_X12_work_123 (P : Nat → Prop) (S0 : pq_S) (hc : Clo P S0) (n : Nat) (r : Int32) (S1 : pq_S) : ∀ (f : Nat) (a0 : Nat) (x3 : Int32) (S : pq_S), Ag P S0 S → P a0 → b_X12_work_123 n f a0 x3 S = some (r, S1) → Ag P S0 S1 := by
  intro f
  induction f with
  | zero =>
    intro a0 x3 S hA Ta0 hm
    cases hm
  | succ f ih =>
    intro a0 x3 S hA Ta0 hm
    rw [b_X12_work_123] at hm
    by_cases h32 : 50 ≤ x3
    · rw [if_pos h32] at hm
      exact fb_X12_work_155 P S0 hc n r S1 a0 S hA (Ta0) hm
    · rw [if_neg h32] at hm
      obtain ⟨q33, hq33, hm⟩ := bd_some hm
      have Tq33 : P q33 := hA.clo hc Ta0 hq33
      obtain ⟨q34, hq34, hm⟩ := bd_some hm
      have Tq34 : P q34 := hA.clo hc Ta0 hq34
      obtain ⟨hi35, hm⟩ := ck_some hm
      obtain ⟨hi36, hm⟩ := ck_some hm
      have hA : Ag P S0 (sA S q33 (Int32.toNatClampNeg (((50 : Int32) * (pI S 1241 a0)) + x3)) (pA S q34 (Int32.toNatClampNeg x3))) := hA.sA Tq33
      obtain ⟨S_37, eS_37, hm⟩ := lt_some hm
      have hA : Ag P S0 S_37 := by rw [eS_37]; exact hA
      exact ih a0 (x3 + 1) S_37 hA (Ta0) hm
set_option maxHeartbeats 1000000 in
set_option maxRecDepth 100000 in
theorem fb_X12_work_89 (P : Nat → Prop) (S0 : pq_S) (hc : Clo P S0) (n : Nat) (r : Int32) (S1 : pq_S) : ∀ (a0 : Nat) (S : pq_S), Ag P S0 S → P a0 → b_X12_work_89 n a0 S = some (r, S1) → Ag P S0 S1 := by
  intro a0 S hA Ta0 hm
  rw [b_X12_work_89] at hm
  obtain ⟨r26, S_24, hq25, hm⟩ := cb_some hm
  have hA : Ag P S0 S_24 := hA.tr (fr_X12_result P n S (hA.cl hc) a0 0 (Ta0) r26 S_24 hq25)
  by_cases h27 : (pI S_24 1205 a0) = (-1)
  · rw [if_pos h27] at hm
    obtain ⟨q28, hq28, hm⟩ := bd_some hm
    have Tq28 : P q28 := hA.clo hc Ta0 hq28
    obtain ⟨q29, hq29, hm⟩ := bd_some hm
    have Tq29 : P q29 := hA.clo hc Ta0 hq29
    obtain ⟨S_30, hq31, hm⟩ := bd_some hm
    have hA : Ag P S0 S_30 := hA.tr (fr_X12_copies P n S_24 (hA.cl hc) a0 q28 q29 (pI S_24 1240 a0) (Ta0) (Tq28) (Tq29)  S_30 hq31)
    exact fb_X12_work_123 P S0 hc n r S1 n a0 0 S_30 hA (Ta0) hm
  · rw [if_neg h27] at hm
    cases hm
    exact hA
set_option maxHeartbeats 1000000 in
set_option maxRecDepth 100000 in
theorem fb_X12_work_68 (P : Nat → Prop) (S0 : pq_S) (hc : Clo P S0) (n : Nat) (r : Int32) (S1 : pq_S) : ∀ (f : Nat) (a0 : Nat) (S : pq_S), Ag P S0 S → P a0 → b_X12_work_68 n f a0 S = some (r, S1) → Ag P S0 S1 := by
  intro f
  induction f with
  | zero =>
    intro a0 S hA Ta0 hm
    cases hm
  | succ f ih =>
    intro a0 S hA Ta0 hm
    rw [b_X12_work_68] at hm
    obtain ⟨r16, S_14, hq15, hm⟩ := cb_some hm
    have hA : Ag P S0 S_14 := hA.tr (fr_X12_fine P n S (hA.cl hc) a0 (Ta0) r16 S_14 hq15)
    by_cases h17 : r16 = 0
    · rw [if_pos h17] at hm
      exact fb_X12_work_89 P S0 hc n r S1 a0 S_14 hA (Ta0) hm
    · rw [if_neg h17] at hm
      obtain ⟨r20, S_18, hq19, hm⟩ := cb_some hm
      have hA : Ag P S0 S_18 := hA.tr (fr_X12_isMore P n S_14 (hA.cl hc) a0 (Ta0) r20 S_18 hq19)
      by_cases h21 : r20 = 0
      · rw [if_pos h21] at hm
        exact fb_X12_work_89 P S0 hc n r S1 a0 S_18 hA (Ta0) hm
      · rw [if_neg h21] at hm
        obtain ⟨S_22, hq23, hm⟩ := bd_some hm
        have hA : Ag P S0 S_22 := hA.tr (fr_X12_readStep P n S_18 (hA.cl hc) a0 (Ta0)  S_22 hq23)
        exact ih a0 S_22 hA (Ta0) hm
set_option maxHeartbeats 1000000 in
set_option maxRecDepth 100000 in
theorem fb_X12_work_30 (P : Nat → Prop) (S0 : pq_S) (hc : Clo P S0) (n : Nat) (r : Int32) (S1 : pq_S) : ∀ (a0 : Nat) (x1 : Int32) (b0 : Nat) (z1 : Int32) (S : pq_S), Ag P S0 S → P a0 → P b0 → b_X12_work_30 n a0 x1 b0 z1 S = some (r, S1) → Ag P S0 S1 := by
  intro a0 x1 b0 z1 S hA Ta0 Tb0 hm
  rw [b_X12_work_30] at hm
  obtain ⟨r6, S_4, hq5, hm⟩ := cb_some hm
  have hA : Ag P S0 S_4 := hA.tr (fr_X12_may P n S (hA.cl hc) b0 z1 1 1 (Tb0) r6 S_4 hq5)
  by_cases h7 : r6 = 0
  · rw [if_pos h7] at hm
    cases hm
    exact hA
  · rw [if_neg h7] at hm
    obtain ⟨S_8, hq9, hm⟩ := bd_some hm
    have hA : Ag P S0 S_8 := hA.tr (fr_X12_begins P n S_4 (hA.cl hc) a0 x1 (Ta0)  S_8 hq9)
    by_cases h10 : (pI S_8 1241 a0) = 16
    · rw [if_pos h10] at hm
      obtain ⟨r13, S_11, hq12, hm⟩ := cb_some hm
      have hA : Ag P S0 S_11 := hA.tr (fr_X12_result P n S_8 (hA.cl hc) a0 0 (Ta0) r13 S_11 hq12)
      cases hm
      exact hA
    · rw [if_neg h10] at hm
      have hA : Ag P S0 (sI S_8 1240 a0 0) := hA.sI Ta0
      exact fb_X12_work_68 P S0 hc n r S1 n a0 (sI S_8 1240 a0 0) hA (Ta0) hm
set_option maxHeartbeats 1000000 in
set_option maxRecDepth 100000 in
theorem fb_X12_work_29 (P : Nat → Prop) (S0 : pq_S) (hc : Clo P S0) (n : Nat) (r : Int32) (S1 : pq_S) : ∀ (a0 : Nat) (x1 : Int32) (b0 : Nat) (S : pq_S), Ag P S0 S → P a0 → P b0 → b_X12_work_29 n a0 x1 b0 S = some (r, S1) → Ag P S0 S1 := by
  intro a0 x1 b0 S hA Ta0 Tb0 hm
  rw [b_X12_work_29] at hm
  exact fb_X12_work_30 P S0 hc n r S1 a0 x1 b0 0 S hA (Ta0) (Tb0) hm
set_option maxHeartbeats 1000000 in
set_option maxRecDepth 100000 in
theorem fr_X12_work (P : Nat → Prop) (n : Nat) (S0 : pq_S) (hc : Clo P S0) (a0 : Nat) (x1 : Int32) (Ta0 : P a0) (r : Int32) (S1 : pq_S) (hm : m_X12_work n a0 x1 S0 = some (r, S1)) : Ag P S0 S1 := by
  have hA : Ag P S0 S0 := Ag.rf _ _
  rw [m_X12_work] at hm
  have hA : Ag P S0 (sI S0 1200 a0 0) := hA.sI Ta0
  by_cases h1 : x1 < 0
  · rw [if_pos h1] at hm
    exact fb_X12_work_29 P S0 hc n r S1 a0 x1 a0 (sI S0 1200 a0 0) hA (Ta0) (Ta0) hm
  · rw [if_neg h1] at hm
    by_cases h2 : (pI (sI S0 1200 a0 0) 1202 a0) < x1
    · rw [if_pos h2] at hm
      exact fb_X12_work_29 P S0 hc n r S1 a0 x1 a0 (sI S0 1200 a0 0) hA (Ta0) (Ta0) hm
    · rw [if_neg h2] at hm
      by_cases h3 : 150 < x1
      · rw [if_pos h3] at hm
        exact fb_X12_work_29 P S0 hc n r S1 a0 x1 a0 (sI S0 1200 a0 0) hA (Ta0) (Ta0) hm
      · rw [if_neg h3] at hm
        exact fb_X12_work_30 P S0 hc n r S1 a0 x1 a0 1 (sI S0 1200 a0 0) hA (Ta0) (Ta0) hm
set_option maxHeartbeats 1000000 in
set_option maxRecDepth 100000 in
theorem fb_X12_seam_49 (P : Nat → Prop) (S0 : pq_S) (hc : Clo P S0) (n : Nat) (r : Int32) (S1 : pq_S) : ∀ (a0 : Nat) (x1 : Int32) (x2 : Int32) (x3 : Int32) (x4 : Int32) (b0 : Nat) (z1 : Int32) (S : pq_S), Ag P S0 S → P a0 → P b0 → b_X12_seam_49 n a0 x1 x2 x3 x4 b0 z1 S = some (r, S1) → Ag P S0 S1 := by
  intro a0 x1 x2 x3 x4 b0 z1 S hA Ta0 Tb0 hm
  rw [b_X12_seam_49] at hm
  obtain ⟨r19, S_17, hq18, hm⟩ := cb_some hm
  have hA : Ag P S0 S_17 := hA.tr (fr_X12_may P n S (hA.cl hc) b0 z1 2 1 (Tb0) r19 S_17 hq18)
  by_cases h20 : r19 = 0
  · rw [if_pos h20] at hm
    cases hm
    exact hA
  · rw [if_neg h20] at hm
    obtain ⟨S_21, hq22, hm⟩ := bd_some hm
    have hA : Ag P S0 S_21 := hA.tr (fr_X12_take P n S_17 (hA.cl hc) a0 (Ta0)  S_21 hq22)
    have hA : Ag P S0 (sI S_21 1265 a0 (-1000000)) := hA.sI Ta0
    obtain ⟨S_23, hq24, hm⟩ := bd_some hm
    have hA : Ag P S0 S_23 := hA.tr (fr_X12_seams P n (sI S_21 1265 a0 (-1000000)) (hA.cl hc) a0 x1 x2 x3 0 0 (Ta0)  S_23 hq24)
    by_cases h25 : x4 = 0
    · rw [if_pos h25] at hm
      cases hm
      exact hA
    · rw [if_neg h25] at hm
      cases hm
      exact hA
set_option maxHeartbeats 1000000 in
set_option maxRecDepth 100000 in
theorem fb_X12_seam_48 (P : Nat → Prop) (S0 : pq_S) (hc : Clo P S0) (n : Nat) (r : Int32) (S1 : pq_S) : ∀ (a0 : Nat) (x1 : Int32) (x2 : Int32) (x3 : Int32) (x4 : Int32) (b0 : Nat) (S : pq_S), Ag P S0 S → P a0 → P b0 → b_X12_seam_48 n a0 x1 x2 x3 x4 b0 S = some (r, S1) → Ag P S0 S1 := by
  intro a0 x1 x2 x3 x4 b0 S hA Ta0 Tb0 hm
  rw [b_X12_seam_48] at hm
  exact fb_X12_seam_49 P S0 hc n r S1 a0 x1 x2 x3 x4 b0 0 S hA (Ta0) (Tb0) hm
set_option maxHeartbeats 1000000 in
set_option maxRecDepth 100000 in
theorem fr_X12_seam (P : Nat → Prop) (n : Nat) (S0 : pq_S) (hc : Clo P S0) (a0 : Nat) (x1 : Int32) (x2 : Int32) (x3 : Int32) (x4 : Int32) (Ta0 : P a0) (r : Int32) (S1 : pq_S) (hm : m_X12_seam n a0 x1 x2 x3 x4 S0 = some (r, S1)) : Ag P S0 S1 := by
  have hA : Ag P S0 S0 := Ag.rf _ _
  rw [m_X12_seam] at hm
  have hA : Ag P S0 (sI S0 1200 a0 0) := hA.sI Ta0
  obtain ⟨r3, S_1, hq2, hm⟩ := cb_some hm
  have hA : Ag P S0 S_1 := hA.tr (fr_X12_isMine P n (sI S0 1200 a0 0) (hA.cl hc) a0 x1 1 (Ta0) r3 S_1 hq2)
  by_cases h4 : r3 = 0
  · rw [if_pos h4] at hm
    cases hm
    exact hA
  · rw [if_neg h4] at hm
    obtain ⟨r7, S_5, hq6, hm⟩ := cb_some hm
    have hA : Ag P S0 S_5 := hA.tr (fr_X12_within P n S_1 (hA.cl hc) x2 1 4  r7 S_5 hq6)
    by_cases h8 : r7 = 0
    · rw [if_pos h8] at hm
      exact fb_X12_seam_48 P S0 hc n r S1 a0 x1 x2 x3 x4 a0 S_5 hA (Ta0) (Ta0) hm
    · rw [if_neg h8] at hm
      obtain ⟨r11, S_9, hq10, hm⟩ := cb_some hm
      have hA : Ag P S0 S_9 := hA.tr (fr_X12_within P n S_5 (hA.cl hc) x3 0 9  r11 S_9 hq10)
      by_cases h12 : r11 = 0
      · rw [if_pos h12] at hm
        exact fb_X12_seam_48 P S0 hc n r S1 a0 x1 x2 x3 x4 a0 S_9 hA (Ta0) (Ta0) hm
      · rw [if_neg h12] at hm
        obtain ⟨r15, S_13, hq14, hm⟩ := cb_some hm
        have hA : Ag P S0 S_13 := hA.tr (fr_X12_within P n S_9 (hA.cl hc) x4 0 1  r15 S_13 hq14)
        by_cases h16 : r15 = 0
        · rw [if_pos h16] at hm
          exact fb_X12_seam_48 P S0 hc n r S1 a0 x1 x2 x3 x4 a0 S_13 hA (Ta0) (Ta0) hm
        · rw [if_neg h16] at hm
          exact fb_X12_seam_49 P S0 hc n r S1 a0 x1 x2 x3 x4 a0 1 S_13 hA (Ta0) (Ta0) hm
set_option maxHeartbeats 1000000 in
set_option maxRecDepth 100000 in
theorem fb_X0_read_103 (P : Nat → Prop) (S0 : pq_S) (hc : Clo P S0) (n : Nat) (S1 : pq_S) (k4 : Nat → Nat → Int32 → Int32 → pq_S → Option pq_S) (hk4 : ∀ (a0 : Nat) (a1 : Nat) (x2 : Int32) (x3 : Int32) (S : pq_S), Ag P S0 S → P a0 → P a1 → k4 a0 a1 x2 x3 S = some S1 → Ag P S0 S1) : ∀ (a0 : Nat) (a1 : Nat) (x2 : Int32) (x3 : Int32) (S : pq_S), Ag P S0 S → P a0 → P a1 → b_X0_read_103 n k4 a0 a1 x2 x3 S = some S1 → Ag P S0 S1 := by
  intro a0 a1 x2 x3 S hA Ta0 Ta1 hm
  rw [b_X0_read_103] at hm
  exact hk4 a0 a1 x2 (x3 + 1) S hA (Ta0) (Ta1) hm
set_option maxHeartbeats 1000000 in
set_option maxRecDepth 100000 in
theorem fb_X0_read_52 (P : Nat → Prop) (S0 : pq_S) (hc : Clo P S0) (n : Nat) (S1 : pq_S) (k4 : Nat → Nat → Int32 → Int32 → pq_S → Option pq_S) (hk4 : ∀ (a0 : Nat) (a1 : Nat) (x2 : Int32) (x3 : Int32) (S : pq_S), Ag P S0 S → P a0 → P a1 → k4 a0 a1 x2 x3 S = some S1 → Ag P S0 S1) : ∀ (a0 : Nat) (a1 : Nat) (x2 : Int32) (x3 : Int32) (x5 : Int32) (S : pq_S), Ag P S0 S → P a0 → P a1 → b_X0_read_52 n k4 a0 a1 x2 x3 x5 S = some S1 → Ag P S0 S1 := by
  intro a0 a1 x2 x3 x5 S hA Ta0 Ta1 hm
  rw [b_X0_read_52] at hm
  obtain ⟨r19, S_17, hq18, hm⟩ := cb_some hm
  have hA : Ag P S0 S_17 := hA.tr (fr_X10_takeNumber P n S (hA.cl hc) a1 0 99 (Ta1) r19 S_17 hq18)
  obtain ⟨S_20, hq21, hm⟩ := bd_some hm
  have hA : Ag P S0 S_20 := hA.tr (fr_X10_takeSign P n S_17 (hA.cl hc) a1 59 (Ta1)  S_20 hq21)
  obtain ⟨r24, S_22, hq23, hm⟩ := cb_some hm
  have hA : Ag P S0 S_22 := hA.tr (fr_X10_isWell P n S_20 (hA.cl hc) a1 (Ta1) r24 S_22 hq23)
  by_cases h25 : r24 = 0
  · rw [if_pos h25] at hm
    exact fb_X0_read_103 P S0 hc n S1 _ hk4 a0 a1 x2 x3 S_22 hA (Ta0) (Ta1) hm
  · rw [if_neg h25] at hm
    obtain ⟨q26, hq26, hm⟩ := bd_some hm
    have Tq26 : P q26 := hA.clo hc Ta0 hq26
    by_cases h27 : (Int32.ofNat (pN S_22 q26)) ≤ x5
    · rw [if_pos h27] at hm
      exact fb_X0_read_103 P S0 hc n S1 _ hk4 a0 a1 x2 x3 S_22 hA (Ta0) (Ta1) hm
    · rw [if_neg h27] at hm
      obtain ⟨q28, hq28, hm⟩ := bd_some hm
      have Tq28 : P q28 := hA.clo hc Ta0 hq28
      obtain ⟨hi29, hm⟩ := ck_some hm
      have hA : Ag P S0 (sA S_22 q28 (Int32.toNatClampNeg x5) r19) := hA.sA Tq28
      have hA : Ag P S0 (sI (sA S_22 q28 (Int32.toNatClampNeg x5) r19) 1 a0 ((pI (sA S_22 q28 (Int32.toNatClampNeg x5) r19) 1 a0) + (1 : Int32))) := hA.sI Ta0
      obtain ⟨S_30, eS_30, hm⟩ := lt_some hm
      have hA : Ag P S0 S_30 := by rw [eS_30]; exact hA
      exact fb_X0_read_103 P S0 hc n S1 _ hk4 a0 a1 x2 x3 S_30 hA (Ta0) (Ta1) hm
set_option maxHeartbeats 1000000 in
set_option maxRecDepth 100000 in
theorem fb_X0_read_6 (P : Nat → Prop) (S0 : pq_S) (hc : Clo P S0) (n : Nat) (S1 : pq_S) : ∀ (f : Nat) (a0 : Nat) (a1 : Nat) (x2 : Int32) (x3 : Int32) (S : pq_S), Ag P S0 S → P a0 → P a1 → b_X0_read_6 n f a0 a1 x2 x3 S = some S1 → Ag P S0 S1 := by
  intro f
  induction f with
  | zero =>
    intro a0 a1 x2 x3 S hA Ta0 Ta1 hm
    cases hm
  | succ f ih =>
    intro a0 a1 x2 x3 S hA Ta0 Ta1 hm
    rw [b_X0_read_6] at hm
    by_cases h3 : 100 < x3
    · rw [if_pos h3] at hm
      cases hm
      exact hA
    · rw [if_neg h3] at hm
      obtain ⟨r6, S_4, hq5, hm⟩ := cb_some hm
      have hA : Ag P S0 S_4 := hA.tr (fr_X10_next P n S (hA.cl hc) a1 (Ta1) r6 S_4 hq5)
      by_cases h7 : r6 = (-1)
      · rw [if_pos h7] at hm
        cases hm
        exact hA
      · rw [if_neg h7] at hm
        obtain ⟨r10, S_8, hq9, hm⟩ := cb_some hm
        have hA : Ag P S0 S_8 := hA.tr (fr_X10_takeNumber P n S_4 (hA.cl hc) a1 0 (x2 - (1 : Int32)) (Ta1) r10 S_8 hq9)
        obtain ⟨r13, S_11, hq12, hm⟩ := cb_some hm
        have hA : Ag P S0 S_11 := hA.tr (fr_X10_isWell P n S_8 (hA.cl hc) a1 (Ta1) r13 S_11 hq12)
        by_cases h14 : r13 = 0
        · rw [if_pos h14] at hm
          exact fb_X0_read_52 P S0 hc n S1 _ ih a0 a1 x2 x3 r10 S_11 hA (Ta0) (Ta1) hm
        · rw [if_neg h14] at hm
          obtain ⟨S_15, hq16, hm⟩ := bd_some hm
          have hA : Ag P S0 S_15 := hA.tr (fr_X0_begin P n S_11 (hA.cl hc) a0 a1 r10 (pI S_4 1003 a1) (Ta0) (Ta1)  S_15 hq16)
          exact fb_X0_read_52 P S0 hc n S1 _ ih a0 a1 x2 x3 r10 S_15 hA (Ta0) (Ta1) hm
set_option maxHeartbeats 1000000 in
set_option maxRecDepth 100000 in
theorem fr_X0_read (P : Nat → Prop) (n : Nat) (S0 : pq_S) (hc : Clo P S0) (a0 : Nat) (a1 : Nat) (x2 : Int32) (Ta0 : P a0) (Ta1 : P a1) (S1 : pq_S) (hm : m_X0_read n a0 a1 x2 S0 = some S1) : Ag P S0 S1 := by
  have hA : Ag P S0 S0 := Ag.rf _ _
  rw [m_X0_read] at hm
  obtain ⟨S_1, hq2, hm⟩ := bd_some hm
  have hA : Ag P S0 S_1 := hA.tr (fr_X0_clear P n S0 (hA.cl hc) a0 (Ta0)  S_1 hq2)
  exact fb_X0_read_6 P S0 hc n S1 n a0 a1 x2 0 S_1 hA (Ta0) (Ta1) hm
set_option maxHeartbeats 1000000 in
set_option maxRecDepth 100000 in
theorem fb_X0_isRight_49 (P : Nat → Prop) (S0 : pq_S) (hc : Clo P S0) (n : Nat) (r : Int32) (S1 : pq_S) (k2 : Nat → Nat → Int32 → Int32 → pq_S → Option (Int32 × pq_S)) (hk2 : ∀ (a0 : Nat) (a1 : Nat) (x2 : Int32) (x3 : Int32) (S : pq_S), Ag P S0 S → P a0 → P a1 → k2 a0 a1 x2 x3 S = some (r, S1) → Ag P S0 S1) : ∀ (a0 : Nat) (a1 : Nat) (x2 : Int32) (x3 : Int32) (S : pq_S), Ag P S0 S → P a0 → P a1 → b_X0_isRight_49 n k2 a0 a1 x2 x3 S = some (r, S1) → Ag P S0 S1 := by
  intro a0 a1 x2 x3 S hA Ta0 Ta1 hm
  rw [b_X0_isRight_49] at hm
  exact hk2 a0 a1 x2 (x3 + 1) S hA (Ta0) (Ta1) hm
set_option maxHeartbeats 1000000 in
set_option maxRecDepth 100000 in
theorem fb_X0_isRight_2 (P : Nat → Prop) (S0 : pq_S) (hc : Clo P S0) (n : Nat) (r : Int32) (S1 : pq_S) : ∀ (f : Nat) (a0 : Nat) (a1 : Nat) (x2 : Int32) (x3 : Int32) (S : pq_S), Ag P S0 S → P a0 → P a1 → b_X0_isRight_2 n f a0 a1 x2 x3 S = some (r, S1) → Ag P S0 S1 := by
  intro f
  induction f with
  | zero =>
    intro a0 a1 x2 x3 S hA Ta0 Ta1 hm
    cases hm
  | succ f ih =>
    intro a0 a1 x2 x3 S hA Ta0 Ta1 hm
    rw [b_X0_isRight_2] at hm
    obtain ⟨q1, hq1, hm⟩ := bd_some hm
    have Tq1 : P q1 := hA.clo hc Ta1 hq1
    by_cases h2 : (pI S 902 q1) ≤ x3
    · rw [if_pos h2] at hm
      cases hm
      exact hA
    · rw [if_neg h2] at hm
      obtain ⟨q3, hq3, hm⟩ := bd_some hm
      have Tq3 : P q3 := hA.clo hc Ta0 hq3
      by_cases h4 : (Int32.ofNat (pN S q3)) ≤ x3
      · rw [if_pos h4] at hm
        cases hm
        exact hA
      · rw [if_neg h4] at hm
        obtain ⟨q5, hq5, hm⟩ := bd_some hm
        have Tq5 : P q5 := hA.clo hc Ta0 hq5
        obtain ⟨hi6, hm⟩ := ck_some hm
        by_cases h7 : (pA S q5 (Int32.toNatClampNeg x3)) = (-1)
        · rw [if_pos h7] at hm
          exact fb_X0_isRight_49 P S0 hc n r S1 _ ih a0 a1 x2 x3 S hA (Ta0) (Ta1) hm
        · rw [if_neg h7] at hm
          obtain ⟨q8, hq8, hm⟩ := bd_some hm
          have Tq8 : P q8 := hA.clo hc Ta0 hq8
          obtain ⟨hi9, hm⟩ := ck_some hm
          obtain ⟨r12, S_10, hq11, hm⟩ := cb_some hm
          have hA : Ag P S0 S_10 := hA.tr (fr_X1_missing P n S (hA.cl hc) a1 x3 x2 (Ta1) r12 S_10 hq11)
          by_cases h13 : (pA S q8 (Int32.toNatClampNeg x3)) = r12
          · rw [if_pos h13] at hm
            exact fb_X0_isRight_49 P S0 hc n r S1 _ ih a0 a1 x2 x3 S_10 hA (Ta0) (Ta1) hm
          · rw [if_neg h13] at hm
            cases hm
            exact hA
set_option maxHeartbeats 1000000 in
set_option maxRecDepth 100000 in
theorem fr_X0_isRight (P : Nat → Prop) (n : Nat) (S0 : pq_S) (hc : Clo P S0) (a0 : Nat) (a1 : Nat) (x2 : Int32) (Ta0 : P a0) (Ta1 : P a1) (r : Int32) (S1 : pq_S) (hm : m_X0_isRight n a0 a1 x2 S0 = some (r, S1)) : Ag P S0 S1 := by
  have hA : Ag P S0 S0 := Ag.rf _ _
  rw [m_X0_isRight] at hm
  exact fb_X0_isRight_2 P S0 hc n r S1 n a0 a1 x2 0 S0 hA (Ta0) (Ta1) hm
set_option maxHeartbeats 1000000 in
set_option maxRecDepth 100000 in
theorem fb_X0_leakySets_74 (P : Nat → Prop) (S0 : pq_S) (hc : Clo P S0) (n : Nat) (r : Int32) (S1 : pq_S) (k18 : Nat → Nat → Int32 → Int32 → Int32 → Int32 → Int32 → Int32 → Int32 → pq_S → Option (Int32 × pq_S)) (hk18 : ∀ (a0 : Nat) (a1 : Nat) (x2 : Int32) (x3 : Int32) (x4 : Int32) (x5 : Int32) (x6 : Int32) (x7 : Int32) (x8 : Int32) (S : pq_S), Ag P S0 S → P a0 → P a1 → k18 a0 a1 x2 x3 x4 x5 x6 x7 x8 S = some (r, S1) → Ag P S0 S1) : ∀ (a0 : Nat) (a1 : Nat) (x2 : Int32) (x3 : Int32) (x4 : Int32) (x5 : Int32) (x6 : Int32) (x7 : Int32) (x8 : Int32) (S : pq_S), Ag P S0 S → P a0 → P a1 → b_X0_leakySets_74 n k18 a0 a1 x2 x3 x4 x5 x6 x7 x8 S = some (r, S1) → Ag P S0 S1 := by
  intro a0 a1 x2 x3 x4 x5 x6 x7 x8 S hA Ta0 Ta1 hm
  rw [b_X0_leakySets_74] at hm
  exact hk18 a0 a1 x2 x3 x4 x5 x6 x7 (x8 + 1) S hA (Ta0) (Ta1) hm
set_option maxHeartbeats 1000000 in
set_option maxRecDepth 100000 in
theorem fb_X0_leakySets_80 (P : Nat → Prop) (S0 : pq_S) (hc : Clo P S0) (n : Nat) (r : Int32) (S1 : pq_S) : ∀ (x2 : Int32) (x3 : Int32) (x4 : Int32) (x5 : Int32) (x6 : Int32) (x7 : Int32) (S : pq_S), Ag P S0 S → b_X0_leakySets_80 n x2 x3 x4 x5 x6 x7 S = some (r, S1) → Ag P S0 S1 := by
  intro x2 x3 x4 x5 x6 x7 S hA hm
  rw [b_X0_leakySets_80] at hm
  by_cases h9 : x2 = 0
  · rw [if_pos h9] at hm
    cases hm
    exact hA
  · rw [if_neg h9] at hm
    by_cases h10 : x2 = 1
    · rw [if_pos h10] at hm
      cases hm
      exact hA
    · rw [if_neg h10] at hm
      by_cases h11 : x4 = 0
      · rw [if_pos h11] at hm
        cases hm
        exact hA
      · rw [if_neg h11] at hm
        by_cases h12 : x2 = 2
        · rw [if_pos h12] at hm
          cases hm
          exact hA
        · rw [if_neg h12] at hm
          cases hm
          exact hA
set_option maxHeartbeats 1000000 in
set_option maxRecDepth 100000 in
theorem fb_X0_leakySets_55 (P : Nat → Prop) (S0 : pq_S) (hc : Clo P S0) (n : Nat) (r : Int32) (S1 : pq_S) (k18 : Nat → Nat → Int32 → Int32 → Int32 → Int32 → Int32 → Int32 → Int32 → pq_S → Option (Int32 × pq_S)) (hk18 : ∀ (a0 : Nat) (a1 : Nat) (x2 : Int32) (x3 : Int32) (x4 : Int32) (x5 : Int32) (x6 : Int32) (x7 : Int32) (x8 : Int32) (S : pq_S), Ag P S0 S → P a0 → P a1 → k18 a0 a1 x2 x3 x4 x5 x6 x7 x8 S = some (r, S1) → Ag P S0 S1) : ∀ (a0 : Nat) (a1 : Nat) (x2 : Int32) (x3 : Int32) (x4 : Int32) (x6 : Int32) (x7 : Int32) (x8 : Int32) (z0 : Int32) (S : pq_S), Ag P S0 S → P a0 → P a1 → b_X0_leakySets_55 n k18 a0 a1 x2 x3 x4 x6 x7 x8 z0 S = some (r, S1) → Ag P S0 S1 := by
  intro a0 a1 x2 x3 x4 x6 x7 x8 z0 S hA Ta0 Ta1 hm
  rw [b_X0_leakySets_55] at hm
  exact fb_X0_leakySets_74 P S0 hc n r S1 _ hk18 a0 a1 x2 x3 (x4 + 1) z0 (x6 &&& x8) (x7 ||| x8) x8 S hA (Ta0) (Ta1) hm
set_option maxHeartbeats 1000000 in
set_option maxRecDepth 100000 in
theorem fb_X0_leakySets_27 (P : Nat → Prop) (S0 : pq_S) (hc : Clo P S0) (n : Nat) (r : Int32) (S1 : pq_S) : ∀ (f : Nat) (a0 : Nat) (a1 : Nat) (x2 : Int32) (x3 : Int32) (x4 : Int32) (x5 : Int32) (x6 : Int32) (x7 : Int32) (x8 : Int32) (S : pq_S), Ag P S0 S → P a0 → P a1 → b_X0_leakySets_27 n f a0 a1 x2 x3 x4 x5 x6 x7 x8 S = some (r, S1) → Ag P S0 S1 := by
  intro f
  induction f with
  | zero =>
    intro a0 a1 x2 x3 x4 x5 x6 x7 x8 S hA Ta0 Ta1 hm
    cases hm
  | succ f ih =>
    intro a0 a1 x2 x3 x4 x5 x6 x7 x8 S hA Ta0 Ta1 hm
    rw [b_X0_leakySets_27] at hm
    by_cases h3 : x3 < x8
    · rw [if_pos h3] at hm
      exact fb_X0_leakySets_80 P S0 hc n r S1 x2 x3 x4 x5 x6 x7 S hA  hm
    · rw [if_neg h3] at hm
      obtain ⟨r6, S_4, hq5, hm⟩ := cb_some hm
      have hA : Ag P S0 S_4 := hA.tr (fr_X0_isRight P n S (hA.cl hc) a0 a1 x8 (Ta0) (Ta1) r6 S_4 hq5)
      by_cases h7 : r6 = 0
      · rw [if_pos h7] at hm
        exact fb_X0_leakySets_74 P S0 hc n r S1 _ ih a0 a1 x2 x3 x4 x5 x6 x7 x8 S_4 hA (Ta0) (Ta1) hm
      · rw [if_neg h7] at hm
        by_cases h8 : x4 = 0
        · rw [if_pos h8] at hm
          exact fb_X0_leakySets_55 P S0 hc n r S1 _ ih a0 a1 x2 x3 x4 x6 x7 x8 x8 S_4 hA (Ta0) (Ta1) hm
        · rw [if_neg h8] at hm
          exact fb_X0_leakySets_55 P S0 hc n r S1 _ ih a0 a1 x2 x3 x4 x6 x7 x8 x5 S_4 hA (Ta0) (Ta1) hm
set_option maxHeartbeats 1000000 in
set_option maxRecDepth 100000 in
theorem fr_X0_leakySets (P : Nat → Prop) (n : Nat) (S0 : pq_S) (hc : Clo P S0) (a0 : Nat) (a1 : Nat) (x2 : Int32) (Ta0 : P a0) (Ta1 : P a1) (r : Int32) (S1 : pq_S) (hm : m_X0_leakySets n a0 a1 x2 S0 = some (r, S1)) : Ag P S0 S1 := by
  have hA : Ag P S0 S0 := Ag.rf _ _
  rw [m_X0_leakySets] at hm
  obtain ⟨q1, hq1, hm⟩ := bd_some hm
  have Tq1 : P q1 := hA.clo hc Ta1 hq1
  obtain ⟨v2, ev2, hm⟩ := lt_some hm
  exact fb_X0_leakySets_27 P S0 hc n r S1 n a0 a1 x2 v2 0 (-1) v2 0 0 S0 hA (Ta0) (Ta1) hm
set_option maxHeartbeats 1000000 in
set_option maxRecDepth 100000 in
theorem fr_X1_readPlace (P : Nat → Prop) (n : Nat) (S0 : pq_S) (hc : Clo P S0) (a0 : Nat) (a1 : Nat) (x2 : Int32) (Ta0 : P a0) (Ta1 : P a1) (S1 : pq_S) (hm : m_X1_readPlace n a0 a1 x2 S0 = some S1) : Ag P S0 S1 := by
  have hA : Ag P S0 S0 := Ag.rf _ _
  rw [m_X1_readPlace] at hm
  obtain ⟨q1, hq1, hm⟩ := bd_some hm
  have Tq1 : P q1 := hA.clo hc Ta0 hq1
  obtain ⟨r4, S_2, hq3, hm⟩ := cb_some hm
  have hA : Ag P S0 S_2 := hA.tr (fr_X1_beginRow P n S0 (hA.cl hc) a1 q1 x2 (Ta1) (Tq1) r4 S_2 hq3)
  obtain ⟨q5, hq5, hm⟩ := bd_some hm
  have Tq5 : P q5 := hA.clo hc Ta0 hq5
  obtain ⟨r8, S_6, hq7, hm⟩ := cb_some hm
  have hA : Ag P S0 S_6 := hA.tr (fr_X10_takeNumber P n S_2 (hA.cl hc) a1 0 40 (Ta1) r8 S_6 hq7)
  obtain ⟨S_9, hq10, hm⟩ := bd_some hm
  have hA : Ag P S0 S_9 := hA.tr (fr_X9_put P n S_6 (hA.cl hc) q5 r4 0 r8 (Tq5)  S_9 hq10)
  obtain ⟨q11, hq11, hm⟩ := bd_some hm
  have Tq11 : P q11 := hA.clo hc Ta0 hq11
  obtain ⟨r14, S_12, hq13, hm⟩ := cb_some hm
  have hA : Ag P S0 S_12 := hA.tr (fr_X10_takeNumber P n S_9 (hA.cl hc) a1 0 99 (Ta1) r14 S_12 hq13)
  obtain ⟨S_15, hq16, hm⟩ := bd_some hm
  have hA : Ag P S0 S_15 := hA.tr (fr_X9_put P n S_12 (hA.cl hc) q11 r4 1 r14 (Tq11)  S_15 hq16)
  obtain ⟨q17, hq17, hm⟩ := bd_some hm
  have Tq17 : P q17 := hA.clo hc Ta0 hq17
  obtain ⟨r20, S_18, hq19, hm⟩ := cb_some hm
  have hA : Ag P S0 S_18 := hA.tr (fr_X10_takeNumber P n S_15 (hA.cl hc) a1 0 99 (Ta1) r20 S_18 hq19)
  obtain ⟨S_21, hq22, hm⟩ := bd_some hm
  have hA : Ag P S0 S_21 := hA.tr (fr_X9_put P n S_18 (hA.cl hc) q17 r4 2 r20 (Tq17)  S_21 hq22)
  obtain ⟨q23, hq23, hm⟩ := bd_some hm
  have Tq23 : P q23 := hA.clo hc Ta0 hq23
  obtain ⟨r26, S_24, hq25, hm⟩ := cb_some hm
  have hA : Ag P S0 S_24 := hA.tr (fr_X10_takeNumber P n S_21 (hA.cl hc) a1 0 99 (Ta1) r26 S_24 hq25)
  obtain ⟨S_27, hq28, hm⟩ := bd_some hm
  have hA : Ag P S0 S_27 := hA.tr (fr_X9_put P n S_24 (hA.cl hc) q23 r4 3 r26 (Tq23)  S_27 hq28)
  cases hm
  exact hA
set_option maxHeartbeats 1000000 in
set_option maxRecDepth 100000 in
theorem fr_X1_readWant (P : Nat → Prop) (n : Nat) (S0 : pq_S) (hc : Clo P S0) (a0 : Nat) (a1 : Nat) (x2 : Int32) (Ta0 : P a0) (Ta1 : P a1) (S1 : pq_S) (hm : m_X1_readWant n a0 a1 x2 S0 = some S1) : Ag P S0 S1 := by
  have hA : Ag P S0 S0 := Ag.rf _ _
  rw [m_X1_readWant] at hm
  obtain ⟨q1, hq1, hm⟩ := bd_some hm
  have Tq1 : P q1 := hA.clo hc Ta0 hq1
  obtain ⟨r4, S_2, hq3, hm⟩ := cb_some hm
  have hA : Ag P S0 S_2 := hA.tr (fr_X1_beginRow P n S0 (hA.cl hc) a1 q1 x2 (Ta1) (Tq1) r4 S_2 hq3)
  obtain ⟨q5, hq5, hm⟩ := bd_some hm
  have Tq5 : P q5 := hA.clo hc Ta0 hq5
  obtain ⟨q6, hq6, hm⟩ := bd_some hm
  have Tq6 : P q6 := hA.clo hc Ta0 hq6
  obtain ⟨r9, S_7, hq8, hm⟩ := cb_some hm
  have hA : Ag P S0 S_7 := hA.tr (fr_X10_takeNumber P n S_2 (hA.cl hc) a1 0 ((pI S_2 902 q6) - (1 : Int32)) (Ta1) r9 S_7 hq8)
  obtain ⟨S_10, hq11, hm⟩ := bd_some hm
  have hA : Ag P S0 S_10 := hA.tr (fr_X9_put P n S_7 (hA.cl hc) q5 r4 0 r9 (Tq5)  S_10 hq11)
  obtain ⟨q12, hq12, hm⟩ := bd_some hm
  have Tq12 : P q12 := hA.clo hc Ta0 hq12
  obtain ⟨r15, S_13, hq14, hm⟩ := cb_some hm
  have hA : Ag P S0 S_13 := hA.tr (fr_X10_takeNumber P n S_10 (hA.cl hc) a1 1 12 (Ta1) r15 S_13 hq14)
  obtain ⟨S_16, hq17, hm⟩ := bd_some hm
  have hA : Ag P S0 S_16 := hA.tr (fr_X9_put P n S_13 (hA.cl hc) q12 r4 1 r15 (Tq12)  S_16 hq17)
  obtain ⟨q18, hq18, hm⟩ := bd_some hm
  have Tq18 : P q18 := hA.clo hc Ta0 hq18
  obtain ⟨r21, S_19, hq20, hm⟩ := cb_some hm
  have hA : Ag P S0 S_19 := hA.tr (fr_X10_takeNumber P n S_16 (hA.cl hc) a1 0 1 (Ta1) r21 S_19 hq20)
  obtain ⟨S_22, hq23, hm⟩ := bd_some hm
  have hA : Ag P S0 S_22 := hA.tr (fr_X9_put P n S_19 (hA.cl hc) q18 r4 2 r21 (Tq18)  S_22 hq23)
  obtain ⟨q24, hq24, hm⟩ := bd_some hm
  have Tq24 : P q24 := hA.clo hc Ta0 hq24
  obtain ⟨r27, S_25, hq26, hm⟩ := cb_some hm
  have hA : Ag P S0 S_25 := hA.tr (fr_X10_takeNumber P n S_22 (hA.cl hc) a1 0 99 (Ta1) r27 S_25 hq26)
  obtain ⟨S_28, hq29, hm⟩ := bd_some hm
  have hA : Ag P S0 S_28 := hA.tr (fr_X9_put P n S_25 (hA.cl hc) q24 r4 3 r27 (Tq24)  S_28 hq29)
  cases hm
  exact hA
set_option maxHeartbeats 1000000 in
set_option maxRecDepth 100000 in
theorem fr_X1_readMine (P : Nat → Prop) (n : Nat) (S0 : pq_S) (hc : Clo P S0) (a0 : Nat) (a1 : Nat) (x2 : Int32) (Ta0 : P a0) (Ta1 : P a1) (S1 : pq_S) (hm : m_X1_readMine n a0 a1 x2 S0 = some S1) : Ag P S0 S1 := by
  have hA : Ag P S0 S0 := Ag.rf _ _
  rw [m_X1_readMine] at hm
  obtain ⟨q1, hq1, hm⟩ := bd_some hm
  have Tq1 : P q1 := hA.clo hc Ta0 hq1
  obtain ⟨r4, S_2, hq3, hm⟩ := cb_some hm
  have hA : Ag P S0 S_2 := hA.tr (fr_X1_beginRow P n S0 (hA.cl hc) a1 q1 x2 (Ta1) (Tq1) r4 S_2 hq3)
  obtain ⟨q5, hq5, hm⟩ := bd_some hm
  have Tq5 : P q5 := hA.clo hc Ta0 hq5
  obtain ⟨q6, hq6, hm⟩ := bd_some hm
  have Tq6 : P q6 := hA.clo hc Ta0 hq6
  obtain ⟨r9, S_7, hq8, hm⟩ := cb_some hm
  have hA : Ag P S0 S_7 := hA.tr (fr_X10_takeNumber P n S_2 (hA.cl hc) a1 0 ((pI S_2 902 q6) - (1 : Int32)) (Ta1) r9 S_7 hq8)
  obtain ⟨S_10, hq11, hm⟩ := bd_some hm
  have hA : Ag P S0 S_10 := hA.tr (fr_X9_put P n S_7 (hA.cl hc) q5 r4 0 r9 (Tq5)  S_10 hq11)
  obtain ⟨q12, hq12, hm⟩ := bd_some hm
  have Tq12 : P q12 := hA.clo hc Ta0 hq12
  obtain ⟨r15, S_13, hq14, hm⟩ := cb_some hm
  have hA : Ag P S0 S_13 := hA.tr (fr_X10_takeNumber P n S_10 (hA.cl hc) a1 0 400 (Ta1) r15 S_13 hq14)
  obtain ⟨S_16, hq17, hm⟩ := bd_some hm
  have hA : Ag P S0 S_16 := hA.tr (fr_X9_put P n S_13 (hA.cl hc) q12 r4 1 r15 (Tq12)  S_16 hq17)
  obtain ⟨q18, hq18, hm⟩ := bd_some hm
  have Tq18 : P q18 := hA.clo hc Ta0 hq18
  obtain ⟨r21, S_19, hq20, hm⟩ := cb_some hm
  have hA : Ag P S0 S_19 := hA.tr (fr_X10_takeNumber P n S_16 (hA.cl hc) a1 0 11 (Ta1) r21 S_19 hq20)
  obtain ⟨S_22, hq23, hm⟩ := bd_some hm
  have hA : Ag P S0 S_22 := hA.tr (fr_X9_put P n S_19 (hA.cl hc) q18 r4 2 r21 (Tq18)  S_22 hq23)
  cases hm
  exact hA
set_option maxHeartbeats 1000000 in
set_option maxRecDepth 100000 in
theorem fr_X1_readMoon (P : Nat → Prop) (n : Nat) (S0 : pq_S) (hc : Clo P S0) (a0 : Nat) (a1 : Nat) (x2 : Int32) (Ta0 : P a0) (Ta1 : P a1) (S1 : pq_S) (hm : m_X1_readMoon n a0 a1 x2 S0 = some S1) : Ag P S0 S1 := by
  have hA : Ag P S0 S0 := Ag.rf _ _
  rw [m_X1_readMoon] at hm
  obtain ⟨q1, hq1, hm⟩ := bd_some hm
  have Tq1 : P q1 := hA.clo hc Ta0 hq1
  obtain ⟨r4, S_2, hq3, hm⟩ := cb_some hm
  have hA : Ag P S0 S_2 := hA.tr (fr_X1_beginRow P n S0 (hA.cl hc) a1 q1 x2 (Ta1) (Tq1) r4 S_2 hq3)
  obtain ⟨r7, S_5, hq6, hm⟩ := cb_some hm
  have hA : Ag P S0 S_5 := hA.tr (fr_X10_takeNumber P n S_2 (hA.cl hc) a1 1 30 (Ta1) r7 S_5 hq6)
  obtain ⟨q8, hq8, hm⟩ := bd_some hm
  have Tq8 : P q8 := hA.clo hc Ta0 hq8
  obtain ⟨S_9, hq10, hm⟩ := bd_some hm
  have hA : Ag P S0 S_9 := hA.tr (fr_X9_put P n S_5 (hA.cl hc) q8 r4 0 r7 (Tq8)  S_9 hq10)
  obtain ⟨q11, hq11, hm⟩ := bd_some hm
  have Tq11 : P q11 := hA.clo hc Ta0 hq11
  obtain ⟨r14, S_12, hq13, hm⟩ := cb_some hm
  have hA : Ag P S0 S_12 := hA.tr (fr_X10_takeNumber P n S_9 (hA.cl hc) a1 0 (r7 - (1 : Int32)) (Ta1) r14 S_12 hq13)
  obtain ⟨S_15, hq16, hm⟩ := bd_some hm
  have hA : Ag P S0 S_15 := hA.tr (fr_X9_put P n S_12 (hA.cl hc) q11 r4 1 r14 (Tq11)  S_15 hq16)
  cases hm
  exact hA
set_option maxHeartbeats 1000000 in
set_option maxRecDepth 100000 in
theorem fr_X2_read (P : Nat → Prop) (n : Nat) (S0 : pq_S) (hc : Clo P S0) (a0 : Nat) (a1 : Nat) (Ta0 : P a0) (Ta1 : P a1) (S1 : pq_S) (hm : m_X2_read n a0 a1 S0 = some S1) : Ag P S0 S1 := by
  have hA : Ag P S0 S0 := Ag.rf _ _
  rw [m_X2_read] at hm
  have hA : Ag P S0 (sI S0 203 a0 0) := hA.sI Ta0
  obtain ⟨S_1, hq2, hm⟩ := bd_some hm
  have hA : Ag P S0 S_1 := hA.tr (fr_X2_readSum P n (sI S0 203 a0 0) (hA.cl hc) a0 a1 0 (Ta0) (Ta1)  S_1 hq2)
  obtain ⟨r5, S_3, hq4, hm⟩ := cb_some hm
  have hA : Ag P S0 S_3 := hA.tr (fr_X10_next P n S_1 (hA.cl hc) a1 (Ta1) r5 S_3 hq4)
  by_cases h6 : r5 = (-1)
  · rw [if_pos h6] at hm
    cases hm
    exact hA
  · rw [if_neg h6] at hm
    obtain ⟨S_7, hq8, hm⟩ := bd_some hm
    have hA : Ag P S0 S_7 := hA.tr (fr_X10_refuse P n S_3 (hA.cl hc) a1 1 (pI S_3 1003 a1) (Ta1)  S_7 hq8)
    cases hm
    exact hA
set_option maxHeartbeats 1000000 in
set_option maxRecDepth 100000 in
theorem fb_X3_weigh_36 (P : Nat → Prop) (S0 : pq_S) (hc : Clo P S0) (n : Nat) (S1 : pq_S) : ∀ (f : Nat) (a2 : Nat) (x3 : Int32) (S : pq_S), Ag P S0 S → P a2 → b_X3_weigh_36 n f a2 x3 S = some S1 → Ag P S0 S1 := by
  intro f
  induction f with
  | zero =>
    intro a2 x3 S hA Ta2 hm
    cases hm
  | succ f ih =>
    intro a2 x3 S hA Ta2 hm
    rw [b_X3_weigh_36] at hm
    by_cases h11 : (Int32.ofNat (pN S a2)) ≤ x3
    · rw [if_pos h11] at hm
      cases hm
      exact hA
    · rw [if_neg h11] at hm
      obtain ⟨hi12, hm⟩ := ck_some hm
      obtain ⟨hi13, hm⟩ := ck_some hm
      obtain ⟨hi14, hm⟩ := ck_some hm
      have hA : Ag P S0 (sA S a2 (Int32.toNatClampNeg x3) (if (pA S a2 (Int32.toNatClampNeg x3)) < (pA S a2 (Int32.toNatClampNeg (x3 - (1 : Int32)))) then (pA S a2 (Int32.toNatClampNeg (x3 - (1 : Int32)))) else (pA S a2 (Int32.toNatClampNeg x3)))) := hA.sA Ta2
      obtain ⟨S_15, eS_15, hm⟩ := lt_some hm
      have hA : Ag P S0 S_15 := by rw [eS_15]; exact hA
      exact ih a2 (x3 + 1) S_15 hA (Ta2) hm
set_option maxHeartbeats 1000000 in
set_option maxRecDepth 100000 in
theorem fr_X3_weigh (P : Nat → Prop) (n : Nat) (S0 : pq_S) (hc : Clo P S0) (a0 : Nat) (x1 : Int32) (a2 : Nat) (Ta0 : P a0) (Ta2 : P a2) (S1 : pq_S) (hm : m_X3_weigh n a0 x1 a2 S0 = some S1) : Ag P S0 S1 := by
  have hA : Ag P S0 S0 := Ag.rf _ _
  rw [m_X3_weigh] at hm
  obtain ⟨S_1, hq2, hm⟩ := bd_some hm
  have hA : Ag P S0 S_1 := hA.tr (fr_J7_fill_53178 P n S0 (hA.cl hc) a2 4095 (Ta2)  S_1 hq2)
  obtain ⟨q3, hq3, hm⟩ := bd_some hm
  have Tq3 : P q3 := hA.clo hc Ta0 hq3
  obtain ⟨q4, hq4, hm⟩ := bd_some hm
  have Tq4 : P q4 := hA.clo hc Tq3 hq4
  obtain ⟨q5, hq5, hm⟩ := bd_some hm
  have Tq5 : P q5 := hA.clo hc Tq4 hq5
  obtain ⟨r8, S_6, hq7, hm⟩ := cb_some hm
  have hA : Ag P S0 S_6 := hA.tr (fr_X9_at P n S_1 (hA.cl hc) q5 x1 1 (Tq5) r8 S_6 hq7)
  obtain ⟨S_9, hq10, hm⟩ := bd_some hm
  have hA : Ag P S0 S_9 := hA.tr (fr_X3_tryWants P n S_6 (hA.cl hc) a0 x1 0 a2 0 (-r8) 4095 (Ta0) (Ta2)  S_9 hq10)
  exact fb_X3_weigh_36 P S0 hc n S1 n a2 1 S_9 hA (Ta2) hm
set_option maxHeartbeats 1000000 in
set_option maxRecDepth 100000 in
theorem fb_X3_bestWorth_60 (P : Nat → Prop) (S0 : pq_S) (hc : Clo P S0) (n : Nat) (r : Int32) (S1 : pq_S) (k4 : Nat → Int32 → Int32 → Int32 → Int32 → pq_S → Option (Int32 × pq_S)) (hk4 : ∀ (a0 : Nat) (x1 : Int32) (x2 : Int32) (x3 : Int32) (x4 : Int32) (S : pq_S), Ag P S0 S → P a0 → k4 a0 x1 x2 x3 x4 S = some (r, S1) → Ag P S0 S1) : ∀ (a0 : Nat) (x1 : Int32) (x2 : Int32) (x3 : Int32) (x4 : Int32) (z0 : Int32) (z1 : Int32) (S : pq_S), Ag P S0 S → P a0 → b_X3_bestWorth_60 n k4 a0 x1 x2 x3 x4 z0 z1 S = some (r, S1) → Ag P S0 S1 := by
  intro a0 x1 x2 x3 x4 z0 z1 S hA Ta0 hm
  rw [b_X3_bestWorth_60] at hm
  obtain ⟨q15, hq15, hm⟩ := bd_some hm
  have Tq15 : P q15 := hA.clo hc Ta0 hq15
  obtain ⟨r18, S_16, hq17, hm⟩ := cb_some hm
  have hA : Ag P S0 S_16 := hA.tr (fr_X3_bestBy P n S (hA.cl hc) q15 (z0 + z1) (Tq15) r18 S_16 hq17)
  obtain ⟨r21, S_19, hq20, hm⟩ := cb_some hm
  have hA : Ag P S0 S_19 := hA.tr (fr_X3_worthOf P n S_16 (hA.cl hc) r18  r21 S_19 hq20)
  exact hk4 a0 x1 x2 (x3 + r21) (x4 + 1) S_19 hA (Ta0) hm
set_option maxHeartbeats 1000000 in
set_option maxRecDepth 100000 in
theorem fb_X3_bestWorth_5 (P : Nat → Prop) (S0 : pq_S) (hc : Clo P S0) (n : Nat) (r : Int32) (S1 : pq_S) : ∀ (f : Nat) (a0 : Nat) (x1 : Int32) (x2 : Int32) (x3 : Int32) (x4 : Int32) (S : pq_S), Ag P S0 S → P a0 → b_X3_bestWorth_5 n f a0 x1 x2 x3 x4 S = some (r, S1) → Ag P S0 S1 := by
  intro f
  induction f with
  | zero =>
    intro a0 x1 x2 x3 x4 S hA Ta0 hm
    cases hm
  | succ f ih =>
    intro a0 x1 x2 x3 x4 S hA Ta0 hm
    rw [b_X3_bestWorth_5] at hm
    obtain ⟨q1, hq1, hm⟩ := bd_some hm
    have Tq1 : P q1 := hA.clo hc Ta0 hq1
    obtain ⟨q2, hq2, hm⟩ := bd_some hm
    have Tq2 : P q2 := hA.clo hc Tq1 hq2
    obtain ⟨q3, hq3, hm⟩ := bd_some hm
    have Tq3 : P q3 := hA.clo hc Tq2 hq3
    by_cases h4 : (pI S 902 q3) ≤ x4
    · rw [if_pos h4] at hm
      cases hm
      exact hA
    · rw [if_neg h4] at hm
      obtain ⟨q5, hq5, hm⟩ := bd_some hm
      have Tq5 : P q5 := hA.clo hc Ta0 hq5
      obtain ⟨S_6, hq7, hm⟩ := bd_some hm
      have hA : Ag P S0 S_6 := hA.tr (fr_X3_weigh P n S (hA.cl hc) a0 x4 q5 (Ta0) (Tq5)  S_6 hq7)
      obtain ⟨q8, hq8, hm⟩ := bd_some hm
      have Tq8 : P q8 := hA.clo hc Ta0 hq8
      obtain ⟨q9, hq9, hm⟩ := bd_some hm
      have Tq9 : P q9 := hA.clo hc Tq8 hq9
      obtain ⟨q10, hq10, hm⟩ := bd_some hm
      have Tq10 : P q10 := hA.clo hc Tq9 hq10
      obtain ⟨r13, S_11, hq12, hm⟩ := cb_some hm
      have hA : Ag P S0 S_11 := hA.tr (fr_X9_at P n S_6 (hA.cl hc) q10 x4 0 (Tq10) r13 S_11 hq12)
      by_cases h14 : x4 = x1
      · rw [if_pos h14] at hm
        exact fb_X3_bestWorth_60 P S0 hc n r S1 _ ih a0 x1 x2 x3 x4 r13 x2 S_11 hA (Ta0) hm
      · rw [if_neg h14] at hm
        exact fb_X3_bestWorth_60 P S0 hc n r S1 _ ih a0 x1 x2 x3 x4 r13 0 S_11 hA (Ta0) hm
set_option maxHeartbeats 1000000 in
set_option maxRecDepth 100000 in
theorem fr_X3_bestWorth (P : Nat → Prop) (n : Nat) (S0 : pq_S) (hc : Clo P S0) (a0 : Nat) (x1 : Int32) (x2 : Int32) (Ta0 : P a0) (r : Int32) (S1 : pq_S) (hm : m_X3_bestWorth n a0 x1 x2 S0 = some (r, S1)) : Ag P S0 S1 := by
  have hA : Ag P S0 S0 := Ag.rf _ _
  rw [m_X3_bestWorth] at hm
  exact fb_X3_bestWorth_5 P S0 hc n r S1 n a0 x1 x2 0 0 S0 hA (Ta0) hm
set_option maxHeartbeats 1000000 in
set_option maxRecDepth 100000 in
theorem fb_X3_bestBits_4 (P : Nat → Prop) (S0 : pq_S) (hc : Clo P S0) (n : Nat) (r : Int32) (S1 : pq_S) : ∀ (f : Nat) (a0 : Nat) (x1 : Int32) (x2 : Int32) (S : pq_S), Ag P S0 S → P a0 → b_X3_bestBits_4 n f a0 x1 x2 S = some (r, S1) → Ag P S0 S1 := by
  intro f
  induction f with
  | zero =>
    intro a0 x1 x2 S hA Ta0 hm
    cases hm
  | succ f ih =>
    intro a0 x1 x2 S hA Ta0 hm
    rw [b_X3_bestBits_4] at hm
    obtain ⟨q1, hq1, hm⟩ := bd_some hm
    have Tq1 : P q1 := hA.clo hc Ta0 hq1
    obtain ⟨q2, hq2, hm⟩ := bd_some hm
    have Tq2 : P q2 := hA.clo hc Tq1 hq2
    obtain ⟨q3, hq3, hm⟩ := bd_some hm
    have Tq3 : P q3 := hA.clo hc Tq2 hq3
    by_cases h4 : (pI S 902 q3) ≤ x2
    · rw [if_pos h4] at hm
      cases hm
      exact hA
    · rw [if_neg h4] at hm
      obtain ⟨q5, hq5, hm⟩ := bd_some hm
      have Tq5 : P q5 := hA.clo hc Ta0 hq5
      obtain ⟨S_6, hq7, hm⟩ := bd_some hm
      have hA : Ag P S0 S_6 := hA.tr (fr_X3_weigh P n S (hA.cl hc) a0 x2 q5 (Ta0) (Tq5)  S_6 hq7)
      obtain ⟨q8, hq8, hm⟩ := bd_some hm
      have Tq8 : P q8 := hA.clo hc Ta0 hq8
      obtain ⟨q9, hq9, hm⟩ := bd_some hm
      have Tq9 : P q9 := hA.clo hc Ta0 hq9
      obtain ⟨q10, hq10, hm⟩ := bd_some hm
      have Tq10 : P q10 := hA.clo hc Tq9 hq10
      obtain ⟨q11, hq11, hm⟩ := bd_some hm
      have Tq11 : P q11 := hA.clo hc Tq10 hq11
      obtain ⟨r14, S_12, hq13, hm⟩ := cb_some hm
      have hA : Ag P S0 S_12 := hA.tr (fr_X9_at P n S_6 (hA.cl hc) q11 x2 0 (Tq11) r14 S_12 hq13)
      obtain ⟨r17, S_15, hq16, hm⟩ := cb_some hm
      have hA : Ag P S0 S_15 := hA.tr (fr_X3_bestBy P n S_12 (hA.cl hc) q8 r14 (Tq8) r17 S_15 hq16)
      obtain ⟨r20, S_18, hq19, hm⟩ := cb_some hm
      have hA : Ag P S0 S_18 := hA.tr (fr_X3_bitsOf P n S_15 (hA.cl hc) r17  r20 S_18 hq19)
      exact ih a0 (x1 ||| r20) (x2 + 1) S_18 hA (Ta0) hm
set_option maxHeartbeats 1000000 in
set_option maxRecDepth 100000 in
theorem fr_X3_bestBits (P : Nat → Prop) (n : Nat) (S0 : pq_S) (hc : Clo P S0) (a0 : Nat) (Ta0 : P a0) (r : Int32) (S1 : pq_S) (hm : m_X3_bestBits n a0 S0 = some (r, S1)) : Ag P S0 S1 := by
  have hA : Ag P S0 S0 := Ag.rf _ _
  rw [m_X3_bestBits] at hm
  exact fb_X3_bestBits_4 P S0 hc n r S1 n a0 0 0 S0 hA (Ta0) hm
set_option maxHeartbeats 1000000 in
set_option maxRecDepth 100000 in
theorem fb_X3_findBestCarrying_177 (P : Nat → Prop) (S0 : pq_S) (hc : Clo P S0) (n : Nat) (S1 : pq_S) (k53 : Nat → Int32 → Int32 → Int32 → Int32 → Int32 → Int32 → pq_S → Option pq_S) (hk53 : ∀ (a0 : Nat) (x1 : Int32) (x2 : Int32) (x3 : Int32) (x4 : Int32) (x6 : Int32) (x7 : Int32) (S : pq_S), Ag P S0 S → P a0 → k53 a0 x1 x2 x3 x4 x6 x7 S = some S1 → Ag P S0 S1) : ∀ (a0 : Nat) (x1 : Int32) (x2 : Int32) (x3 : Int32) (x4 : Int32) (x6 : Int32) (x7 : Int32) (S : pq_S), Ag P S0 S → P a0 → b_X3_findBestCarrying_177 n k53 a0 x1 x2 x3 x4 x6 x7 S = some S1 → Ag P S0 S1 := by
  intro a0 x1 x2 x3 x4 x6 x7 S hA Ta0 hm
  rw [b_X3_findBestCarrying_177] at hm
  exact hk53 a0 x1 x2 x3 x4 x6 (x7 + 1) S hA (Ta0) hm
set_option maxHeartbeats 1000000 in
set_option maxRecDepth 100000 in
theorem fb_X3_findBestCarrying_101 (P : Nat → Prop) (S0 : pq_S) (hc : Clo P S0) (n : Nat) (S1 : pq_S) : ∀ (f : Nat) (a0 : Nat) (x1 : Int32) (x2 : Int32) (x3 : Int32) (x4 : Int32) (x6 : Int32) (x7 : Int32) (S : pq_S), Ag P S0 S → P a0 → b_X3_findBestCarrying_101 n f a0 x1 x2 x3 x4 x6 x7 S = some S1 → Ag P S0 S1 := by
  intro f
  induction f with
  | zero =>
    intro a0 x1 x2 x3 x4 x6 x7 S hA Ta0 hm
    cases hm
  | succ f ih =>
    intro a0 x1 x2 x3 x4 x6 x7 S hA Ta0 hm
    rw [b_X3_findBestCarrying_101] at hm
    by_cases h36 : x3 < x7
    · rw [if_pos h36] at hm
      cases hm
      exact hA
    · rw [if_neg h36] at hm
      obtain ⟨q37, hq37, hm⟩ := bd_some hm
      have Tq37 : P q37 := hA.clo hc Ta0 hq37
      obtain ⟨r40, S_38, hq39, hm⟩ := cb_some hm
      have hA : Ag P S0 S_38 := hA.tr (fr_X7_arriving P n S (hA.cl hc) q37 x1 x2 x7 1 (Tq37) r40 S_38 hq39)
      obtain ⟨q41, hq41, hm⟩ := bd_some hm
      have Tq41 : P q41 := hA.clo hc Ta0 hq41
      obtain ⟨r44, S_42, hq43, hm⟩ := cb_some hm
      have hA : Ag P S0 S_42 := hA.tr (fr_X3_bestBy P n S_38 (hA.cl hc) q41 (x3 - x7) (Tq41) r44 S_42 hq43)
      obtain ⟨r47, S_45, hq46, hm⟩ := cb_some hm
      have hA : Ag P S0 S_45 := hA.tr (fr_X3_worthOf P n S_42 (hA.cl hc) r44  r47 S_45 hq46)
      obtain ⟨q48, hq48, hm⟩ := bd_some hm
      have Tq48 : P q48 := hA.clo hc Ta0 hq48
      obtain ⟨r51, S_49, hq50, hm⟩ := cb_some hm
      have hA : Ag P S0 S_49 := hA.tr (fr_X3_bestBy P n S_45 (hA.cl hc) q48 (x4 + r40) (Tq48) r51 S_49 hq50)
      obtain ⟨r54, S_52, hq53, hm⟩ := cb_some hm
      have hA : Ag P S0 S_52 := hA.tr (fr_X3_worthOf P n S_49 (hA.cl hc) r51  r54 S_52 hq53)
      by_cases h55 : ((x6 + r47) + r54) ≤ (pI S_52 305 a0)
      · rw [if_pos h55] at hm
        exact fb_X3_findBestCarrying_177 P S0 hc n S1 _ ih a0 x1 x2 x3 x4 x6 x7 S_52 hA (Ta0) hm
      · rw [if_neg h55] at hm
        have hA : Ag P S0 (sI S_52 304 a0 x7) := hA.sI Ta0
        have hA : Ag P S0 (sI (sI S_52 304 a0 x7) 305 a0 ((x6 + r47) + r54)) := hA.sI Ta0
        exact fb_X3_findBestCarrying_177 P S0 hc n S1 _ ih a0 x1 x2 x3 x4 x6 x7 (sI (sI S_52 304 a0 x7) 305 a0 ((x6 + r47) + r54)) hA (Ta0) hm
set_option maxHeartbeats 1000000 in
set_option maxRecDepth 100000 in
theorem fr_X3_findBestCarrying (P : Nat → Prop) (n : Nat) (S0 : pq_S) (hc : Clo P S0) (a0 : Nat) (x1 : Int32) (x2 : Int32) (Ta0 : P a0) (S1 : pq_S) (hm : m_X3_findBestCarrying n a0 x1 x2 S0 = some S1) : Ag P S0 S1 := by
  have hA : Ag P S0 S0 := Ag.rf _ _
  rw [m_X3_findBestCarrying] at hm
  obtain ⟨q1, hq1, hm⟩ := bd_some hm
  have Tq1 : P q1 := hA.clo hc Ta0 hq1
  obtain ⟨q2, hq2, hm⟩ := bd_some hm
  have Tq2 : P q2 := hA.clo hc Tq1 hq2
  obtain ⟨q3, hq3, hm⟩ := bd_some hm
  have Tq3 : P q3 := hA.clo hc Tq2 hq3
  obtain ⟨r6, S_4, hq5, hm⟩ := cb_some hm
  have hA : Ag P S0 S_4 := hA.tr (fr_X9_at P n S0 (hA.cl hc) q3 x1 0 (Tq3) r6 S_4 hq5)
  obtain ⟨q7, hq7, hm⟩ := bd_some hm
  have Tq7 : P q7 := hA.clo hc Ta0 hq7
  obtain ⟨q8, hq8, hm⟩ := bd_some hm
  have Tq8 : P q8 := hA.clo hc Tq7 hq8
  obtain ⟨q9, hq9, hm⟩ := bd_some hm
  have Tq9 : P q9 := hA.clo hc Tq8 hq9
  obtain ⟨r12, S_10, hq11, hm⟩ := cb_some hm
  have hA : Ag P S0 S_10 := hA.tr (fr_X9_at P n S_4 (hA.cl hc) q9 x2 0 (Tq9) r12 S_10 hq11)
  obtain ⟨r15, S_13, hq14, hm⟩ := cb_some hm
  have hA : Ag P S0 S_13 := hA.tr (fr_X3_bestWorth P n S_10 (hA.cl hc) a0 (-1) 0 (Ta0) r15 S_13 hq14)
  obtain ⟨q16, hq16, hm⟩ := bd_some hm
  have Tq16 : P q16 := hA.clo hc Ta0 hq16
  obtain ⟨S_17, hq18, hm⟩ := bd_some hm
  have hA : Ag P S0 S_17 := hA.tr (fr_X3_weigh P n S_13 (hA.cl hc) a0 x1 q16 (Ta0) (Tq16)  S_17 hq18)
  obtain ⟨q19, hq19, hm⟩ := bd_some hm
  have Tq19 : P q19 := hA.clo hc Ta0 hq19
  obtain ⟨S_20, hq21, hm⟩ := bd_some hm
  have hA : Ag P S0 S_20 := hA.tr (fr_X3_weigh P n S_17 (hA.cl hc) a0 x2 q19 (Ta0) (Tq19)  S_20 hq21)
  obtain ⟨q22, hq22, hm⟩ := bd_some hm
  have Tq22 : P q22 := hA.clo hc Ta0 hq22
  obtain ⟨r25, S_23, hq24, hm⟩ := cb_some hm
  have hA : Ag P S0 S_23 := hA.tr (fr_X3_bestBy P n S_20 (hA.cl hc) q22 r6 (Tq22) r25 S_23 hq24)
  obtain ⟨r28, S_26, hq27, hm⟩ := cb_some hm
  have hA : Ag P S0 S_26 := hA.tr (fr_X3_worthOf P n S_23 (hA.cl hc) r25  r28 S_26 hq27)
  obtain ⟨q29, hq29, hm⟩ := bd_some hm
  have Tq29 : P q29 := hA.clo hc Ta0 hq29
  obtain ⟨r32, S_30, hq31, hm⟩ := cb_some hm
  have hA : Ag P S0 S_30 := hA.tr (fr_X3_bestBy P n S_26 (hA.cl hc) q29 r12 (Tq29) r32 S_30 hq31)
  obtain ⟨r35, S_33, hq34, hm⟩ := cb_some hm
  have hA : Ag P S0 S_33 := hA.tr (fr_X3_worthOf P n S_30 (hA.cl hc) r32  r35 S_33 hq34)
  have hA : Ag P S0 (sI S_33 304 a0 0) := hA.sI Ta0
  have hA : Ag P S0 (sI (sI S_33 304 a0 0) 305 a0 (-1)) := hA.sI Ta0
  exact fb_X3_findBestCarrying_101 P S0 hc n S1 n a0 x1 x2 r6 r12 ((r15 - r28) - r35) 0 (sI (sI S_33 304 a0 0) 305 a0 (-1)) hA (Ta0) hm
set_option maxHeartbeats 1000000 in
set_option maxRecDepth 100000 in
theorem fb_X3_clearingPrice_11 (P : Nat → Prop) (S0 : pq_S) (hc : Clo P S0) (n : Nat) (r : Int32) (S1 : pq_S) : ∀ (f : Nat) (a0 : Nat) (x1 : Int32) (x2 : Int32) (x3 : Int32) (S : pq_S), Ag P S0 S → P a0 → b_X3_clearingPrice_11 n f a0 x1 x2 x3 S = some (r, S1) → Ag P S0 S1 := by
  intro f
  induction f with
  | zero =>
    intro a0 x1 x2 x3 S hA Ta0 hm
    cases hm
  | succ f ih =>
    intro a0 x1 x2 x3 S hA Ta0 hm
    rw [b_X3_clearingPrice_11] at hm
    by_cases h5 : 100 ≤ x3
    · rw [if_pos h5] at hm
      cases hm
      exact hA
    · rw [if_neg h5] at hm
      obtain ⟨q6, hq6, hm⟩ := bd_some hm
      have Tq6 : P q6 := hA.clo hc Ta0 hq6
      obtain ⟨r9, S_7, hq8, hm⟩ := cb_some hm
      have hA : Ag P S0 S_7 := hA.tr (fr_X7_hoursWanted P n S (hA.cl hc) q6 x1 x3 (Tq6) r9 S_7 hq8)
      by_cases h10 : r9 ≤ x2
      · rw [if_pos h10] at hm
        cases hm
        exact hA
      · rw [if_neg h10] at hm
        exact ih a0 x1 x2 (x3 + 1) S_7 hA (Ta0) hm
set_option maxHeartbeats 1000000 in
set_option maxRecDepth 100000 in
theorem fr_X3_clearingPrice (P : Nat → Prop) (n : Nat) (S0 : pq_S) (hc : Clo P S0) (a0 : Nat) (x1 : Int32) (Ta0 : P a0) (r : Int32) (S1 : pq_S) (hm : m_X3_clearingPrice n a0 x1 S0 = some (r, S1)) : Ag P S0 S1 := by
  have hA : Ag P S0 S0 := Ag.rf _ _
  rw [m_X3_clearingPrice] at hm
  obtain ⟨q1, hq1, hm⟩ := bd_some hm
  have Tq1 : P q1 := hA.clo hc Ta0 hq1
  obtain ⟨r4, S_2, hq3, hm⟩ := cb_some hm
  have hA : Ag P S0 S_2 := hA.tr (fr_X7_hoursAt P n S0 (hA.cl hc) q1 x1 (Tq1) r4 S_2 hq3)
  exact fb_X3_clearingPrice_11 P S0 hc n r S1 n a0 x1 r4 0 S_2 hA (Ta0) hm
set_option maxHeartbeats 1000000 in
set_option maxRecDepth 100000 in
theorem fr_X3_hoursToCorner (P : Nat → Prop) (n : Nat) (S0 : pq_S) (hc : Clo P S0) (a0 : Nat) (x1 : Int32) (x2 : Int32) (Ta0 : P a0) (r : Int32) (S1 : pq_S) (hm : m_X3_hoursToCorner n a0 x1 x2 S0 = some (r, S1)) : Ag P S0 S1 := by
  have hA : Ag P S0 S0 := Ag.rf _ _
  rw [m_X3_hoursToCorner] at hm
  by_cases h1 : x2 = 0
  · rw [if_pos h1] at hm
    cases hm
    exact hA
  · rw [if_neg h1] at hm
    obtain ⟨q2, hq2, hm⟩ := bd_some hm
    have Tq2 : P q2 := hA.clo hc Ta0 hq2
    obtain ⟨r5, S_3, hq4, hm⟩ := cb_some hm
    have hA : Ag P S0 S_3 := hA.tr (fr_X7_hoursAt P n S0 (hA.cl hc) q2 x1 (Tq2) r5 S_3 hq4)
    obtain ⟨q6, hq6, hm⟩ := bd_some hm
    have Tq6 : P q6 := hA.clo hc Ta0 hq6
    obtain ⟨r9, S_7, hq8, hm⟩ := cb_some hm
    have hA : Ag P S0 S_7 := hA.tr (fr_X7_hoursWanted P n S_3 (hA.cl hc) q6 x1 (x2 - (1 : Int32)) (Tq6) r9 S_7 hq8)
    obtain ⟨v10, ev10, hm⟩ := lt_some hm
    obtain ⟨q11, hq11, hm⟩ := bd_some hm
    have Tq11 : P q11 := hA.clo hc Ta0 hq11
    obtain ⟨q12, hq12, hm⟩ := bd_some hm
    have Tq12 : P q12 := hA.clo hc Tq11 hq12
    obtain ⟨q13, hq13, hm⟩ := bd_some hm
    have Tq13 : P q13 := hA.clo hc Tq12 hq13
    obtain ⟨r16, S_14, hq15, hm⟩ := cb_some hm
    have hA : Ag P S0 S_14 := hA.tr (fr_X9_at P n S_7 (hA.cl hc) q13 x1 0 (Tq13) r16 S_14 hq15)
    by_cases h17 : r16 < v10
    · rw [if_pos h17] at hm
      cases hm
      exact hA
    · rw [if_neg h17] at hm
      cases hm
      exact hA
set_option maxHeartbeats 1000000 in
set_option maxRecDepth 100000 in
theorem fb_X3_gained_101 (P : Nat → Prop) (S0 : pq_S) (hc : Clo P S0) (n : Nat) (r : Int32) (S1 : pq_S) (k9 : Nat → Int32 → Int32 → Int32 → Int32 → Int32 → pq_S → Option (Int32 × pq_S)) (hk9 : ∀ (a0 : Nat) (x1 : Int32) (x2 : Int32) (x3 : Int32) (x4 : Int32) (x5 : Int32) (S : pq_S), Ag P S0 S → P a0 → k9 a0 x1 x2 x3 x4 x5 S = some (r, S1) → Ag P S0 S1) : ∀ (a0 : Nat) (x1 : Int32) (x2 : Int32) (x3 : Int32) (x4 : Int32) (x5 : Int32) (S : pq_S), Ag P S0 S → P a0 → b_X3_gained_101 n k9 a0 x1 x2 x3 x4 x5 S = some (r, S1) → Ag P S0 S1 := by
  intro a0 x1 x2 x3 x4 x5 S hA Ta0 hm
  rw [b_X3_gained_101] at hm
  exact hk9 a0 x1 x2 x3 x4 (x5 + 1) S hA (Ta0) hm
set_option maxHeartbeats 1000000 in
set_option maxRecDepth 100000 in
theorem fb_X3_gained_98 (P : Nat → Prop) (S0 : pq_S) (hc : Clo P S0) (n : Nat) (r : Int32) (S1 : pq_S) (k9 : Nat → Int32 → Int32 → Int32 → Int32 → Int32 → pq_S → Option (Int32 × pq_S)) (hk9 : ∀ (a0 : Nat) (x1 : Int32) (x2 : Int32) (x3 : Int32) (x4 : Int32) (x5 : Int32) (S : pq_S), Ag P S0 S → P a0 → k9 a0 x1 x2 x3 x4 x5 S = some (r, S1) → Ag P S0 S1) : ∀ (a0 : Nat) (x1 : Int32) (x2 : Int32) (x3 : Int32) (x5 : Int32) (z0 : Int32) (z1 : Int32) (S : pq_S), Ag P S0 S → P a0 → b_X3_gained_98 n k9 a0 x1 x2 x3 x5 z0 z1 S = some (r, S1) → Ag P S0 S1 := by
  intro a0 x1 x2 x3 x5 z0 z1 S hA Ta0 hm
  rw [b_X3_gained_98] at hm
  exact fb_X3_gained_101 P S0 hc n r S1 _ hk9 a0 x1 x2 x3 (z0 + z1) x5 S hA (Ta0) hm
set_option maxHeartbeats 1000000 in
set_option maxRecDepth 100000 in
theorem fb_X3_gained_107 (P : Nat → Prop) (S0 : pq_S) (hc : Clo P S0) (n : Nat) (r : Int32) (S1 : pq_S) : ∀ (x2 : Int32) (x4 : Int32) (S : pq_S), Ag P S0 S → b_X3_gained_107 n x2 x4 S = some (r, S1) → Ag P S0 S1 := by
  intro x2 x4 S hA hm
  rw [b_X3_gained_107] at hm
  cases hm
  exact hA
set_option maxHeartbeats 1000000 in
set_option maxRecDepth 100000 in
theorem fb_X3_gained_13 (P : Nat → Prop) (S0 : pq_S) (hc : Clo P S0) (n : Nat) (r : Int32) (S1 : pq_S) : ∀ (f : Nat) (a0 : Nat) (x1 : Int32) (x2 : Int32) (x3 : Int32) (x4 : Int32) (x5 : Int32) (S : pq_S), Ag P S0 S → P a0 → b_X3_gained_13 n f a0 x1 x2 x3 x4 x5 S = some (r, S1) → Ag P S0 S1 := by
  intro f
  induction f with
  | zero =>
    intro a0 x1 x2 x3 x4 x5 S hA Ta0 hm
    cases hm
  | succ f ih =>
    intro a0 x1 x2 x3 x4 x5 S hA Ta0 hm
    rw [b_X3_gained_13] at hm
    obtain ⟨q2, hq2, hm⟩ := bd_some hm
    have Tq2 : P q2 := hA.clo hc Ta0 hq2
    obtain ⟨q3, hq3, hm⟩ := bd_some hm
    have Tq3 : P q3 := hA.clo hc Tq2 hq3
    obtain ⟨q4, hq4, hm⟩ := bd_some hm
    have Tq4 : P q4 := hA.clo hc Tq3 hq4
    by_cases h5 : (pI S 902 q4) ≤ x5
    · rw [if_pos h5] at hm
      exact fb_X3_gained_107 P S0 hc n r S1 x2 x4 S hA  hm
    · rw [if_neg h5] at hm
      obtain ⟨q6, hq6, hm⟩ := bd_some hm
      have Tq6 : P q6 := hA.clo hc Ta0 hq6
      obtain ⟨r9, S_7, hq8, hm⟩ := cb_some hm
      have hA : Ag P S0 S_7 := hA.tr (fr_X7_isOpenAt P n S (hA.cl hc) q6 x5 x1 (Tq6) r9 S_7 hq8)
      by_cases h10 : r9 = 0
      · rw [if_pos h10] at hm
        exact fb_X3_gained_101 P S0 hc n r S1 _ ih a0 x1 x2 x3 x4 x5 S_7 hA (Ta0) hm
      · rw [if_neg h10] at hm
        obtain ⟨q11, hq11, hm⟩ := bd_some hm
        have Tq11 : P q11 := hA.clo hc Ta0 hq11
        obtain ⟨q12, hq12, hm⟩ := bd_some hm
        have Tq12 : P q12 := hA.clo hc Tq11 hq12
        obtain ⟨q13, hq13, hm⟩ := bd_some hm
        have Tq13 : P q13 := hA.clo hc Tq12 hq13
        obtain ⟨r16, S_14, hq15, hm⟩ := cb_some hm
        have hA : Ag P S0 S_14 := hA.tr (fr_X9_at P n S_7 (hA.cl hc) q13 x5 3 (Tq13) r16 S_14 hq15)
        by_cases h17 : r16 < x2
        · rw [if_pos h17] at hm
          exact fb_X3_gained_101 P S0 hc n r S1 _ ih a0 x1 x2 x3 x4 x5 S_14 hA (Ta0) hm
        · rw [if_neg h17] at hm
          obtain ⟨q18, hq18, hm⟩ := bd_some hm
          have Tq18 : P q18 := hA.clo hc Ta0 hq18
          obtain ⟨q19, hq19, hm⟩ := bd_some hm
          have Tq19 : P q19 := hA.clo hc Tq18 hq19
          obtain ⟨q20, hq20, hm⟩ := bd_some hm
          have Tq20 : P q20 := hA.clo hc Tq19 hq20
          obtain ⟨r23, S_21, hq22, hm⟩ := cb_some hm
          have hA : Ag P S0 S_21 := hA.tr (fr_X9_at P n S_14 (hA.cl hc) q20 x5 1 (Tq20) r23 S_21 hq22)
          by_cases h24 : x3 ≤ x2
          · rw [if_pos h24] at hm
            exact fb_X3_gained_98 P S0 hc n r S1 _ ih a0 x1 x2 x3 x5 x4 (r23 / 2) S_21 hA (Ta0) hm
          · rw [if_neg h24] at hm
            exact fb_X3_gained_98 P S0 hc n r S1 _ ih a0 x1 x2 x3 x5 x4 r23 S_21 hA (Ta0) hm
set_option maxHeartbeats 1000000 in
set_option maxRecDepth 100000 in
theorem fr_X3_gained (P : Nat → Prop) (n : Nat) (S0 : pq_S) (hc : Clo P S0) (a0 : Nat) (x1 : Int32) (x2 : Int32) (x3 : Int32) (Ta0 : P a0) (r : Int32) (S1 : pq_S) (hm : m_X3_gained n a0 x1 x2 x3 S0 = some (r, S1)) : Ag P S0 S1 := by
  have hA : Ag P S0 S0 := Ag.rf _ _
  rw [m_X3_gained] at hm
  by_cases h1 : x2 ≤ x3
  · rw [if_pos h1] at hm
    exact fb_X3_gained_13 P S0 hc n r S1 n a0 x1 x2 x3 0 0 S0 hA (Ta0) hm
  · rw [if_neg h1] at hm
    cases hm
    exact hA
set_option maxHeartbeats 1000000 in
set_option maxRecDepth 100000 in
theorem fr_X3_isBestAgainst (P : Nat → Prop) (n : Nat) (S0 : pq_S) (hc : Clo P S0) (a0 : Nat) (x1 : Int32) (x2 : Int32) (x3 : Int32) (Ta0 : P a0) (r : Int32) (S1 : pq_S) (hm : m_X3_isBestAgainst n a0 x1 x2 x3 S0 = some (r, S1)) : Ag P S0 S1 := by
  have hA : Ag P S0 S0 := Ag.rf _ _
  rw [m_X3_isBestAgainst] at hm
  by_cases h1 : x3 < 0
  · rw [if_pos h1] at hm
    cases hm
    exact hA
  · rw [if_neg h1] at hm
    obtain ⟨q2, hq2, hm⟩ := bd_some hm
    have Tq2 : P q2 := hA.clo hc Ta0 hq2
    by_cases h3 : (Int32.ofNat (pN S0 q2)) ≤ x3
    · rw [if_pos h3] at hm
      cases hm
      exact hA
    · rw [if_neg h3] at hm
      obtain ⟨r6, S_4, hq5, hm⟩ := cb_some hm
      have hA : Ag P S0 S_4 := hA.tr (fr_X3_gained P n S0 (hA.cl hc) a0 x1 x2 x3 (Ta0) r6 S_4 hq5)
      obtain ⟨q7, hq7, hm⟩ := bd_some hm
      have Tq7 : P q7 := hA.clo hc Ta0 hq7
      obtain ⟨hi8, hm⟩ := ck_some hm
      by_cases h9 : r6 = (pA S_4 q7 (Int32.toNatClampNeg x3))
      · rw [if_pos h9] at hm
        cases hm
        exact hA
      · rw [if_neg h9] at hm
        cases hm
        exact hA
set_option maxHeartbeats 1000000 in
set_option maxRecDepth 100000 in
theorem fb_X3_keepRest_28 (P : Nat → Prop) (S0 : pq_S) (hc : Clo P S0) (n : Nat) (S1 : pq_S) : ∀ (a0 : Nat) (S : pq_S), Ag P S0 S → P a0 → b_X3_keepRest_28 n a0 S = some S1 → Ag P S0 S1 := by
  intro a0 S hA Ta0 hm
  rw [b_X3_keepRest_28] at hm
  have hA : Ag P S0 (sI S 306 a0 ((pI S 306 a0) + (1 : Int32))) := hA.sI Ta0
  cases hm
  exact hA
set_option maxHeartbeats 1000000 in
set_option maxRecDepth 100000 in
theorem fr_X3_keepRest (P : Nat → Prop) (n : Nat) (S0 : pq_S) (hc : Clo P S0) (a0 : Nat) (x1 : Int32) (x2 : Int32) (x3 : Int32) (Ta0 : P a0) (S1 : pq_S) (hm : m_X3_keepRest n a0 x1 x2 x3 S0 = some S1) : Ag P S0 S1 := by
  have hA : Ag P S0 S0 := Ag.rf _ _
  rw [m_X3_keepRest] at hm
  by_cases h1 : (pI S0 306 a0) = 0
  · rw [if_pos h1] at hm
    have hA : Ag P S0 (sI S0 307 a0 (((100 : Int32) * x2) + x3)) := hA.sI Ta0
    obtain ⟨r4, S_2, hq3, hm⟩ := cb_some hm
    have hA : Ag P S0 S_2 := hA.tr (fr_X3_gained P n (sI S0 307 a0 (((100 : Int32) * x2) + x3)) (hA.cl hc) a0 x1 x2 x3 (Ta0) r4 S_2 hq3)
    have hA : Ag P S0 (sI S_2 308 a0 r4) := hA.sI Ta0
    exact fb_X3_keepRest_28 P S0 hc n S1 a0 (sI S_2 308 a0 r4) hA (Ta0) hm
  · rw [if_neg h1] at hm
    exact fb_X3_keepRest_28 P S0 hc n S1 a0 S0 hA (Ta0) hm
set_option maxHeartbeats 1000000 in
set_option maxRecDepth 100000 in
theorem fr_X5_pop (P : Nat → Prop) (n : Nat) (S0 : pq_S) (hc : Clo P S0) (a0 : Nat) (a1 : Nat) (Ta0 : P a0) (Ta1 : P a1) (S1 : pq_S) (hm : m_X5_pop n a0 a1 S0 = some S1) : Ag P S0 S1 := by
  have hA : Ag P S0 S0 := Ag.rf _ _
  rw [m_X5_pop] at hm
  by_cases h1 : (pI S0 501 a0) ≤ 0
  · rw [if_pos h1] at hm
    cases hm
    exact hA
  · rw [if_neg h1] at hm
    obtain ⟨q2, hq2, hm⟩ := bd_some hm
    have Tq2 : P q2 := hA.clo hc Ta0 hq2
    by_cases h3 : (Int32.ofNat (pN S0 q2)) < (pI S0 501 a0)
    · rw [if_pos h3] at hm
      cases hm
      exact hA
    · rw [if_neg h3] at hm
      obtain ⟨q4, hq4, hm⟩ := bd_some hm
      have Tq4 : P q4 := hA.clo hc Ta0 hq4
      obtain ⟨hi5, hm⟩ := ck_some hm
      by_cases ho6 : (pQ S0 q4 (Int32.toNatClampNeg ((pI S0 501 a0) - (1 : Int32)))) = none
      · rw [if_pos ho6] at hm
        cases hm
        exact hA
      · rw [if_neg ho6] at hm
        have hA : Ag P S0 (sI S0 501 a0 ((pI S0 501 a0) - (1 : Int32))) := hA.sI Ta0
        obtain ⟨q8, hq8, hm⟩ := bd_some hm
        have Tq8 : P q8 := hA.clo hc Ta0 hq8
        obtain ⟨hi9, hm⟩ := ck_some hm
        obtain ⟨q10, hq10, hm⟩ := bd_some hm
        have Tq10 : P q10 := hA.cloQ hc Tq8 hq10
        obtain ⟨S_11, hq12, hm⟩ := bd_some hm
        have hA : Ag P S0 S_11 := hA.tr (fr_X8_copyFrom P n (sI S0 501 a0 ((pI S0 501 a0) - (1 : Int32))) (hA.cl hc) a1 q10 (Ta1) (Tq10)  S_11 hq12)
        cases hm
        exact hA
set_option maxHeartbeats 1000000 in
set_option maxRecDepth 100000 in
theorem fr_X6_read (P : Nat → Prop) (n : Nat) (S0 : pq_S) (hc : Clo P S0) (a0 : Nat) (a1 : Nat) (a2 : Nat) (Ta0 : P a0) (Ta1 : P a1) (Ta2 : P a2) (S1 : pq_S) (hm : m_X6_read n a0 a1 a2 S0 = some S1) : Ag P S0 S1 := by
  have hA : Ag P S0 S0 := Ag.rf _ _
  rw [m_X6_read] at hm
  obtain ⟨q1, hq1, hm⟩ := bd_some hm
  have Tq1 : P q1 := hA.clo hc Ta0 hq1
  obtain ⟨S_2, hq3, hm⟩ := bd_some hm
  have hA : Ag P S0 S_2 := hA.tr (fr_X9_clear P n S0 (hA.cl hc) q1 (Tq1)  S_2 hq3)
  have hA : Ag P S0 (sI S_2 601 a0 0) := hA.sI Ta0
  have hA : Ag P S0 (sI (sI S_2 601 a0 0) 602 a0 0) := hA.sI Ta0
  have hA : Ag P S0 (sI (sI (sI S_2 601 a0 0) 602 a0 0) 603 a0 0) := hA.sI Ta0
  obtain ⟨S_4, hq5, hm⟩ := bd_some hm
  have hA : Ag P S0 S_4 := hA.tr (fr_X6_readSteps P n (sI (sI (sI S_2 601 a0 0) 602 a0 0) 603 a0 0) (hA.cl hc) a0 a1 a2 0 (Ta0) (Ta1) (Ta2)  S_4 hq5)
  obtain ⟨r8, S_6, hq7, hm⟩ := cb_some hm
  have hA : Ag P S0 S_6 := hA.tr (fr_X10_next P n S_4 (hA.cl hc) a1 (Ta1) r8 S_6 hq7)
  by_cases h9 : r8 = (-1)
  · rw [if_pos h9] at hm
    cases hm
    exact hA
  · rw [if_neg h9] at hm
    obtain ⟨S_10, hq11, hm⟩ := bd_some hm
    have hA : Ag P S0 S_10 := hA.tr (fr_X10_refuse P n S_6 (hA.cl hc) a1 1 (pI S_6 1003 a1) (Ta1)  S_10 hq11)
    cases hm
    exact hA
set_option maxHeartbeats 1000000 in
set_option maxRecDepth 100000 in
theorem fb_X7_carryHours_55 (P : Nat → Prop) (S0 : pq_S) (hc : Clo P S0) (n : Nat) (r : Int32) (S1 : pq_S) : ∀ (b0 : Nat) (z1 : Int32) (z2 : Int32) (b3 : Nat) (z4 : Int32) (z5 : Int32) (z6 : Int32) (z7 : Int32) (S : pq_S), Ag P S0 S → P b0 → P b3 → b_X7_carryHours_55 n b0 z1 z2 b3 z4 z5 z6 z7 S = some (r, S1) → Ag P S0 S1 := by
  intro b0 z1 z2 b3 z4 z5 z6 z7 S hA Tb0 Tb3 hm
  rw [b_X7_carryHours_55] at hm
  obtain ⟨r15, S_13, hq14, hm⟩ := cb_some hm
  have hA : Ag P S0 S_13 := hA.tr (fr_X7_arriving P n S (hA.cl hc) b3 z4 z5 z6 z7 (Tb3) r15 S_13 hq14)
  obtain ⟨S_16, hq17, hm⟩ := bd_some hm
  have hA : Ag P S0 S_16 := hA.tr (fr_X8_bring P n S_13 (hA.cl hc) b0 z1 z2 r15 (Tb0)  S_16 hq17)
  cases hm
  exact hA
set_option maxHeartbeats 1000000 in
set_option maxRecDepth 100000 in
theorem fr_X7_carryHours (P : Nat → Prop) (n : Nat) (S0 : pq_S) (hc : Clo P S0) (a0 : Nat) (x1 : Int32) (x2 : Int32) (x3 : Int32) (x4 : Int32) (Ta0 : P a0) (r : Int32) (S1 : pq_S) (hm : m_X7_carryHours n a0 x1 x2 x3 x4 S0 = some (r, S1)) : Ag P S0 S1 := by
  have hA : Ag P S0 S0 := Ag.rf _ _
  rw [m_X7_carryHours] at hm
  obtain ⟨q1, hq1, hm⟩ := bd_some hm
  have Tq1 : P q1 := hA.clo hc Ta0 hq1
  obtain ⟨q2, hq2, hm⟩ := bd_some hm
  have Tq2 : P q2 := hA.clo hc Tq1 hq2
  obtain ⟨r5, S_3, hq4, hm⟩ := cb_some hm
  have hA : Ag P S0 S_3 := hA.tr (fr_X9_at P n S0 (hA.cl hc) q2 x1 x4 (Tq2) r5 S_3 hq4)
  by_cases h6 : x3 ≤ r5
  · rw [if_pos h6] at hm
    obtain ⟨q7, hq7, hm⟩ := bd_some hm
    have Tq7 : P q7 := hA.clo hc Ta0 hq7
    obtain ⟨q8, hq8, hm⟩ := bd_some hm
    have Tq8 : P q8 := hA.clo hc Tq7 hq8
    obtain ⟨S_9, hq10, hm⟩ := bd_some hm
    have hA : Ag P S0 S_9 := hA.tr (fr_X9_add P n S_3 (hA.cl hc) q8 x1 x4 (-x3) (Tq8)  S_9 hq10)
    obtain ⟨q11, hq11, hm⟩ := bd_some hm
    have Tq11 : P q11 := hA.clo hc Ta0 hq11
    by_cases h12 : x4 = 0
    · rw [if_pos h12] at hm
      exact fb_X7_carryHours_55 P S0 hc n r S1 q11 x2 x4 a0 x1 x2 x3 1 S_9 hA (Tq11) (Ta0) hm
    · rw [if_neg h12] at hm
      exact fb_X7_carryHours_55 P S0 hc n r S1 q11 x2 x4 a0 x1 x2 x3 0 S_9 hA (Tq11) (Ta0) hm
  · rw [if_neg h6] at hm
    cases hm
    exact hA
set_option maxHeartbeats 1000000 in
set_option maxRecDepth 100000 in
theorem fr_X7_waterHours (P : Nat → Prop) (n : Nat) (S0 : pq_S) (hc : Clo P S0) (a0 : Nat) (x1 : Int32) (x2 : Int32) (Ta0 : P a0) (r : Int32) (S1 : pq_S) (hm : m_X7_waterHours n a0 x1 x2 S0 = some (r, S1)) : Ag P S0 S1 := by
  have hA : Ag P S0 S0 := Ag.rf _ _
  rw [m_X7_waterHours] at hm
  obtain ⟨q1, hq1, hm⟩ := bd_some hm
  have Tq1 : P q1 := hA.clo hc Ta0 hq1
  obtain ⟨q2, hq2, hm⟩ := bd_some hm
  have Tq2 : P q2 := hA.clo hc Tq1 hq2
  obtain ⟨r5, S_3, hq4, hm⟩ := cb_some hm
  have hA : Ag P S0 S_3 := hA.tr (fr_X9_at P n S0 (hA.cl hc) q2 x1 0 (Tq2) r5 S_3 hq4)
  by_cases h6 : x2 ≤ r5
  · rw [if_pos h6] at hm
    obtain ⟨q7, hq7, hm⟩ := bd_some hm
    have Tq7 : P q7 := hA.clo hc Ta0 hq7
    obtain ⟨q8, hq8, hm⟩ := bd_some hm
    have Tq8 : P q8 := hA.clo hc Tq7 hq8
    obtain ⟨S_9, hq10, hm⟩ := bd_some hm
    have hA : Ag P S0 S_9 := hA.tr (fr_X9_add P n S_3 (hA.cl hc) q8 x1 0 (-x2) (Tq8)  S_9 hq10)
    obtain ⟨q11, hq11, hm⟩ := bd_some hm
    have Tq11 : P q11 := hA.clo hc Ta0 hq11
    obtain ⟨S_12, hq13, hm⟩ := bd_some hm
    have hA : Ag P S0 S_12 := hA.tr (fr_X8_bring P n S_9 (hA.cl hc) q11 x1 1 ((2 : Int32) * x2) (Tq11)  S_12 hq13)
    cases hm
    exact hA
  · rw [if_neg h6] at hm
    cases hm
    exact hA
set_option maxHeartbeats 1000000 in
set_option maxRecDepth 100000 in
theorem fr_X7_digShafts (P : Nat → Prop) (n : Nat) (S0 : pq_S) (hc : Clo P S0) (a0 : Nat) (x1 : Int32) (x2 : Int32) (Ta0 : P a0) (r : Int32) (S1 : pq_S) (hm : m_X7_digShafts n a0 x1 x2 S0 = some (r, S1)) : Ag P S0 S1 := by
  have hA : Ag P S0 S0 := Ag.rf _ _
  rw [m_X7_digShafts] at hm
  obtain ⟨q1, hq1, hm⟩ := bd_some hm
  have Tq1 : P q1 := hA.clo hc Ta0 hq1
  obtain ⟨q2, hq2, hm⟩ := bd_some hm
  have Tq2 : P q2 := hA.clo hc Tq1 hq2
  obtain ⟨r5, S_3, hq4, hm⟩ := cb_some hm
  have hA : Ag P S0 S_3 := hA.tr (fr_X9_at P n S0 (hA.cl hc) q2 x1 0 (Tq2) r5 S_3 hq4)
  obtain ⟨q6, hq6, hm⟩ := bd_some hm
  have Tq6 : P q6 := hA.clo hc Ta0 hq6
  obtain ⟨r9, S_7, hq8, hm⟩ := cb_some hm
  have hA : Ag P S0 S_7 := hA.tr (fr_X7_isMineOpen P n S_3 (hA.cl hc) a0 x1 (pI S_3 803 q6) (Ta0) r9 S_7 hq8)
  by_cases h10 : r9 = 0
  · rw [if_pos h10] at hm
    cases hm
    exact hA
  · rw [if_neg h10] at hm
    by_cases h11 : r5 = 0
    · rw [if_pos h11] at hm
      cases hm
      exact hA
    · rw [if_neg h11] at hm
      obtain ⟨q12, hq12, hm⟩ := bd_some hm
      have Tq12 : P q12 := hA.clo hc Ta0 hq12
      obtain ⟨r15, S_13, hq14, hm⟩ := cb_some hm
      have hA : Ag P S0 S_13 := hA.tr (fr_X7_comingOut P n S_7 (hA.cl hc) a0 x2 r5 (pI S_7 803 q12) (Ta0) r15 S_13 hq14)
      obtain ⟨q16, hq16, hm⟩ := bd_some hm
      have Tq16 : P q16 := hA.clo hc Ta0 hq16
      obtain ⟨q17, hq17, hm⟩ := bd_some hm
      have Tq17 : P q17 := hA.clo hc Ta0 hq17
      have hA : Ag P S0 (sI S_13 804 q16 ((pI S_13 804 q16) - (x2 * (pI S_13 105 q17)))) := hA.sI Tq16
      obtain ⟨q18, hq18, hm⟩ := bd_some hm
      have Tq18 : P q18 := hA.clo hc Ta0 hq18
      obtain ⟨q19, hq19, hm⟩ := bd_some hm
      have Tq19 : P q19 := hA.clo hc Tq18 hq19
      obtain ⟨S_20, hq21, hm⟩ := bd_some hm
      have hA : Ag P S0 S_20 := hA.tr (fr_X9_add P n (sI S_13 804 q16 ((pI S_13 804 q16) - (x2 * (pI S_13 105 q17)))) (hA.cl hc) q19 x1 0 (-r15) (Tq19)  S_20 hq21)
      obtain ⟨q22, hq22, hm⟩ := bd_some hm
      have Tq22 : P q22 := hA.clo hc Ta0 hq22
      obtain ⟨q23, hq23, hm⟩ := bd_some hm
      have Tq23 : P q23 := hA.clo hc Tq22 hq23
      obtain ⟨S_24, hq25, hm⟩ := bd_some hm
      have hA : Ag P S0 S_24 := hA.tr (fr_X9_add P n S_20 (hA.cl hc) q23 x1 1 r15 (Tq23)  S_24 hq25)
      obtain ⟨q26, hq26, hm⟩ := bd_some hm
      have Tq26 : P q26 := hA.clo hc Ta0 hq26
      obtain ⟨q27, hq27, hm⟩ := bd_some hm
      have Tq27 : P q27 := hA.clo hc Ta0 hq27
      obtain ⟨q28, hq28, hm⟩ := bd_some hm
      have Tq28 : P q28 := hA.clo hc Tq27 hq28
      obtain ⟨r31, S_29, hq30, hm⟩ := cb_some hm
      have hA : Ag P S0 S_29 := hA.tr (fr_X9_at P n S_24 (hA.cl hc) q28 x1 0 (Tq28) r31 S_29 hq30)
      obtain ⟨S_32, hq33, hm⟩ := bd_some hm
      have hA : Ag P S0 S_32 := hA.tr (fr_X8_bring P n S_29 (hA.cl hc) q26 r31 0 r15 (Tq26)  S_32 hq33)
      cases hm
      exact hA
set_option maxHeartbeats 1000000 in
set_option maxRecDepth 100000 in
theorem fb_X7_passMonth_34 (P : Nat → Prop) (S0 : pq_S) (hc : Clo P S0) (n : Nat) (S1 : pq_S) : ∀ (a0 : Nat) (S : pq_S), Ag P S0 S → P a0 → b_X7_passMonth_34 n a0 S = some S1 → Ag P S0 S1 := by
  intro a0 S hA Ta0 hm
  rw [b_X7_passMonth_34] at hm
  obtain ⟨q8, hq8, hm⟩ := bd_some hm
  have Tq8 : P q8 := hA.clo hc Ta0 hq8
  obtain ⟨S_9, hq10, hm⟩ := bd_some hm
  have hA : Ag P S0 S_9 := hA.tr (fr_X8_openWants P n S (hA.cl hc) q8 (Tq8)  S_9 hq10)
  obtain ⟨q11, hq11, hm⟩ := bd_some hm
  have Tq11 : P q11 := hA.clo hc Ta0 hq11
  have hA : Ag P S0 (sI S_9 803 q11 ((pI S_9 803 q11) + (1 : Int32))) := hA.sI Tq11
  cases hm
  exact hA
set_option maxHeartbeats 1000000 in
set_option maxRecDepth 100000 in
theorem fb_X7_passMonth_2 (P : Nat → Prop) (S0 : pq_S) (hc : Clo P S0) (n : Nat) (S1 : pq_S) : ∀ (f : Nat) (a0 : Nat) (x1 : Int32) (S : pq_S), Ag P S0 S → P a0 → b_X7_passMonth_2 n f a0 x1 S = some S1 → Ag P S0 S1 := by
  intro f
  induction f with
  | zero =>
    intro a0 x1 S hA Ta0 hm
    cases hm
  | succ f ih =>
    intro a0 x1 S hA Ta0 hm
    rw [b_X7_passMonth_2] at hm
    obtain ⟨q1, hq1, hm⟩ := bd_some hm
    have Tq1 : P q1 := hA.clo hc Ta0 hq1
    obtain ⟨q2, hq2, hm⟩ := bd_some hm
    have Tq2 : P q2 := hA.clo hc Tq1 hq2
    by_cases h3 : (pI S 902 q2) ≤ x1
    · rw [if_pos h3] at hm
      exact fb_X7_passMonth_34 P S0 hc n S1 a0 S hA (Ta0) hm
    · rw [if_neg h3] at hm
      obtain ⟨S_4, hq5, hm⟩ := bd_some hm
      have hA : Ag P S0 S_4 := hA.tr (fr_X7_passMonthFor P n S (hA.cl hc) a0 x1 0 (Ta0)  S_4 hq5)
      obtain ⟨S_6, hq7, hm⟩ := bd_some hm
      have hA : Ag P S0 S_6 := hA.tr (fr_X7_passMonthFor P n S_4 (hA.cl hc) a0 x1 1 (Ta0)  S_6 hq7)
      exact ih a0 (x1 + 1) S_6 hA (Ta0) hm
set_option maxHeartbeats 1000000 in
set_option maxRecDepth 100000 in
theorem fr_X7_passMonth (P : Nat → Prop) (n : Nat) (S0 : pq_S) (hc : Clo P S0) (a0 : Nat) (Ta0 : P a0) (S1 : pq_S) (hm : m_X7_passMonth n a0 S0 = some S1) : Ag P S0 S1 := by
  have hA : Ag P S0 S0 := Ag.rf _ _
  rw [m_X7_passMonth] at hm
  exact fb_X7_passMonth_2 P S0 hc n S1 n a0 0 S0 hA (Ta0) hm
set_option maxHeartbeats 1000000 in
set_option maxRecDepth 100000 in
theorem fr_X7_findShafts (P : Nat → Prop) (n : Nat) (S0 : pq_S) (hc : Clo P S0) (a0 : Nat) (x1 : Int32) (x2 : Int32) (x3 : Int32) (Ta0 : P a0) (S1 : pq_S) (hm : m_X7_findShafts n a0 x1 x2 x3 S0 = some S1) : Ag P S0 S1 := by
  have hA : Ag P S0 S0 := Ag.rf _ _
  rw [m_X7_findShafts] at hm
  have hA : Ag P S0 (sI S0 704 a0 (-1)) := hA.sI Ta0
  have hA : Ag P S0 (sI (sI S0 704 a0 (-1)) 705 a0 0) := hA.sI Ta0
  obtain ⟨q1, hq1, hm⟩ := bd_some hm
  have Tq1 : P q1 := hA.clo hc Ta0 hq1
  obtain ⟨q2, hq2, hm⟩ := bd_some hm
  have Tq2 : P q2 := hA.clo hc Tq1 hq2
  obtain ⟨r5, S_3, hq4, hm⟩ := cb_some hm
  have hA : Ag P S0 S_3 := hA.tr (fr_X9_at P n (sI (sI S0 704 a0 (-1)) 705 a0 0) (hA.cl hc) q2 x1 0 (Tq2) r5 S_3 hq4)
  obtain ⟨S_6, hq7, hm⟩ := bd_some hm
  have hA : Ag P S0 S_6 := hA.tr (fr_X7_tryShafts P n S_3 (hA.cl hc) a0 x1 x2 x3 0 r5 0 0 (Ta0)  S_6 hq7)
  cases hm
  exact hA
set_option maxHeartbeats 1000000 in
set_option maxRecDepth 100000 in
theorem fb_X7_dearestWant_50 (P : Nat → Prop) (S0 : pq_S) (hc : Clo P S0) (n : Nat) (r : Int32) (S1 : pq_S) (k4 : Nat → Int32 → Int32 → pq_S → Option (Int32 × pq_S)) (hk4 : ∀ (a0 : Nat) (x1 : Int32) (x2 : Int32) (S : pq_S), Ag P S0 S → P a0 → k4 a0 x1 x2 S = some (r, S1) → Ag P S0 S1) : ∀ (a0 : Nat) (x1 : Int32) (x2 : Int32) (S : pq_S), Ag P S0 S → P a0 → b_X7_dearestWant_50 n k4 a0 x1 x2 S = some (r, S1) → Ag P S0 S1 := by
  intro a0 x1 x2 S hA Ta0 hm
  rw [b_X7_dearestWant_50] at hm
  exact hk4 a0 x1 (x2 + 1) S hA (Ta0) hm
set_option maxHeartbeats 1000000 in
set_option maxRecDepth 100000 in
theorem fb_X7_dearestWant_48 (P : Nat → Prop) (S0 : pq_S) (hc : Clo P S0) (n : Nat) (r : Int32) (S1 : pq_S) (k4 : Nat → Int32 → Int32 → pq_S → Option (Int32 × pq_S)) (hk4 : ∀ (a0 : Nat) (x1 : Int32) (x2 : Int32) (S : pq_S), Ag P S0 S → P a0 → k4 a0 x1 x2 S = some (r, S1) → Ag P S0 S1) : ∀ (a0 : Nat) (x2 : Int32) (S : pq_S), Ag P S0 S → P a0 → b_X7_dearestWant_48 n k4 a0 x2 S = some (r, S1) → Ag P S0 S1 := by
  intro a0 x2 S hA Ta0 hm
  rw [b_X7_dearestWant_48] at hm
  exact fb_X7_dearestWant_50 P S0 hc n r S1 _ hk4 a0 x2 x2 S hA (Ta0) hm
set_option maxHeartbeats 1000000 in
set_option maxRecDepth 100000 in
theorem fb_X7_dearestWant_4 (P : Nat → Prop) (S0 : pq_S) (hc : Clo P S0) (n : Nat) (r : Int32) (S1 : pq_S) : ∀ (f : Nat) (a0 : Nat) (x1 : Int32) (x2 : Int32) (S : pq_S), Ag P S0 S → P a0 → b_X7_dearestWant_4 n f a0 x1 x2 S = some (r, S1) → Ag P S0 S1 := by
  intro f
  induction f with
  | zero =>
    intro a0 x1 x2 S hA Ta0 hm
    cases hm
  | succ f ih =>
    intro a0 x1 x2 S hA Ta0 hm
    rw [b_X7_dearestWant_4] at hm
    obtain ⟨q1, hq1, hm⟩ := bd_some hm
    have Tq1 : P q1 := hA.clo hc Ta0 hq1
    obtain ⟨q2, hq2, hm⟩ := bd_some hm
    have Tq2 : P q2 := hA.clo hc Tq1 hq2
    by_cases h3 : (pI S 902 q2) ≤ x2
    · rw [if_pos h3] at hm
      cases hm
      exact hA
    · rw [if_neg h3] at hm
      obtain ⟨q4, hq4, hm⟩ := bd_some hm
      have Tq4 : P q4 := hA.clo hc Ta0 hq4
      obtain ⟨q5, hq5, hm⟩ := bd_some hm
      have Tq5 : P q5 := hA.clo hc Tq4 hq5
      obtain ⟨r8, S_6, hq7, hm⟩ := cb_some hm
      have hA : Ag P S0 S_6 := hA.tr (fr_X9_at P n S (hA.cl hc) q5 x2 0 (Tq5) r8 S_6 hq7)
      by_cases h9 : r8 = 1
      · rw [if_pos h9] at hm
        by_cases h10 : x1 = (-1)
        · rw [if_pos h10] at hm
          exact fb_X7_dearestWant_48 P S0 hc n r S1 _ ih a0 x2 S_6 hA (Ta0) hm
        · rw [if_neg h10] at hm
          obtain ⟨r13, S_11, hq12, hm⟩ := cb_some hm
          have hA : Ag P S0 S_11 := hA.tr (fr_X7_isDearer P n S_6 (hA.cl hc) a0 x2 x1 (Ta0) r13 S_11 hq12)
          by_cases h14 : r13 = 0
          · rw [if_pos h14] at hm
            exact fb_X7_dearestWant_50 P S0 hc n r S1 _ ih a0 x1 x2 S_11 hA (Ta0) hm
          · rw [if_neg h14] at hm
            exact fb_X7_dearestWant_48 P S0 hc n r S1 _ ih a0 x2 S_11 hA (Ta0) hm
      · rw [if_neg h9] at hm
        exact fb_X7_dearestWant_50 P S0 hc n r S1 _ ih a0 x1 x2 S_6 hA (Ta0) hm
set_option maxHeartbeats 1000000 in
set_option maxRecDepth 100000 in
theorem fr_X7_dearestWant (P : Nat → Prop) (n : Nat) (S0 : pq_S) (hc : Clo P S0) (a0 : Nat) (Ta0 : P a0) (r : Int32) (S1 : pq_S) (hm : m_X7_dearestWant n a0 S0 = some (r, S1)) : Ag P S0 S1 := by
  have hA : Ag P S0 S0 := Ag.rf _ _
  rw [m_X7_dearestWant] at hm
  exact fb_X7_dearestWant_4 P S0 hc n r S1 n a0 (-1) 0 S0 hA (Ta0) hm
set_option maxHeartbeats 1000000 in
set_option maxRecDepth 100000 in
theorem fb_X8_begin_155 (P : Nat → Prop) (S0 : pq_S) (hc : Clo P S0) (n : Nat) (S1 : pq_S) : ∀ (a0 : Nat) (S : pq_S), Ag P S0 S → P a0 → b_X8_begin_155 n a0 S = some S1 → Ag P S0 S1 := by
  intro a0 S hA Ta0 hm
  rw [b_X8_begin_155] at hm
  obtain ⟨S_42, hq43, hm⟩ := bd_some hm
  have hA : Ag P S0 S_42 := hA.tr (fr_X8_openWants P n S (hA.cl hc) a0 (Ta0)  S_42 hq43)
  have hA : Ag P S0 (sI S_42 803 a0 0) := hA.sI Ta0
  have hA : Ag P S0 (sI (sI S_42 803 a0 0) 804 a0 0) := hA.sI Ta0
  cases hm
  exact hA
set_option maxHeartbeats 1000000 in
set_option maxRecDepth 100000 in
theorem fb_X8_begin_120 (P : Nat → Prop) (S0 : pq_S) (hc : Clo P S0) (n : Nat) (S1 : pq_S) : ∀ (f : Nat) (a0 : Nat) (a1 : Nat) (x2 : Int32) (S : pq_S), Ag P S0 S → P a0 → P a1 → b_X8_begin_120 n f a0 a1 x2 S = some S1 → Ag P S0 S1 := by
  intro f
  induction f with
  | zero =>
    intro a0 a1 x2 S hA Ta0 Ta1 hm
    cases hm
  | succ f ih =>
    intro a0 a1 x2 S hA Ta0 Ta1 hm
    rw [b_X8_begin_120] at hm
    obtain ⟨q33, hq33, hm⟩ := bd_some hm
    have Tq33 : P q33 := hA.clo hc Ta0 hq33
    by_cases h34 : (pI S 902 q33) ≤ x2
    · rw [if_pos h34] at hm
      exact fb_X8_begin_155 P S0 hc n S1 a0 S hA (Ta0) hm
    · rw [if_neg h34] at hm
      obtain ⟨q35, hq35, hm⟩ := bd_some hm
      have Tq35 : P q35 := hA.clo hc Ta0 hq35
      obtain ⟨q36, hq36, hm⟩ := bd_some hm
      have Tq36 : P q36 := hA.clo hc Ta1 hq36
      obtain ⟨r39, S_37, hq38, hm⟩ := cb_some hm
      have hA : Ag P S0 S_37 := hA.tr (fr_X9_at P n S (hA.cl hc) q36 x2 1 (Tq36) r39 S_37 hq38)
      obtain ⟨S_40, hq41, hm⟩ := bd_some hm
      have hA : Ag P S0 S_40 := hA.tr (fr_X9_put P n S_37 (hA.cl hc) q35 x2 0 r39 (Tq35)  S_40 hq41)
      exact ih a0 a1 (x2 + 1) S_40 hA (Ta0) (Ta1) hm
set_option maxHeartbeats 1000000 in
set_option maxRecDepth 100000 in
theorem fb_X8_begin_118 (P : Nat → Prop) (S0 : pq_S) (hc : Clo P S0) (n : Nat) (S1 : pq_S) : ∀ (a0 : Nat) (a1 : Nat) (S : pq_S), Ag P S0 S → P a0 → P a1 → b_X8_begin_118 n a0 a1 S = some S1 → Ag P S0 S1 := by
  intro a0 a1 S hA Ta0 Ta1 hm
  rw [b_X8_begin_118] at hm
  exact fb_X8_begin_120 P S0 hc n S1 n a0 a1 0 S hA (Ta0) (Ta1) hm
set_option maxHeartbeats 1000000 in
set_option maxRecDepth 100000 in
theorem fb_X8_begin_65 (P : Nat → Prop) (S0 : pq_S) (hc : Clo P S0) (n : Nat) (S1 : pq_S) : ∀ (f : Nat) (a0 : Nat) (a1 : Nat) (x2 : Int32) (S : pq_S), Ag P S0 S → P a0 → P a1 → b_X8_begin_65 n f a0 a1 x2 S = some S1 → Ag P S0 S1 := by
  intro f
  induction f with
  | zero =>
    intro a0 a1 x2 S hA Ta0 Ta1 hm
    cases hm
  | succ f ih =>
    intro a0 a1 x2 S hA Ta0 Ta1 hm
    rw [b_X8_begin_65] at hm
    obtain ⟨q17, hq17, hm⟩ := bd_some hm
    have Tq17 : P q17 := hA.clo hc Ta0 hq17
    by_cases h18 : (pI S 902 q17) ≤ x2
    · rw [if_pos h18] at hm
      exact fb_X8_begin_118 P S0 hc n S1 a0 a1 S hA (Ta0) (Ta1) hm
    · rw [if_neg h18] at hm
      obtain ⟨q19, hq19, hm⟩ := bd_some hm
      have Tq19 : P q19 := hA.clo hc Ta0 hq19
      obtain ⟨q20, hq20, hm⟩ := bd_some hm
      have Tq20 : P q20 := hA.clo hc Ta1 hq20
      obtain ⟨r23, S_21, hq22, hm⟩ := cb_some hm
      have hA : Ag P S0 S_21 := hA.tr (fr_X9_at P n S (hA.cl hc) q20 x2 1 (Tq20) r23 S_21 hq22)
      obtain ⟨S_24, hq25, hm⟩ := bd_some hm
      have hA : Ag P S0 S_24 := hA.tr (fr_X9_put P n S_21 (hA.cl hc) q19 x2 0 r23 (Tq19)  S_24 hq25)
      obtain ⟨q26, hq26, hm⟩ := bd_some hm
      have Tq26 : P q26 := hA.clo hc Ta0 hq26
      obtain ⟨q27, hq27, hm⟩ := bd_some hm
      have Tq27 : P q27 := hA.clo hc Ta1 hq27
      obtain ⟨r30, S_28, hq29, hm⟩ := cb_some hm
      have hA : Ag P S0 S_28 := hA.tr (fr_X9_at P n S_24 (hA.cl hc) q27 x2 2 (Tq27) r30 S_28 hq29)
      obtain ⟨S_31, hq32, hm⟩ := bd_some hm
      have hA : Ag P S0 S_31 := hA.tr (fr_X9_put P n S_28 (hA.cl hc) q26 x2 1 r30 (Tq26)  S_31 hq32)
      exact ih a0 a1 (x2 + 1) S_31 hA (Ta0) (Ta1) hm
set_option maxHeartbeats 1000000 in
set_option maxRecDepth 100000 in
theorem fr_X8_begin (P : Nat → Prop) (n : Nat) (S0 : pq_S) (hc : Clo P S0) (a0 : Nat) (a1 : Nat) (Ta0 : P a0) (Ta1 : P a1) (S1 : pq_S) (hm : m_X8_begin n a0 a1 S0 = some S1) : Ag P S0 S1 := by
  have hA : Ag P S0 S0 := Ag.rf _ _
  rw [m_X8_begin] at hm
  obtain ⟨q1, hq1, hm⟩ := bd_some hm
  have Tq1 : P q1 := hA.clo hc Ta0 hq1
  obtain ⟨S_2, hq3, hm⟩ := bd_some hm
  have hA : Ag P S0 S_2 := hA.tr (fr_X9_clear P n S0 (hA.cl hc) q1 (Tq1)  S_2 hq3)
  obtain ⟨q4, hq4, hm⟩ := bd_some hm
  have Tq4 : P q4 := hA.clo hc Ta0 hq4
  obtain ⟨S_5, hq6, hm⟩ := bd_some hm
  have hA : Ag P S0 S_5 := hA.tr (fr_X9_clear P n S_2 (hA.cl hc) q4 (Tq4)  S_5 hq6)
  obtain ⟨q7, hq7, hm⟩ := bd_some hm
  have Tq7 : P q7 := hA.clo hc Ta0 hq7
  obtain ⟨S_8, hq9, hm⟩ := bd_some hm
  have hA : Ag P S0 S_8 := hA.tr (fr_X9_clear P n S_5 (hA.cl hc) q7 (Tq7)  S_8 hq9)
  obtain ⟨q10, hq10, hm⟩ := bd_some hm
  have Tq10 : P q10 := hA.clo hc Ta0 hq10
  obtain ⟨q11, hq11, hm⟩ := bd_some hm
  have Tq11 : P q11 := hA.clo hc Ta1 hq11
  have hA : Ag P S0 (sI S_8 902 q10 (pI S_8 902 q11)) := hA.sI Tq10
  obtain ⟨q12, hq12, hm⟩ := bd_some hm
  have Tq12 : P q12 := hA.clo hc Ta0 hq12
  obtain ⟨q13, hq13, hm⟩ := bd_some hm
  have Tq13 : P q13 := hA.clo hc Ta1 hq13
  have hA : Ag P S0 (sI (sI S_8 902 q10 (pI S_8 902 q11)) 902 q12 (pI (sI S_8 902 q10 (pI S_8 902 q11)) 902 q13)) := hA.sI Tq12
  obtain ⟨S_14, eS_14, hm⟩ := lt_some hm
  have hA : Ag P S0 S_14 := by rw [eS_14]; exact hA
  obtain ⟨q15, hq15, hm⟩ := bd_some hm
  have Tq15 : P q15 := hA.clo hc Ta0 hq15
  obtain ⟨q16, hq16, hm⟩ := bd_some hm
  have Tq16 : P q16 := hA.clo hc Ta1 hq16
  have hA : Ag P S0 (sI S_14 902 q15 (pI S_14 902 q16)) := hA.sI Tq15
  exact fb_X8_begin_65 P S0 hc n S1 n a0 a1 0 (sI S_14 902 q15 (pI S_14 902 q16)) hA (Ta0) (Ta1) hm
set_option maxHeartbeats 1000000 in
set_option maxRecDepth 100000 in
theorem fr_X11_undo (P : Nat → Prop) (n : Nat) (S0 : pq_S) (hc : Clo P S0) (a0 : Nat) (Ta0 : P a0) (r : Int32) (S1 : pq_S) (hm : m_X11_undo n a0 S0 = some (r, S1)) : Ag P S0 S1 := by
  have hA : Ag P S0 S0 := Ag.rf _ _
  rw [m_X11_undo] at hm
  obtain ⟨q1, hq1, hm⟩ := bd_some hm
  have Tq1 : P q1 := hA.clo hc Ta0 hq1
  by_cases h2 : (pI S0 501 q1) = 0
  · rw [if_pos h2] at hm
    cases hm
    exact hA
  · rw [if_neg h2] at hm
    obtain ⟨q3, hq3, hm⟩ := bd_some hm
    have Tq3 : P q3 := hA.clo hc Ta0 hq3
    obtain ⟨q4, hq4, hm⟩ := bd_some hm
    have Tq4 : P q4 := hA.clo hc Ta0 hq4
    obtain ⟨q5, hq5, hm⟩ := bd_some hm
    have Tq5 : P q5 := hA.clo hc Tq4 hq5
    obtain ⟨S_6, hq7, hm⟩ := bd_some hm
    have hA : Ag P S0 S_6 := hA.tr (fr_X5_pop P n S0 (hA.cl hc) q3 q5 (Tq3) (Tq5)  S_6 hq7)
    have hA : Ag P S0 (sI S_6 1114 a0 0) := hA.sI Ta0
    obtain ⟨q8, hq8, hm⟩ := bd_some hm
    have Tq8 : P q8 := hA.clo hc Ta0 hq8
    cases hm
    exact hA
set_option maxHeartbeats 1000000 in
set_option maxRecDepth 100000 in
theorem fr_X1_readClause (P : Nat → Prop) (n : Nat) (S0 : pq_S) (hc : Clo P S0) (a0 : Nat) (a1 : Nat) (x2 : Int32) (Ta0 : P a0) (Ta1 : P a1) (S1 : pq_S) (hm : m_X1_readClause n a0 a1 x2 S0 = some S1) : Ag P S0 S1 := by
  have hA : Ag P S0 S0 := Ag.rf _ _
  rw [m_X1_readClause] at hm
  obtain ⟨S_1, hq2, hm⟩ := bd_some hm
  have hA : Ag P S0 S_1 := hA.tr (fr_X10_takeWord P n S0 (hA.cl hc) a1 (Ta1)  S_1 hq2)
  obtain ⟨r5, S_3, hq4, hm⟩ := cb_some hm
  have hA : Ag P S0 S_3 := hA.tr (fr_X10_isWell P n S_1 (hA.cl hc) a1 (Ta1) r5 S_3 hq4)
  by_cases h6 : r5 = 0
  · rw [if_pos h6] at hm
    cases hm
    exact hA
  · rw [if_neg h6] at hm
    obtain ⟨r9, S_7, hq8, hm⟩ := cb_some hm
    have hA : Ag P S0 S_7 := hA.tr (fr_X10_isWord P n S_3 (hA.cl hc) a1 0 (Ta1) r9 S_7 hq8)
    by_cases h10 : r9 = 0
    · rw [if_pos h10] at hm
      obtain ⟨r13, S_11, hq12, hm⟩ := cb_some hm
      have hA : Ag P S0 S_11 := hA.tr (fr_X10_isWord P n S_7 (hA.cl hc) a1 1 (Ta1) r13 S_11 hq12)
      by_cases h14 : r13 = 0
      · rw [if_pos h14] at hm
        obtain ⟨r17, S_15, hq16, hm⟩ := cb_some hm
        have hA : Ag P S0 S_15 := hA.tr (fr_X10_isWord P n S_11 (hA.cl hc) a1 2 (Ta1) r17 S_15 hq16)
        by_cases h18 : r17 = 0
        · rw [if_pos h18] at hm
          obtain ⟨r21, S_19, hq20, hm⟩ := cb_some hm
          have hA : Ag P S0 S_19 := hA.tr (fr_X10_isWord P n S_15 (hA.cl hc) a1 3 (Ta1) r21 S_19 hq20)
          by_cases h22 : r21 = 0
          · rw [if_pos h22] at hm
            obtain ⟨r25, S_23, hq24, hm⟩ := cb_some hm
            have hA : Ag P S0 S_23 := hA.tr (fr_X10_isWord P n S_19 (hA.cl hc) a1 4 (Ta1) r25 S_23 hq24)
            by_cases h26 : r25 = 0
            · rw [if_pos h26] at hm
              obtain ⟨r29, S_27, hq28, hm⟩ := cb_some hm
              have hA : Ag P S0 S_27 := hA.tr (fr_X10_isWord P n S_23 (hA.cl hc) a1 5 (Ta1) r29 S_27 hq28)
              by_cases h30 : r29 = 0
              · rw [if_pos h30] at hm
                obtain ⟨S_31, hq32, hm⟩ := bd_some hm
                have hA : Ag P S0 S_31 := hA.tr (fr_X10_refuse P n S_27 (hA.cl hc) a1 1 (pI S_27 1004 a1) (Ta1)  S_31 hq32)
                cases hm
                exact hA
              · rw [if_neg h30] at hm
                obtain ⟨r35, S_33, hq34, hm⟩ := cb_some hm
                have hA : Ag P S0 S_33 := hA.tr (fr_X1_readSetting P n S_27 (hA.cl hc) a1 x2 99 (Ta1) r35 S_33 hq34)
                have hA : Ag P S0 (sI S_33 105 a0 r35) := hA.sI Ta0
                cases hm
                exact hA
            · rw [if_neg h26] at hm
              obtain ⟨r38, S_36, hq37, hm⟩ := cb_some hm
              have hA : Ag P S0 S_36 := hA.tr (fr_X1_readSetting P n S_23 (hA.cl hc) a1 x2 8 (Ta1) r38 S_36 hq37)
              have hA : Ag P S0 (sI S_36 104 a0 r38) := hA.sI Ta0
              cases hm
              exact hA
          · rw [if_neg h22] at hm
            obtain ⟨S_39, hq40, hm⟩ := bd_some hm
            have hA : Ag P S0 S_39 := hA.tr (fr_X1_readMoon P n S_19 (hA.cl hc) a0 a1 x2 (Ta0) (Ta1)  S_39 hq40)
            cases hm
            exact hA
        · rw [if_neg h18] at hm
          obtain ⟨S_41, hq42, hm⟩ := bd_some hm
          have hA : Ag P S0 S_41 := hA.tr (fr_X1_readMine P n S_15 (hA.cl hc) a0 a1 x2 (Ta0) (Ta1)  S_41 hq42)
          cases hm
          exact hA
      · rw [if_neg h14] at hm
        obtain ⟨S_43, hq44, hm⟩ := bd_some hm
        have hA : Ag P S0 S_43 := hA.tr (fr_X1_readWant P n S_11 (hA.cl hc) a0 a1 x2 (Ta0) (Ta1)  S_43 hq44)
        cases hm
        exact hA
    · rw [if_neg h10] at hm
      obtain ⟨S_45, hq46, hm⟩ := bd_some hm
      have hA : Ag P S0 S_45 := hA.tr (fr_X1_readPlace P n S_7 (hA.cl hc) a0 a1 x2 (Ta0) (Ta1)  S_45 hq46)
      cases hm
      exact hA
set_option maxHeartbeats 1000000 in
set_option maxRecDepth 100000 in
theorem fr_X3_isRest (P : Nat → Prop) (n : Nat) (S0 : pq_S) (hc : Clo P S0) (a0 : Nat) (x1 : Int32) (x2 : Int32) (x3 : Int32) (Ta0 : P a0) (r : Int32) (S1 : pq_S) (hm : m_X3_isRest n a0 x1 x2 x3 S0 = some (r, S1)) : Ag P S0 S1 := by
  have hA : Ag P S0 S0 := Ag.rf _ _
  rw [m_X3_isRest] at hm
  obtain ⟨r3, S_1, hq2, hm⟩ := cb_some hm
  have hA : Ag P S0 S_1 := hA.tr (fr_X3_isBestAgainst P n S0 (hA.cl hc) a0 x1 x2 x3 (Ta0) r3 S_1 hq2)
  by_cases h4 : r3 = 0
  · rw [if_pos h4] at hm
    cases hm
    exact hA
  · rw [if_neg h4] at hm
    obtain ⟨r7, S_5, hq6, hm⟩ := cb_some hm
    have hA : Ag P S0 S_5 := hA.tr (fr_X3_isBestAgainst P n S_1 (hA.cl hc) a0 x1 x3 x2 (Ta0) r7 S_5 hq6)
    by_cases h8 : r7 = 0
    · rw [if_pos h8] at hm
      cases hm
      exact hA
    · rw [if_neg h8] at hm
      cases hm
      exact hA
set_option maxHeartbeats 1000000 in
set_option maxRecDepth 100000 in
theorem fr_X6_doStep (P : Nat → Prop) (n : Nat) (S0 : pq_S) (hc : Clo P S0) (a0 : Nat) (a1 : Nat) (x2 : Int32) (Ta0 : P a0) (Ta1 : P a1) (r : Int32) (S1 : pq_S) (hm : m_X6_doStep n a0 a1 x2 S0 = some (r, S1)) : Ag P S0 S1 := by
  have hA : Ag P S0 S0 := Ag.rf _ _
  rw [m_X6_doStep] at hm
  obtain ⟨q1, hq1, hm⟩ := bd_some hm
  have Tq1 : P q1 := hA.clo hc Ta0 hq1
  obtain ⟨r4, S_2, hq3, hm⟩ := cb_some hm
  have hA : Ag P S0 S_2 := hA.tr (fr_X9_at P n S0 (hA.cl hc) q1 x2 1 (Tq1) r4 S_2 hq3)
  obtain ⟨q5, hq5, hm⟩ := bd_some hm
  have Tq5 : P q5 := hA.clo hc Ta0 hq5
  obtain ⟨r8, S_6, hq7, hm⟩ := cb_some hm
  have hA : Ag P S0 S_6 := hA.tr (fr_X9_at P n S_2 (hA.cl hc) q5 x2 2 (Tq5) r8 S_6 hq7)
  obtain ⟨q9, hq9, hm⟩ := bd_some hm
  have Tq9 : P q9 := hA.clo hc Ta0 hq9
  obtain ⟨r12, S_10, hq11, hm⟩ := cb_some hm
  have hA : Ag P S0 S_10 := hA.tr (fr_X9_at P n S_6 (hA.cl hc) q9 x2 0 (Tq9) r12 S_10 hq11)
  by_cases h13 : r12 = 0
  · rw [if_pos h13] at hm
    obtain ⟨q14, hq14, hm⟩ := bd_some hm
    have Tq14 : P q14 := hA.clo hc Ta0 hq14
    obtain ⟨r17, S_15, hq16, hm⟩ := cb_some hm
    have hA : Ag P S0 S_15 := hA.tr (fr_X9_at P n S_10 (hA.cl hc) q14 x2 3 (Tq14) r17 S_15 hq16)
    obtain ⟨q18, hq18, hm⟩ := bd_some hm
    have Tq18 : P q18 := hA.clo hc Ta0 hq18
    obtain ⟨r21, S_19, hq20, hm⟩ := cb_some hm
    have hA : Ag P S0 S_19 := hA.tr (fr_X9_at P n S_15 (hA.cl hc) q18 x2 4 (Tq18) r21 S_19 hq20)
    obtain ⟨r24, S_22, hq23, hm⟩ := cb_some hm
    have hA : Ag P S0 S_22 := hA.tr (fr_X7_carryHours P n S_19 (hA.cl hc) a1 r4 r8 r17 r21 (Ta1) r24 S_22 hq23)
    cases hm
    exact hA
  · rw [if_neg h13] at hm
    by_cases h25 : r12 = 1
    · rw [if_pos h25] at hm
      obtain ⟨r28, S_26, hq27, hm⟩ := cb_some hm
      have hA : Ag P S0 S_26 := hA.tr (fr_X7_sellWant P n S_10 (hA.cl hc) a1 r4 (Ta1) r28 S_26 hq27)
      cases hm
      exact hA
    · rw [if_neg h25] at hm
      by_cases h29 : r12 = 2
      · rw [if_pos h29] at hm
        obtain ⟨r32, S_30, hq31, hm⟩ := cb_some hm
        have hA : Ag P S0 S_30 := hA.tr (fr_X7_waterHours P n S_10 (hA.cl hc) a1 r4 r8 (Ta1) r32 S_30 hq31)
        cases hm
        exact hA
      · rw [if_neg h29] at hm
        by_cases h33 : r12 = 3
        · rw [if_pos h33] at hm
          obtain ⟨r36, S_34, hq35, hm⟩ := cb_some hm
          have hA : Ag P S0 S_34 := hA.tr (fr_X7_digShafts P n S_10 (hA.cl hc) a1 r4 r8 (Ta1) r36 S_34 hq35)
          cases hm
          exact hA
        · rw [if_neg h33] at hm
          obtain ⟨S_37, hq38, hm⟩ := bd_some hm
          have hA : Ag P S0 S_37 := hA.tr (fr_X7_passMonth P n S_10 (hA.cl hc) a1 (Ta1)  S_37 hq38)
          cases hm
          exact hA
set_option maxHeartbeats 1000000 in
set_option maxRecDepth 100000 in
theorem fr_X7_begin (P : Nat → Prop) (n : Nat) (S0 : pq_S) (hc : Clo P S0) (a0 : Nat) (a1 : Nat) (Ta0 : P a0) (Ta1 : P a1) (S1 : pq_S) (hm : m_X7_begin n a0 a1 S0 = some S1) : Ag P S0 S1 := by
  have hA : Ag P S0 S0 := Ag.rf _ _
  rw [m_X7_begin] at hm
  obtain ⟨q1, hq1, hm⟩ := bd_some hm
  have Tq1 : P q1 := hA.clo hc Ta0 hq1
  obtain ⟨S_2, hq3, hm⟩ := bd_some hm
  have hA : Ag P S0 S_2 := hA.tr (fr_X1_copyFrom P n S0 (hA.cl hc) q1 a1 (Tq1) (Ta1)  S_2 hq3)
  obtain ⟨q4, hq4, hm⟩ := bd_some hm
  have Tq4 : P q4 := hA.clo hc Ta0 hq4
  obtain ⟨q5, hq5, hm⟩ := bd_some hm
  have Tq5 : P q5 := hA.clo hc Ta0 hq5
  obtain ⟨S_6, hq7, hm⟩ := bd_some hm
  have hA : Ag P S0 S_6 := hA.tr (fr_X8_begin P n S_2 (hA.cl hc) q4 q5 (Tq4) (Tq5)  S_6 hq7)
  obtain ⟨q8, hq8, hm⟩ := bd_some hm
  have Tq8 : P q8 := hA.clo hc Ta0 hq8
  have hA : Ag P S0 (sI S_6 203 q8 0) := hA.sI Tq8
  obtain ⟨q9, hq9, hm⟩ := bd_some hm
  have Tq9 : P q9 := hA.clo hc Ta0 hq9
  have hA : Ag P S0 (sI (sI S_6 203 q8 0) 203 q9 0) := hA.sI Tq9
  cases hm
  exact hA
def FG_runS (n : Nat) (rec : (Nat → Nat → Int32 → Int32 → Int32 → pq_S → Option pq_S)) : Prop := (∀ (P : Nat → Prop) (S0 : pq_S) (_ : Clo P S0) (a0 : Nat) (a1 : Nat) (x2 : Int32) (x3 : Int32) (x4 : Int32) (_Ta0 : P a0) (_Ta1 : P a1) (S1 : pq_S), rec a0 a1 x2 x3 x4 S0 = some S1 → Ag P S0 S1)
set_option maxHeartbeats 1000000 in
set_option maxRecDepth 100000 in
theorem fb_X6_runSteps_108 (P : Nat → Prop) (S0 : pq_S) (hc : Clo P S0) (n : Nat) (rec : (Nat → Nat → Int32 → Int32 → Int32 → pq_S → Option pq_S)) (hrec : FG_runS n rec) (S1 : pq_S) (k2 : Nat → Nat → Int32 → Int32 → Int32 → pq_S → Option pq_S) (hk2 : ∀ (a0 : Nat) (a1 : Nat) (x3 : Int32) (x4 : Int32) (x5 : Int32) (S : pq_S), Ag P S0 S → P a0 → P a1 → k2 a0 a1 x3 x4 x5 S = some S1 → Ag P S0 S1) : ∀ (a0 : Nat) (a1 : Nat) (x3 : Int32) (x4 : Int32) (x6 : Int32) (S : pq_S), Ag P S0 S → P a0 → P a1 → b_X6_runSteps_108 n rec k2 a0 a1 x3 x4 x6 S = some S1 → Ag P S0 S1 := by
  intro a0 a1 x3 x4 x6 S hA Ta0 Ta1 hm
  rw [b_X6_runSteps_108] at hm
  exact hk2 a0 a1 x3 x4 x6 S hA (Ta0) (Ta1) hm
set_option maxHeartbeats 1000000 in
set_option maxRecDepth 100000 in
theorem fb_X6_runSteps_65 (P : Nat → Prop) (S0 : pq_S) (hc : Clo P S0) (n : Nat) (rec : (Nat → Nat → Int32 → Int32 → Int32 → pq_S → Option pq_S)) (hrec : FG_runS n rec) (S1 : pq_S) (k2 : Nat → Nat → Int32 → Int32 → Int32 → pq_S → Option pq_S) (hk2 : ∀ (a0 : Nat) (a1 : Nat) (x3 : Int32) (x4 : Int32) (x5 : Int32) (S : pq_S), Ag P S0 S → P a0 → P a1 → k2 a0 a1 x3 x4 x5 S = some S1 → Ag P S0 S1) : ∀ (f : Nat) (a0 : Nat) (a1 : Nat) (x3 : Int32) (x4 : Int32) (x5 : Int32) (x6 : Int32) (x7 : Int32) (S : pq_S), Ag P S0 S → P a0 → P a1 → b_X6_runSteps_65 n rec k2 f a0 a1 x3 x4 x5 x6 x7 S = some S1 → Ag P S0 S1 := by
  intro f
  induction f with
  | zero =>
    intro a0 a1 x3 x4 x5 x6 x7 S hA Ta0 Ta1 hm
    cases hm
  | succ f ih =>
    intro a0 a1 x3 x4 x5 x6 x7 S hA Ta0 Ta1 hm
    rw [b_X6_runSteps_65] at hm
    obtain ⟨q18, hq18, hm⟩ := bd_some hm
    have Tq18 : P q18 := hA.clo hc Ta0 hq18
    obtain ⟨r21, S_19, hq20, hm⟩ := cb_some hm
    have hA : Ag P S0 S_19 := hA.tr (fr_X9_at P n S (hA.cl hc) q18 x5 1 (Tq18) r21 S_19 hq20)
    by_cases h22 : r21 ≤ x7
    · rw [if_pos h22] at hm
      exact fb_X6_runSteps_108 P S0 hc n rec hrec S1 _ hk2 a0 a1 x3 x4 x6 S_19 hA (Ta0) (Ta1) hm
    · rw [if_neg h22] at hm
      by_cases h23 : 6 ≤ x4
      · rw [if_pos h23] at hm
        exact fb_X6_runSteps_108 P S0 hc n rec hrec S1 _ hk2 a0 a1 x3 x4 x6 S_19 hA (Ta0) (Ta1) hm
      · rw [if_neg h23] at hm
        obtain ⟨S_24, hq25, hm⟩ := bd_some hm
        have hA : Ag P S0 S_24 := hA.tr (hrec P S_19 (hA.cl hc) a0 a1 (x5 + (1 : Int32)) x6 (x4 + (1 : Int32)) (Ta0) (Ta1)  S_24 hq25)
        exact ih a0 a1 x3 x4 x5 x6 (x7 + 1) S_24 hA (Ta0) (Ta1) hm
set_option maxHeartbeats 1000000 in
set_option maxRecDepth 100000 in
theorem fb_X6_runSteps_3 (P : Nat → Prop) (S0 : pq_S) (hc : Clo P S0) (n : Nat) (rec : (Nat → Nat → Int32 → Int32 → Int32 → pq_S → Option pq_S)) (hrec : FG_runS n rec) (S1 : pq_S) : ∀ (f : Nat) (a0 : Nat) (a1 : Nat) (x3 : Int32) (x4 : Int32) (x5 : Int32) (S : pq_S), Ag P S0 S → P a0 → P a1 → b_X6_runSteps_3 n rec f a0 a1 x3 x4 x5 S = some S1 → Ag P S0 S1 := by
  intro f
  induction f with
  | zero =>
    intro a0 a1 x3 x4 x5 S hA Ta0 Ta1 hm
    cases hm
  | succ f ih =>
    intro a0 a1 x3 x4 x5 S hA Ta0 Ta1 hm
    rw [b_X6_runSteps_3] at hm
    by_cases h1 : x3 ≤ x5
    · rw [if_pos h1] at hm
      cases hm
      exact hA
    · rw [if_neg h1] at hm
      by_cases h2 : 200 ≤ (pI S 601 a0)
      · rw [if_pos h2] at hm
        cases hm
        exact hA
      · rw [if_neg h2] at hm
        have hA : Ag P S0 (sI S 601 a0 ((pI S 601 a0) + (1 : Int32))) := hA.sI Ta0
        obtain ⟨q3, hq3, hm⟩ := bd_some hm
        have Tq3 : P q3 := hA.clo hc Ta0 hq3
        obtain ⟨r6, S_4, hq5, hm⟩ := cb_some hm
        have hA : Ag P S0 S_4 := hA.tr (fr_X9_at P n (sI S 601 a0 ((pI S 601 a0) + (1 : Int32))) (hA.cl hc) q3 x5 0 (Tq3) r6 S_4 hq5)
        by_cases h7 : r6 = 5
        · rw [if_pos h7] at hm
          obtain ⟨q13, hq13, hm⟩ := bd_some hm
          have Tq13 : P q13 := hA.clo hc Ta0 hq13
          obtain ⟨r16, S_14, hq15, hm⟩ := cb_some hm
          have hA : Ag P S0 S_14 := hA.tr (fr_X9_at P n S_4 (hA.cl hc) q13 x5 2 (Tq13) r16 S_14 hq15)
          obtain ⟨v17, ev17, hm⟩ := lt_some hm
          exact fb_X6_runSteps_65 P S0 hc n rec hrec S1 _ ih n a0 a1 x3 x4 x5 v17 0 S_14 hA (Ta0) (Ta1) hm
        · rw [if_neg h7] at hm
          obtain ⟨r10, S_8, hq9, hm⟩ := cb_some hm
          have hA : Ag P S0 S_8 := hA.tr (fr_X6_doStep P n S_4 (hA.cl hc) a0 a1 x5 (Ta0) (Ta1) r10 S_8 hq9)
          obtain ⟨S_11, hq12, hm⟩ := bd_some hm
          have hA : Ag P S0 S_11 := hA.tr (fr_X6_keepAnswer P n S_8 (hA.cl hc) a0 r10 (Ta0)  S_11 hq12)
          exact ih a0 a1 x3 x4 (x5 + 1) S_11 hA (Ta0) (Ta1) hm
set_option maxHeartbeats 1000000 in
set_option maxRecDepth 100000 in
theorem fg_X6_runSteps (n : Nat) (rec : (Nat → Nat → Int32 → Int32 → Int32 → pq_S → Option pq_S)) (hrec : FG_runS n rec) (P : Nat → Prop) (S0 : pq_S) (hc : Clo P S0) (a0 : Nat) (a1 : Nat) (x2 : Int32) (x3 : Int32) (x4 : Int32) (Ta0 : P a0) (Ta1 : P a1) (S1 : pq_S) (hm : g_X6_runSteps n rec a0 a1 x2 x3 x4 S0 = some S1) : Ag P S0 S1 := by
  have hA : Ag P S0 S0 := Ag.rf _ _
  rw [g_X6_runSteps] at hm
  exact fb_X6_runSteps_3 P S0 hc n rec hrec S1 n a0 a1 x3 x4 x2 S0 hA (Ta0) (Ta1) hm
theorem fh_runS (n : Nat) : ∀ d : Nat, FG_runS n (m_runS_d n d) := by
  intro d
  induction d with
  | zero =>
    exact (fun _ _ _ _ _ _ _ _ _ _ _ hm => by cases hm)
  | succ d ih =>
    exact (fun q0 q1 q2 q3 q4 q5 q6 q7 q8 q9 q10 hm => fg_X6_runSteps n _ ih q0 q1 q2 q3 q4 q5 q6 q7 q8 q9 q10 hm)
theorem fr_X6_runSteps (P : Nat → Prop) (n : Nat) (S0 : pq_S) (hc : Clo P S0) (a0 : Nat) (a1 : Nat) (x2 : Int32) (x3 : Int32) (x4 : Int32) (Ta0 : P a0) (Ta1 : P a1) (S1 : pq_S) (hm : m_X6_runSteps n a0 a1 x2 x3 x4 S0 = some S1) : Ag P S0 S1 := (fh_runS n 64) P S0 hc a0 a1 x2 x3 x4 Ta0 Ta1 S1 hm
set_option maxHeartbeats 1000000 in
set_option maxRecDepth 100000 in
theorem fb_X1_read_68 (P : Nat → Prop) (S0 : pq_S) (hc : Clo P S0) (n : Nat) (S1 : pq_S) (k20 : Nat → Nat → Int32 → pq_S → Option pq_S) (hk20 : ∀ (a0 : Nat) (a1 : Nat) (x2 : Int32) (S : pq_S), Ag P S0 S → P a0 → P a1 → k20 a0 a1 x2 S = some S1 → Ag P S0 S1) : ∀ (a0 : Nat) (a1 : Nat) (x2 : Int32) (b0 : Nat) (b1 : Nat) (z2 : Int32) (S : pq_S), Ag P S0 S → P a0 → P a1 → P b0 → P b1 → b_X1_read_68 n k20 a0 a1 x2 b0 b1 z2 S = some S1 → Ag P S0 S1 := by
  intro a0 a1 x2 b0 b1 z2 S hA Ta0 Ta1 Tb0 Tb1 hm
  rw [b_X1_read_68] at hm
  obtain ⟨S_19, hq20, hm⟩ := bd_some hm
  have hA : Ag P S0 S_19 := hA.tr (fr_X1_readClause P n S (hA.cl hc) b0 b1 z2 (Tb0) (Tb1)  S_19 hq20)
  obtain ⟨S_21, hq22, hm⟩ := bd_some hm
  have hA : Ag P S0 S_21 := hA.tr (fr_X10_takeSign P n S_19 (hA.cl hc) a1 59 (Ta1)  S_21 hq22)
  exact hk20 a0 a1 (x2 + 1) S_21 hA (Ta0) (Ta1) hm
set_option maxHeartbeats 1000000 in
set_option maxRecDepth 100000 in
theorem fb_X1_read_40 (P : Nat → Prop) (S0 : pq_S) (hc : Clo P S0) (n : Nat) (S1 : pq_S) : ∀ (f : Nat) (a0 : Nat) (a1 : Nat) (x2 : Int32) (S : pq_S), Ag P S0 S → P a0 → P a1 → b_X1_read_40 n f a0 a1 x2 S = some S1 → Ag P S0 S1 := by
  intro f
  induction f with
  | zero =>
    intro a0 a1 x2 S hA Ta0 Ta1 hm
    cases hm
  | succ f ih =>
    intro a0 a1 x2 S hA Ta0 Ta1 hm
    rw [b_X1_read_40] at hm
    by_cases h13 : 600 < x2
    · rw [if_pos h13] at hm
      cases hm
      exact hA
    · rw [if_neg h13] at hm
      obtain ⟨r16, S_14, hq15, hm⟩ := cb_some hm
      have hA : Ag P S0 S_14 := hA.tr (fr_X10_next P n S (hA.cl hc) a1 (Ta1) r16 S_14 hq15)
      by_cases h17 : r16 = (-1)
      · rw [if_pos h17] at hm
        cases hm
        exact hA
      · rw [if_neg h17] at hm
        by_cases h18 : x2 < 60
        · rw [if_pos h18] at hm
          exact fb_X1_read_68 P S0 hc n S1 _ ih a0 a1 x2 a0 a1 0 S_14 hA (Ta0) (Ta1) (Ta0) (Ta1) hm
        · rw [if_neg h18] at hm
          exact fb_X1_read_68 P S0 hc n S1 _ ih a0 a1 x2 a0 a1 1 S_14 hA (Ta0) (Ta1) (Ta0) (Ta1) hm
set_option maxHeartbeats 1000000 in
set_option maxRecDepth 100000 in
theorem fr_X1_read (P : Nat → Prop) (n : Nat) (S0 : pq_S) (hc : Clo P S0) (a0 : Nat) (a1 : Nat) (Ta0 : P a0) (Ta1 : P a1) (S1 : pq_S) (hm : m_X1_read n a0 a1 S0 = some S1) : Ag P S0 S1 := by
  have hA : Ag P S0 S0 := Ag.rf _ _
  rw [m_X1_read] at hm
  obtain ⟨q1, hq1, hm⟩ := bd_some hm
  have Tq1 : P q1 := hA.clo hc Ta0 hq1
  obtain ⟨S_2, hq3, hm⟩ := bd_some hm
  have hA : Ag P S0 S_2 := hA.tr (fr_X9_clear P n S0 (hA.cl hc) q1 (Tq1)  S_2 hq3)
  obtain ⟨q4, hq4, hm⟩ := bd_some hm
  have Tq4 : P q4 := hA.clo hc Ta0 hq4
  obtain ⟨S_5, hq6, hm⟩ := bd_some hm
  have hA : Ag P S0 S_5 := hA.tr (fr_X9_clear P n S_2 (hA.cl hc) q4 (Tq4)  S_5 hq6)
  obtain ⟨q7, hq7, hm⟩ := bd_some hm
  have Tq7 : P q7 := hA.clo hc Ta0 hq7
  obtain ⟨S_8, hq9, hm⟩ := bd_some hm
  have hA : Ag P S0 S_8 := hA.tr (fr_X9_clear P n S_5 (hA.cl hc) q7 (Tq7)  S_8 hq9)
  obtain ⟨q10, hq10, hm⟩ := bd_some hm
  have Tq10 : P q10 := hA.clo hc Ta0 hq10
  obtain ⟨S_11, hq12, hm⟩ := bd_some hm
  have hA : Ag P S0 S_11 := hA.tr (fr_X9_clear P n S_8 (hA.cl hc) q10 (Tq10)  S_11 hq12)
  have hA : Ag P S0 (sI S_11 104 a0 1) := hA.sI Ta0
  have hA : Ag P S0 (sI (sI S_11 104 a0 1) 105 a0 3) := hA.sI Ta0
  exact fb_X1_read_40 P S0 hc n S1 n a0 a1 0 (sI (sI S_11 104 a0 1) 105 a0 3) hA (Ta0) (Ta1) hm
set_option maxHeartbeats 1000000 in
set_option maxRecDepth 100000 in
theorem fb_X3_findRests_61 (P : Nat → Prop) (S0 : pq_S) (hc : Clo P S0) (n : Nat) (S1 : pq_S) (k2 : Nat → Int32 → Int32 → Int32 → pq_S → Option pq_S) (hk2 : ∀ (a0 : Nat) (x1 : Int32) (x2 : Int32) (x3 : Int32) (S : pq_S), Ag P S0 S → P a0 → k2 a0 x1 x2 x3 S = some S1 → Ag P S0 S1) : ∀ (a0 : Nat) (x1 : Int32) (x2 : Int32) (x3 : Int32) (S : pq_S), Ag P S0 S → P a0 → b_X3_findRests_61 n k2 a0 x1 x2 x3 S = some S1 → Ag P S0 S1 := by
  intro a0 x1 x2 x3 S hA Ta0 hm
  rw [b_X3_findRests_61] at hm
  exact hk2 a0 x1 x2 (x3 + 1) S hA (Ta0) hm
set_option maxHeartbeats 1000000 in
set_option maxRecDepth 100000 in
theorem fb_X3_findRests_26 (P : Nat → Prop) (S0 : pq_S) (hc : Clo P S0) (n : Nat) (S1 : pq_S) (k2 : Nat → Int32 → Int32 → Int32 → pq_S → Option pq_S) (hk2 : ∀ (a0 : Nat) (x1 : Int32) (x2 : Int32) (x3 : Int32) (S : pq_S), Ag P S0 S → P a0 → k2 a0 x1 x2 x3 S = some S1 → Ag P S0 S1) : ∀ (f : Nat) (a0 : Nat) (x1 : Int32) (x2 : Int32) (x3 : Int32) (x4 : Int32) (S : pq_S), Ag P S0 S → P a0 → b_X3_findRests_26 n k2 f a0 x1 x2 x3 x4 S = some S1 → Ag P S0 S1 := by
  intro f
  induction f with
  | zero =>
    intro a0 x1 x2 x3 x4 S hA Ta0 hm
    cases hm
  | succ f ih =>
    intro a0 x1 x2 x3 x4 S hA Ta0 hm
    rw [b_X3_findRests_26] at hm
    by_cases h6 : x2 < x4
    · rw [if_pos h6] at hm
      exact fb_X3_findRests_61 P S0 hc n S1 _ hk2 a0 x1 x2 x3 S hA (Ta0) hm
    · rw [if_neg h6] at hm
      obtain ⟨q7, hq7, hm⟩ := bd_some hm
      have Tq7 : P q7 := hA.clo hc Ta0 hq7
      obtain ⟨q8, hq8, hm⟩ := bd_some hm
      have Tq8 : P q8 := hA.clo hc Ta0 hq8
      obtain ⟨hi9, hm⟩ := ck_some hm
      obtain ⟨r12, S_10, hq11, hm⟩ := cb_some hm
      have hA : Ag P S0 S_10 := hA.tr (fr_X3_gained P n S (hA.cl hc) a0 x1 x4 x3 (Ta0) r12 S_10 hq11)
      obtain ⟨hi13, hm⟩ := ck_some hm
      have hA : Ag P S0 (sA S_10 q7 (Int32.toNatClampNeg x3) (if (pA S q8 (Int32.toNatClampNeg x3)) < r12 then r12 else (pA S q8 (Int32.toNatClampNeg x3)))) := hA.sA Tq7
      obtain ⟨S_14, eS_14, hm⟩ := lt_some hm
      have hA : Ag P S0 S_14 := by rw [eS_14]; exact hA
      exact ih a0 x1 x2 x3 (x4 + 1) S_14 hA (Ta0) hm
set_option maxHeartbeats 1000000 in
set_option maxRecDepth 100000 in
theorem fb_X3_findRests_117 (P : Nat → Prop) (S0 : pq_S) (hc : Clo P S0) (n : Nat) (S1 : pq_S) (k49 : Nat → Int32 → Int32 → Int32 → pq_S → Option pq_S) (hk49 : ∀ (a0 : Nat) (x1 : Int32) (x2 : Int32) (x3 : Int32) (S : pq_S), Ag P S0 S → P a0 → k49 a0 x1 x2 x3 S = some S1 → Ag P S0 S1) (k54 : Nat → Int32 → Int32 → Int32 → Int32 → pq_S → Option pq_S) (hk54 : ∀ (a0 : Nat) (x1 : Int32) (x2 : Int32) (x3 : Int32) (x4 : Int32) (S : pq_S), Ag P S0 S → P a0 → k54 a0 x1 x2 x3 x4 S = some S1 → Ag P S0 S1) : ∀ (a0 : Nat) (x1 : Int32) (x2 : Int32) (x3 : Int32) (x4 : Int32) (S : pq_S), Ag P S0 S → P a0 → b_X3_findRests_117 n k49 k54 a0 x1 x2 x3 x4 S = some S1 → Ag P S0 S1 := by
  intro a0 x1 x2 x3 x4 S hA Ta0 hm
  rw [b_X3_findRests_117] at hm
  exact hk54 a0 x1 x2 x3 (x4 + 1) S hA (Ta0) hm
set_option maxHeartbeats 1000000 in
set_option maxRecDepth 100000 in
theorem fb_X3_findRests_123 (P : Nat → Prop) (S0 : pq_S) (hc : Clo P S0) (n : Nat) (S1 : pq_S) (k49 : Nat → Int32 → Int32 → Int32 → pq_S → Option pq_S) (hk49 : ∀ (a0 : Nat) (x1 : Int32) (x2 : Int32) (x3 : Int32) (S : pq_S), Ag P S0 S → P a0 → k49 a0 x1 x2 x3 S = some S1 → Ag P S0 S1) : ∀ (a0 : Nat) (x1 : Int32) (x2 : Int32) (x3 : Int32) (S : pq_S), Ag P S0 S → P a0 → b_X3_findRests_123 n k49 a0 x1 x2 x3 S = some S1 → Ag P S0 S1 := by
  intro a0 x1 x2 x3 S hA Ta0 hm
  rw [b_X3_findRests_123] at hm
  exact hk49 a0 x1 x2 (x3 + 1) S hA (Ta0) hm
set_option maxHeartbeats 1000000 in
set_option maxRecDepth 100000 in
theorem fb_X3_findRests_92 (P : Nat → Prop) (S0 : pq_S) (hc : Clo P S0) (n : Nat) (S1 : pq_S) (k49 : Nat → Int32 → Int32 → Int32 → pq_S → Option pq_S) (hk49 : ∀ (a0 : Nat) (x1 : Int32) (x2 : Int32) (x3 : Int32) (S : pq_S), Ag P S0 S → P a0 → k49 a0 x1 x2 x3 S = some S1 → Ag P S0 S1) : ∀ (f : Nat) (a0 : Nat) (x1 : Int32) (x2 : Int32) (x3 : Int32) (x4 : Int32) (S : pq_S), Ag P S0 S → P a0 → b_X3_findRests_92 n k49 f a0 x1 x2 x3 x4 S = some S1 → Ag P S0 S1 := by
  intro f
  induction f with
  | zero =>
    intro a0 x1 x2 x3 x4 S hA Ta0 hm
    cases hm
  | succ f ih =>
    intro a0 x1 x2 x3 x4 S hA Ta0 hm
    rw [b_X3_findRests_92] at hm
    by_cases h16 : x2 < x4
    · rw [if_pos h16] at hm
      exact fb_X3_findRests_123 P S0 hc n S1 _ hk49 a0 x1 x2 x3 S hA (Ta0) hm
    · rw [if_neg h16] at hm
      obtain ⟨r19, S_17, hq18, hm⟩ := cb_some hm
      have hA : Ag P S0 S_17 := hA.tr (fr_X3_isRest P n S (hA.cl hc) a0 x1 x3 x4 (Ta0) r19 S_17 hq18)
      by_cases h20 : r19 = 0
      · rw [if_pos h20] at hm
        exact fb_X3_findRests_117 P S0 hc n S1 _ hk49 _ ih a0 x1 x2 x3 x4 S_17 hA (Ta0) hm
      · rw [if_neg h20] at hm
        obtain ⟨S_21, hq22, hm⟩ := bd_some hm
        have hA : Ag P S0 S_21 := hA.tr (fr_X3_keepRest P n S_17 (hA.cl hc) a0 x1 x3 x4 (Ta0)  S_21 hq22)
        exact fb_X3_findRests_117 P S0 hc n S1 _ hk49 _ ih a0 x1 x2 x3 x4 S_21 hA (Ta0) hm
set_option maxHeartbeats 1000000 in
set_option maxRecDepth 100000 in
theorem fb_X3_findRests_84 (P : Nat → Prop) (S0 : pq_S) (hc : Clo P S0) (n : Nat) (S1 : pq_S) : ∀ (f : Nat) (a0 : Nat) (x1 : Int32) (x2 : Int32) (x3 : Int32) (S : pq_S), Ag P S0 S → P a0 → b_X3_findRests_84 n f a0 x1 x2 x3 S = some S1 → Ag P S0 S1 := by
  intro f
  induction f with
  | zero =>
    intro a0 x1 x2 x3 S hA Ta0 hm
    cases hm
  | succ f ih =>
    intro a0 x1 x2 x3 S hA Ta0 hm
    rw [b_X3_findRests_84] at hm
    by_cases h15 : x2 < x3
    · rw [if_pos h15] at hm
      cases hm
      exact hA
    · rw [if_neg h15] at hm
      exact fb_X3_findRests_92 P S0 hc n S1 _ ih n a0 x1 x2 x3 0 S hA (Ta0) hm
set_option maxHeartbeats 1000000 in
set_option maxRecDepth 100000 in
theorem fb_X3_findRests_67 (P : Nat → Prop) (S0 : pq_S) (hc : Clo P S0) (n : Nat) (S1 : pq_S) : ∀ (a0 : Nat) (x1 : Int32) (x2 : Int32) (S : pq_S), Ag P S0 S → P a0 → b_X3_findRests_67 n a0 x1 x2 S = some S1 → Ag P S0 S1 := by
  intro a0 x1 x2 S hA Ta0 hm
  rw [b_X3_findRests_67] at hm
  have hA : Ag P S0 (sI S 306 a0 0) := hA.sI Ta0
  have hA : Ag P S0 (sI (sI S 306 a0 0) 307 a0 (-1)) := hA.sI Ta0
  have hA : Ag P S0 (sI (sI (sI S 306 a0 0) 307 a0 (-1)) 308 a0 0) := hA.sI Ta0
  exact fb_X3_findRests_84 P S0 hc n S1 n a0 x1 x2 0 (sI (sI (sI S 306 a0 0) 307 a0 (-1)) 308 a0 0) hA (Ta0) hm
set_option maxHeartbeats 1000000 in
set_option maxRecDepth 100000 in
theorem fb_X3_findRests_2 (P : Nat → Prop) (S0 : pq_S) (hc : Clo P S0) (n : Nat) (S1 : pq_S) : ∀ (f : Nat) (a0 : Nat) (x1 : Int32) (x2 : Int32) (x3 : Int32) (S : pq_S), Ag P S0 S → P a0 → b_X3_findRests_2 n f a0 x1 x2 x3 S = some S1 → Ag P S0 S1 := by
  intro f
  induction f with
  | zero =>
    intro a0 x1 x2 x3 S hA Ta0 hm
    cases hm
  | succ f ih =>
    intro a0 x1 x2 x3 S hA Ta0 hm
    rw [b_X3_findRests_2] at hm
    by_cases h1 : x2 < x3
    · rw [if_pos h1] at hm
      exact fb_X3_findRests_67 P S0 hc n S1 a0 x1 x2 S hA (Ta0) hm
    · rw [if_neg h1] at hm
      obtain ⟨q2, hq2, hm⟩ := bd_some hm
      have Tq2 : P q2 := hA.clo hc Ta0 hq2
      by_cases h3 : (Int32.ofNat (pN S q2)) ≤ x3
      · rw [if_pos h3] at hm
        exact fb_X3_findRests_67 P S0 hc n S1 a0 x1 x2 S hA (Ta0) hm
      · rw [if_neg h3] at hm
        obtain ⟨q4, hq4, hm⟩ := bd_some hm
        have Tq4 : P q4 := hA.clo hc Ta0 hq4
        obtain ⟨hi5, hm⟩ := ck_some hm
        have hA : Ag P S0 (sA S q4 (Int32.toNatClampNeg x3) 0) := hA.sA Tq4
        exact fb_X3_findRests_26 P S0 hc n S1 _ ih n a0 x1 x2 x3 0 (sA S q4 (Int32.toNatClampNeg x3) 0) hA (Ta0) hm
set_option maxHeartbeats 1000000 in
set_option maxRecDepth 100000 in
theorem fr_X3_findRests (P : Nat → Prop) (n : Nat) (S0 : pq_S) (hc : Clo P S0) (a0 : Nat) (x1 : Int32) (x2 : Int32) (Ta0 : P a0) (S1 : pq_S) (hm : m_X3_findRests n a0 x1 x2 S0 = some S1) : Ag P S0 S1 := by
  have hA : Ag P S0 S0 := Ag.rf _ _
  rw [m_X3_findRests] at hm
  exact fb_X3_findRests_2 P S0 hc n S1 n a0 x1 x2 0 S0 hA (Ta0) hm
