set_option maxHeartbeats 1000000 in
set_option maxRecDepth 100000 in
theorem fr_X12_place (P : Nat → Prop) (n : Nat) (S0 : pq_S) (hc : Clo P S0) (a0 : Nat) (x1 : Int32) (x2 : Int32) (Ta0 : P a0) (r : Int32) (S1 : pq_S) (hm : m_X12_place n a0 x1 x2 S0 = some (r, S1)) : Ag P S0 S1 := by
  have hA : Ag P S0 S0 := Ag.rf _ _
  rw [m_X12_place] at hm
  have hA : Ag P S0 (sI S0 1200 a0 0) := hA.sI Ta0
  obtain ⟨r3, S_1, hq2, hm⟩ := cb_some hm
  have hA : Ag P S0 S_1 := hA.tr (fr_X12_isPlace P n (sI S0 1200 a0 0) (hA.cl hc) a0 x1 1 (Ta0) r3 S_1 hq2)
  by_cases h4 : r3 = 0
  · rw [if_pos h4] at hm
    cases hm
    exact hA
  · rw [if_neg h4] at hm
    obtain ⟨r7, S_5, hq6, hm⟩ := cb_some hm
    have hA : Ag P S0 S_5 := hA.tr (fr_X12_within P n S_1 (hA.cl hc) x2 0 5  r7 S_5 hq6)
    obtain ⟨r10, S_8, hq9, hm⟩ := cb_some hm
    have hA : Ag P S0 S_8 := hA.tr (fr_X12_may P n S_5 (hA.cl hc) a0 r7 2 1 (Ta0) r10 S_8 hq9)
    by_cases h11 : r10 = 0
    · rw [if_pos h11] at hm
      cases hm
      exact hA
    · rw [if_neg h11] at hm
      obtain ⟨S_12, hq13, hm⟩ := bd_some hm
      have hA : Ag P S0 S_12 := hA.tr (fr_X12_take P n S_8 (hA.cl hc) a0 (Ta0)  S_12 hq13)
      by_cases h14 : 2 ≤ x2
      · rw [if_pos h14] at hm
        by_cases h15 : 4 ≤ x2
        · rw [if_pos h15] at hm
          by_cases h16 : x2 = 4
          · rw [if_pos h16] at hm
            obtain ⟨q20, hq20, hm⟩ := bd_some hm
            have Tq20 : P q20 := hA.clo hc Ta0 hq20
            obtain ⟨hi21, hm⟩ := ck_some hm
            cases hm
            exact hA
          · rw [if_neg h16] at hm
            obtain ⟨r19, S_17, hq18, hm⟩ := cb_some hm
            have hA : Ag P S0 S_17 := hA.tr (fr_X12_hoursOf P n S_12 (hA.cl hc) a0 x1 0 (Ta0) r19 S_17 hq18)
            cases hm
            exact hA
        · rw [if_neg h15] at hm
          by_cases h22 : x2 = 2
          · rw [if_pos h22] at hm
            obtain ⟨q25, hq25, hm⟩ := bd_some hm
            have Tq25 : P q25 := hA.clo hc Ta0 hq25
            obtain ⟨hi26, hm⟩ := ck_some hm
            cases hm
            exact hA
          · rw [if_neg h22] at hm
            obtain ⟨q23, hq23, hm⟩ := bd_some hm
            have Tq23 : P q23 := hA.clo hc Ta0 hq23
            obtain ⟨hi24, hm⟩ := ck_some hm
            cases hm
            exact hA
      · rw [if_neg h14] at hm
        by_cases h27 : x2 = 0
        · rw [if_pos h27] at hm
          obtain ⟨q30, hq30, hm⟩ := bd_some hm
          have Tq30 : P q30 := hA.clo hc Ta0 hq30
          obtain ⟨hi31, hm⟩ := ck_some hm
          cases hm
          exact hA
        · rw [if_neg h27] at hm
          obtain ⟨q28, hq28, hm⟩ := bd_some hm
          have Tq28 : P q28 := hA.clo hc Ta0 hq28
          obtain ⟨hi29, hm⟩ := ck_some hm
          cases hm
          exact hA
set_option maxHeartbeats 1000000 in
set_option maxRecDepth 100000 in
theorem fr_X12_want (P : Nat → Prop) (n : Nat) (S0 : pq_S) (hc : Clo P S0) (a0 : Nat) (x1 : Int32) (x2 : Int32) (Ta0 : P a0) (r : Int32) (S1 : pq_S) (hm : m_X12_want n a0 x1 x2 S0 = some (r, S1)) : Ag P S0 S1 := by
  have hA : Ag P S0 S0 := Ag.rf _ _
  rw [m_X12_want] at hm
  have hA : Ag P S0 (sI S0 1200 a0 0) := hA.sI Ta0
  obtain ⟨r3, S_1, hq2, hm⟩ := cb_some hm
  have hA : Ag P S0 S_1 := hA.tr (fr_X12_isWant P n (sI S0 1200 a0 0) (hA.cl hc) a0 x1 1 (Ta0) r3 S_1 hq2)
  by_cases h4 : r3 = 0
  · rw [if_pos h4] at hm
    cases hm
    exact hA
  · rw [if_neg h4] at hm
    obtain ⟨r7, S_5, hq6, hm⟩ := cb_some hm
    have hA : Ag P S0 S_5 := hA.tr (fr_X12_within P n S_1 (hA.cl hc) x2 0 5  r7 S_5 hq6)
    obtain ⟨r10, S_8, hq9, hm⟩ := cb_some hm
    have hA : Ag P S0 S_8 := hA.tr (fr_X12_may P n S_5 (hA.cl hc) a0 r7 2 1 (Ta0) r10 S_8 hq9)
    by_cases h11 : r10 = 0
    · rw [if_pos h11] at hm
      cases hm
      exact hA
    · rw [if_neg h11] at hm
      by_cases h12 : 4 ≤ x2
      · rw [if_pos h12] at hm
        by_cases h13 : x2 = 4
        · rw [if_pos h13] at hm
          obtain ⟨q16, hq16, hm⟩ := bd_some hm
          have Tq16 : P q16 := hA.clo hc Ta0 hq16
          obtain ⟨hi17, hm⟩ := ck_some hm
          cases hm
          exact hA
        · rw [if_neg h13] at hm
          obtain ⟨q14, hq14, hm⟩ := bd_some hm
          have Tq14 : P q14 := hA.clo hc Ta0 hq14
          obtain ⟨hi15, hm⟩ := ck_some hm
          cases hm
          exact hA
      · rw [if_neg h12] at hm
        obtain ⟨q18, hq18, hm⟩ := bd_some hm
        have Tq18 : P q18 := hA.clo hc Ta0 hq18
        obtain ⟨hi19, hm⟩ := ck_some hm
        cases hm
        exact hA
set_option maxHeartbeats 1000000 in
set_option maxRecDepth 100000 in
theorem fr_X12_mine (P : Nat → Prop) (n : Nat) (S0 : pq_S) (hc : Clo P S0) (a0 : Nat) (x1 : Int32) (x2 : Int32) (Ta0 : P a0) (r : Int32) (S1 : pq_S) (hm : m_X12_mine n a0 x1 x2 S0 = some (r, S1)) : Ag P S0 S1 := by
  have hA : Ag P S0 S0 := Ag.rf _ _
  rw [m_X12_mine] at hm
  have hA : Ag P S0 (sI S0 1200 a0 0) := hA.sI Ta0
  obtain ⟨r3, S_1, hq2, hm⟩ := cb_some hm
  have hA : Ag P S0 S_1 := hA.tr (fr_X12_isMine P n (sI S0 1200 a0 0) (hA.cl hc) a0 x1 1 (Ta0) r3 S_1 hq2)
  by_cases h4 : r3 = 0
  · rw [if_pos h4] at hm
    cases hm
    exact hA
  · rw [if_neg h4] at hm
    obtain ⟨r7, S_5, hq6, hm⟩ := cb_some hm
    have hA : Ag P S0 S_5 := hA.tr (fr_X12_within P n S_1 (hA.cl hc) x2 0 4  r7 S_5 hq6)
    obtain ⟨r10, S_8, hq9, hm⟩ := cb_some hm
    have hA : Ag P S0 S_8 := hA.tr (fr_X12_may P n S_5 (hA.cl hc) a0 r7 2 1 (Ta0) r10 S_8 hq9)
    by_cases h11 : r10 = 0
    · rw [if_pos h11] at hm
      cases hm
      exact hA
    · rw [if_neg h11] at hm
      obtain ⟨S_12, hq13, hm⟩ := bd_some hm
      have hA : Ag P S0 S_12 := hA.tr (fr_X12_take P n S_8 (hA.cl hc) a0 (Ta0)  S_12 hq13)
      by_cases h14 : 2 ≤ x2
      · rw [if_pos h14] at hm
        by_cases h15 : x2 = 2
        · rw [if_pos h15] at hm
          obtain ⟨q23, hq23, hm⟩ := bd_some hm
          have Tq23 : P q23 := hA.clo hc Ta0 hq23
          obtain ⟨hi24, hm⟩ := ck_some hm
          cases hm
          exact hA
        · rw [if_neg h15] at hm
          by_cases h16 : x2 = 3
          · rw [if_pos h16] at hm
            obtain ⟨r21, S_19, hq20, hm⟩ := cb_some hm
            have hA : Ag P S0 S_19 := hA.tr (fr_X12_isOpenMine P n S_12 (hA.cl hc) a0 x1 (Ta0) r21 S_19 hq20)
            by_cases h22 : r21 = 0
            · rw [if_pos h22] at hm
              cases hm
              exact hA
            · rw [if_neg h22] at hm
              cases hm
              exact hA
          · rw [if_neg h16] at hm
            obtain ⟨q17, hq17, hm⟩ := bd_some hm
            have Tq17 : P q17 := hA.clo hc Ta0 hq17
            obtain ⟨hi18, hm⟩ := ck_some hm
            cases hm
            exact hA
      · rw [if_neg h14] at hm
        by_cases h25 : x2 = 0
        · rw [if_pos h25] at hm
          obtain ⟨q28, hq28, hm⟩ := bd_some hm
          have Tq28 : P q28 := hA.clo hc Ta0 hq28
          obtain ⟨hi29, hm⟩ := ck_some hm
          cases hm
          exact hA
        · rw [if_neg h25] at hm
          obtain ⟨q26, hq26, hm⟩ := bd_some hm
          have Tq26 : P q26 := hA.clo hc Ta0 hq26
          obtain ⟨hi27, hm⟩ := ck_some hm
          cases hm
          exact hA
set_option maxHeartbeats 1000000 in
set_option maxRecDepth 100000 in
theorem fr_X12_can (P : Nat → Prop) (n : Nat) (S0 : pq_S) (hc : Clo P S0) (a0 : Nat) (x1 : Int32) (Ta0 : P a0) (r : Int32) (S1 : pq_S) (hm : m_X12_can n a0 x1 S0 = some (r, S1)) : Ag P S0 S1 := by
  have hA : Ag P S0 S0 := Ag.rf _ _
  rw [m_X12_can] at hm
  have hA : Ag P S0 (sI S0 1200 a0 0) := hA.sI Ta0
  obtain ⟨r3, S_1, hq2, hm⟩ := cb_some hm
  have hA : Ag P S0 S_1 := hA.tr (fr_X12_isWant P n (sI S0 1200 a0 0) (hA.cl hc) a0 x1 1 (Ta0) r3 S_1 hq2)
  by_cases h4 : r3 = 0
  · rw [if_pos h4] at hm
    cases hm
    exact hA
  · rw [if_neg h4] at hm
    obtain ⟨S_5, hq6, hm⟩ := bd_some hm
    have hA : Ag P S0 S_5 := hA.tr (fr_X12_take P n S_1 (hA.cl hc) a0 (Ta0)  S_5 hq6)
    obtain ⟨r9, S_7, hq8, hm⟩ := cb_some hm
    have hA : Ag P S0 S_7 := hA.tr (fr_X12_canSell P n S_5 (hA.cl hc) a0 x1 (Ta0) r9 S_7 hq8)
    cases hm
    exact hA
set_option maxHeartbeats 1000000 in
set_option maxRecDepth 100000 in
theorem fb_X12_findSales_69 (P : Nat → Prop) (S0 : pq_S) (hc : Clo P S0) (n : Nat) (S1 : pq_S) (k8 : Nat → Int32 → pq_S → Option pq_S) (hk8 : ∀ (a0 : Nat) (x1 : Int32) (S : pq_S), Ag P S0 S → P a0 → k8 a0 x1 S = some S1 → Ag P S0 S1) (k16 : Nat → Int32 → Int32 → Int32 → pq_S → Option pq_S) (hk16 : ∀ (a0 : Nat) (x1 : Int32) (x2 : Int32) (x3 : Int32) (S : pq_S), Ag P S0 S → P a0 → k16 a0 x1 x2 x3 S = some S1 → Ag P S0 S1) : ∀ (a0 : Nat) (x1 : Int32) (x2 : Int32) (x3 : Int32) (S : pq_S), Ag P S0 S → P a0 → b_X12_findSales_69 n k8 k16 a0 x1 x2 x3 S = some S1 → Ag P S0 S1 := by
  intro a0 x1 x2 x3 S hA Ta0 hm
  rw [b_X12_findSales_69] at hm
  exact hk16 a0 x1 x2 (x3 + 1) S hA (Ta0) hm
set_option maxHeartbeats 1000000 in
set_option maxRecDepth 100000 in
theorem fb_X12_findSales_306 (P : Nat → Prop) (S0 : pq_S) (hc : Clo P S0) (n : Nat) (S1 : pq_S) (k8 : Nat → Int32 → pq_S → Option pq_S) (hk8 : ∀ (a0 : Nat) (x1 : Int32) (S : pq_S), Ag P S0 S → P a0 → k8 a0 x1 S = some S1 → Ag P S0 S1) : ∀ (a0 : Nat) (x1 : Int32) (S : pq_S), Ag P S0 S → P a0 → b_X12_findSales_306 n k8 a0 x1 S = some S1 → Ag P S0 S1 := by
  intro a0 x1 S hA Ta0 hm
  rw [b_X12_findSales_306] at hm
  exact hk8 a0 (x1 + 1) S hA (Ta0) hm
set_option maxHeartbeats 1000000 in
set_option maxRecDepth 100000 in
theorem fb_X12_findSales_271 (P : Nat → Prop) (S0 : pq_S) (hc : Clo P S0) (n : Nat) (S1 : pq_S) (k8 : Nat → Int32 → pq_S → Option pq_S) (hk8 : ∀ (a0 : Nat) (x1 : Int32) (S : pq_S), Ag P S0 S → P a0 → k8 a0 x1 S = some S1 → Ag P S0 S1) : ∀ (f : Nat) (a0 : Nat) (x1 : Int32) (x2 : Int32) (x3 : Int32) (x5 : Int32) (S : pq_S), Ag P S0 S → P a0 → b_X12_findSales_271 n k8 f a0 x1 x2 x3 x5 S = some S1 → Ag P S0 S1 := by
  intro f
  induction f with
  | zero =>
    intro a0 x1 x2 x3 x5 S hA Ta0 hm
    cases hm
  | succ f ih =>
    intro a0 x1 x2 x3 x5 S hA Ta0 hm
    rw [b_X12_findSales_271] at hm
    by_cases h37 : x2 ≤ x5
    · rw [if_pos h37] at hm
      exact fb_X12_findSales_306 P S0 hc n S1 _ hk8 a0 x1 S hA (Ta0) hm
    · rw [if_neg h37] at hm
      obtain ⟨q38, hq38, hm⟩ := bd_some hm
      have Tq38 : P q38 := hA.clo hc Ta0 hq38
      obtain ⟨hi39, hm⟩ := ck_some hm
      have hA : Ag P S0 (sI S 1254 a0 ((pI S 1254 a0) ||| (((x3 >>> (x5 &&& (31 : Int32))) &&& (1 : Int32)) <<< ((pA S q38 (Int32.toNatClampNeg x5)) &&& (31 : Int32))))) := hA.sI Ta0
      obtain ⟨S_40, eS_40, hm⟩ := lt_some hm
      have hA : Ag P S0 S_40 := by rw [eS_40]; exact hA
      exact ih a0 x1 x2 x3 (x5 + 1) S_40 hA (Ta0) hm
set_option maxHeartbeats 1000000 in
set_option maxRecDepth 100000 in
theorem fb_X12_findSales_257 (P : Nat → Prop) (S0 : pq_S) (hc : Clo P S0) (n : Nat) (S1 : pq_S) (k8 : Nat → Int32 → pq_S → Option pq_S) (hk8 : ∀ (a0 : Nat) (x1 : Int32) (S : pq_S), Ag P S0 S → P a0 → k8 a0 x1 S = some S1 → Ag P S0 S1) : ∀ (a0 : Nat) (x1 : Int32) (x2 : Int32) (x3 : Int32) (x4 : Int32) (S : pq_S), Ag P S0 S → P a0 → b_X12_findSales_257 n k8 a0 x1 x2 x3 x4 S = some S1 → Ag P S0 S1 := by
  intro a0 x1 x2 x3 x4 S hA Ta0 hm
  rw [b_X12_findSales_257] at hm
  have hA : Ag P S0 (sI S 1253 a0 ((pI S 1253 a0) + x4)) := hA.sI Ta0
  exact fb_X12_findSales_271 P S0 hc n S1 _ hk8 n a0 x1 x2 x3 0 (sI S 1253 a0 ((pI S 1253 a0) + x4)) hA (Ta0) hm
set_option maxHeartbeats 1000000 in
set_option maxRecDepth 100000 in
theorem fb_X12_findSales_192 (P : Nat → Prop) (S0 : pq_S) (hc : Clo P S0) (n : Nat) (S1 : pq_S) (k8 : Nat → Int32 → pq_S → Option pq_S) (hk8 : ∀ (a0 : Nat) (x1 : Int32) (S : pq_S), Ag P S0 S → P a0 → k8 a0 x1 S = some S1 → Ag P S0 S1) (k50 : Nat → Int32 → Int32 → Int32 → Int32 → Int32 → pq_S → Option pq_S) (hk50 : ∀ (a0 : Nat) (x1 : Int32) (x2 : Int32) (x3 : Int32) (x4 : Int32) (x5 : Int32) (S : pq_S), Ag P S0 S → P a0 → k50 a0 x1 x2 x3 x4 x5 S = some S1 → Ag P S0 S1) (k63 : Nat → Int32 → Int32 → Int32 → Int32 → Int32 → Int32 → Int32 → Int32 → Int32 → pq_S → Option pq_S) (hk63 : ∀ (a0 : Nat) (x1 : Int32) (x2 : Int32) (x3 : Int32) (x4 : Int32) (x5 : Int32) (x6 : Int32) (x7 : Int32) (x8 : Int32) (x9 : Int32) (S : pq_S), Ag P S0 S → P a0 → k63 a0 x1 x2 x3 x4 x5 x6 x7 x8 x9 S = some S1 → Ag P S0 S1) : ∀ (a0 : Nat) (x1 : Int32) (x2 : Int32) (x3 : Int32) (x4 : Int32) (x5 : Int32) (x6 : Int32) (x7 : Int32) (x8 : Int32) (x9 : Int32) (S : pq_S), Ag P S0 S → P a0 → b_X12_findSales_192 n k8 k50 k63 a0 x1 x2 x3 x4 x5 x6 x7 x8 x9 S = some S1 → Ag P S0 S1 := by
  intro a0 x1 x2 x3 x4 x5 x6 x7 x8 x9 S hA Ta0 hm
  rw [b_X12_findSales_192] at hm
  exact hk63 a0 x1 x2 x3 x4 x5 x6 x7 x8 (x9 + 1) S hA (Ta0) hm
set_option maxHeartbeats 1000000 in
set_option maxRecDepth 100000 in
theorem fb_X12_findSales_175 (P : Nat → Prop) (S0 : pq_S) (hc : Clo P S0) (n : Nat) (S1 : pq_S) (k8 : Nat → Int32 → pq_S → Option pq_S) (hk8 : ∀ (a0 : Nat) (x1 : Int32) (S : pq_S), Ag P S0 S → P a0 → k8 a0 x1 S = some S1 → Ag P S0 S1) (k50 : Nat → Int32 → Int32 → Int32 → Int32 → Int32 → pq_S → Option pq_S) (hk50 : ∀ (a0 : Nat) (x1 : Int32) (x2 : Int32) (x3 : Int32) (x4 : Int32) (x5 : Int32) (S : pq_S), Ag P S0 S → P a0 → k50 a0 x1 x2 x3 x4 x5 S = some S1 → Ag P S0 S1) (k63 : Nat → Int32 → Int32 → Int32 → Int32 → Int32 → Int32 → Int32 → Int32 → Int32 → pq_S → Option pq_S) (hk63 : ∀ (a0 : Nat) (x1 : Int32) (x2 : Int32) (x3 : Int32) (x4 : Int32) (x5 : Int32) (x6 : Int32) (x7 : Int32) (x8 : Int32) (x9 : Int32) (S : pq_S), Ag P S0 S → P a0 → k63 a0 x1 x2 x3 x4 x5 x6 x7 x8 x9 S = some S1 → Ag P S0 S1) : ∀ (a0 : Nat) (x1 : Int32) (x2 : Int32) (x3 : Int32) (x4 : Int32) (x5 : Int32) (x7 : Int32) (x8 : Int32) (x9 : Int32) (x10 : Int32) (z0 : Int32) (z1 : Int32) (S : pq_S), Ag P S0 S → P a0 → b_X12_findSales_175 n k8 k50 k63 a0 x1 x2 x3 x4 x5 x7 x8 x9 x10 z0 z1 S = some S1 → Ag P S0 S1 := by
  intro a0 x1 x2 x3 x4 x5 x7 x8 x9 x10 z0 z1 S hA Ta0 hm
  rw [b_X12_findSales_175] at hm
  obtain ⟨q25, hq25, hm⟩ := bd_some hm
  have Tq25 : P q25 := hA.clo hc Ta0 hq25
  obtain ⟨hi26, hm⟩ := ck_some hm
  obtain ⟨v27, ev27, hm⟩ := lt_some hm
  exact fb_X12_findSales_192 P S0 hc n S1 _ hk8 _ hk50 _ hk63 a0 x1 x2 x3 x4 x5 (z0 + z1) x7 v27 x9 S hA (Ta0) hm
set_option maxHeartbeats 1000000 in
set_option maxRecDepth 100000 in
theorem fb_X12_findSales_251 (P : Nat → Prop) (S0 : pq_S) (hc : Clo P S0) (n : Nat) (S1 : pq_S) (k8 : Nat → Int32 → pq_S → Option pq_S) (hk8 : ∀ (a0 : Nat) (x1 : Int32) (S : pq_S), Ag P S0 S → P a0 → k8 a0 x1 S = some S1 → Ag P S0 S1) (k50 : Nat → Int32 → Int32 → Int32 → Int32 → Int32 → pq_S → Option pq_S) (hk50 : ∀ (a0 : Nat) (x1 : Int32) (x2 : Int32) (x3 : Int32) (x4 : Int32) (x5 : Int32) (S : pq_S), Ag P S0 S → P a0 → k50 a0 x1 x2 x3 x4 x5 S = some S1 → Ag P S0 S1) : ∀ (a0 : Nat) (x1 : Int32) (x2 : Int32) (x3 : Int32) (x4 : Int32) (x5 : Int32) (S : pq_S), Ag P S0 S → P a0 → b_X12_findSales_251 n k8 k50 a0 x1 x2 x3 x4 x5 S = some S1 → Ag P S0 S1 := by
  intro a0 x1 x2 x3 x4 x5 S hA Ta0 hm
  rw [b_X12_findSales_251] at hm
  exact hk50 a0 x1 x2 x3 x4 (x5 + 1) S hA (Ta0) hm
set_option maxHeartbeats 1000000 in
set_option maxRecDepth 100000 in
theorem fb_X12_findSales_198 (P : Nat → Prop) (S0 : pq_S) (hc : Clo P S0) (n : Nat) (S1 : pq_S) (k8 : Nat → Int32 → pq_S → Option pq_S) (hk8 : ∀ (a0 : Nat) (x1 : Int32) (S : pq_S), Ag P S0 S → P a0 → k8 a0 x1 S = some S1 → Ag P S0 S1) (k50 : Nat → Int32 → Int32 → Int32 → Int32 → Int32 → pq_S → Option pq_S) (hk50 : ∀ (a0 : Nat) (x1 : Int32) (x2 : Int32) (x3 : Int32) (x4 : Int32) (x5 : Int32) (S : pq_S), Ag P S0 S → P a0 → k50 a0 x1 x2 x3 x4 x5 S = some S1 → Ag P S0 S1) : ∀ (a0 : Nat) (x1 : Int32) (x2 : Int32) (x3 : Int32) (x4 : Int32) (x5 : Int32) (x6 : Int32) (x7 : Int32) (x8 : Int32) (S : pq_S), Ag P S0 S → P a0 → b_X12_findSales_198 n k8 k50 a0 x1 x2 x3 x4 x5 x6 x7 x8 S = some S1 → Ag P S0 S1 := by
  intro a0 x1 x2 x3 x4 x5 x6 x7 x8 S hA Ta0 hm
  rw [b_X12_findSales_198] at hm
  obtain ⟨q28, hq28, hm⟩ := bd_some hm
  have Tq28 : P q28 := hA.clo hc Ta0 hq28
  obtain ⟨hi29, hm⟩ := ck_some hm
  by_cases h30 : (pA S q28 (Int32.toNatClampNeg ((0 : Int32) + x1))) < x6
  · rw [if_pos h30] at hm
    exact fb_X12_findSales_251 P S0 hc n S1 _ hk8 _ hk50 a0 x1 x2 x3 x4 x5 S hA (Ta0) hm
  · rw [if_neg h30] at hm
    obtain ⟨q31, hq31, hm⟩ := bd_some hm
    have Tq31 : P q31 := hA.clo hc Ta0 hq31
    obtain ⟨hi32, hm⟩ := ck_some hm
    obtain ⟨q33, hq33, hm⟩ := bd_some hm
    have Tq33 : P q33 := hA.clo hc Ta0 hq33
    obtain ⟨hi34, hm⟩ := ck_some hm
    by_cases h35 : ((pA S q31 (Int32.toNatClampNeg ((0 : Int32) + x1))) + (pA S q33 (Int32.toNatClampNeg ((6 : Int32) + x1)))) < x7
    · rw [if_pos h35] at hm
      exact fb_X12_findSales_251 P S0 hc n S1 _ hk8 _ hk50 a0 x1 x2 x3 x4 x5 S hA (Ta0) hm
    · rw [if_neg h35] at hm
      by_cases h36 : x4 < x8
      · rw [if_pos h36] at hm
        exact fb_X12_findSales_251 P S0 hc n S1 _ hk8 _ hk50 a0 x1 x2 x5 x8 x5 S hA (Ta0) hm
      · rw [if_neg h36] at hm
        exact fb_X12_findSales_251 P S0 hc n S1 _ hk8 _ hk50 a0 x1 x2 x3 x4 x5 S hA (Ta0) hm
set_option maxHeartbeats 1000000 in
set_option maxRecDepth 100000 in
theorem fb_X12_findSales_103 (P : Nat → Prop) (S0 : pq_S) (hc : Clo P S0) (n : Nat) (S1 : pq_S) (k8 : Nat → Int32 → pq_S → Option pq_S) (hk8 : ∀ (a0 : Nat) (x1 : Int32) (S : pq_S), Ag P S0 S → P a0 → k8 a0 x1 S = some S1 → Ag P S0 S1) (k50 : Nat → Int32 → Int32 → Int32 → Int32 → Int32 → pq_S → Option pq_S) (hk50 : ∀ (a0 : Nat) (x1 : Int32) (x2 : Int32) (x3 : Int32) (x4 : Int32) (x5 : Int32) (S : pq_S), Ag P S0 S → P a0 → k50 a0 x1 x2 x3 x4 x5 S = some S1 → Ag P S0 S1) : ∀ (f : Nat) (a0 : Nat) (x1 : Int32) (x2 : Int32) (x3 : Int32) (x4 : Int32) (x5 : Int32) (x6 : Int32) (x7 : Int32) (x8 : Int32) (x9 : Int32) (S : pq_S), Ag P S0 S → P a0 → b_X12_findSales_103 n k8 k50 f a0 x1 x2 x3 x4 x5 x6 x7 x8 x9 S = some S1 → Ag P S0 S1 := by
  intro f
  induction f with
  | zero =>
    intro a0 x1 x2 x3 x4 x5 x6 x7 x8 x9 S hA Ta0 hm
    cases hm
  | succ f ih =>
    intro a0 x1 x2 x3 x4 x5 x6 x7 x8 x9 S hA Ta0 hm
    rw [b_X12_findSales_103] at hm
    by_cases h12 : x2 ≤ x9
    · rw [if_pos h12] at hm
      exact fb_X12_findSales_198 P S0 hc n S1 _ hk8 _ hk50 a0 x1 x2 x3 x4 x5 x6 x7 x8 S hA (Ta0) hm
    · rw [if_neg h12] at hm
      by_cases h13 : ((x5 >>> (x9 &&& (31 : Int32))) &&& (1 : Int32)) = 0
      · rw [if_pos h13] at hm
        exact fb_X12_findSales_192 P S0 hc n S1 _ hk8 _ hk50 _ ih a0 x1 x2 x3 x4 x5 x6 x7 x8 x9 S hA (Ta0) hm
      · rw [if_neg h13] at hm
        obtain ⟨q14, hq14, hm⟩ := bd_some hm
        have Tq14 : P q14 := hA.clo hc Ta0 hq14
        obtain ⟨hi15, hm⟩ := ck_some hm
        obtain ⟨v16, ev16, hm⟩ := lt_some hm
        obtain ⟨q17, hq17, hm⟩ := bd_some hm
        have Tq17 : P q17 := hA.clo hc Ta0 hq17
        obtain ⟨hi18, hm⟩ := ck_some hm
        obtain ⟨v19, ev19, hm⟩ := lt_some hm
        obtain ⟨q20, hq20, hm⟩ := bd_some hm
        have Tq20 : P q20 := hA.clo hc Ta0 hq20
        obtain ⟨hi21, hm⟩ := ck_some hm
        by_cases h22 : (pA S q20 (Int32.toNatClampNeg (v16 + (2 : Int32)))) = 1
        · rw [if_pos h22] at hm
          obtain ⟨q23, hq23, hm⟩ := bd_some hm
          have Tq23 : P q23 := hA.clo hc Ta0 hq23
          obtain ⟨hi24, hm⟩ := ck_some hm
          exact fb_X12_findSales_175 P S0 hc n S1 _ hk8 _ hk50 _ ih a0 x1 x2 x3 x4 x5 v19 x8 x9 v16 x6 (pA S q23 (Int32.toNatClampNeg (v16 + (1 : Int32)))) S hA (Ta0) hm
        · rw [if_neg h22] at hm
          exact fb_X12_findSales_175 P S0 hc n S1 _ hk8 _ hk50 _ ih a0 x1 x2 x3 x4 x5 v19 x8 x9 v16 x6 0 S hA (Ta0) hm
set_option maxHeartbeats 1000000 in
set_option maxRecDepth 100000 in
theorem fb_X12_findSales_83 (P : Nat → Prop) (S0 : pq_S) (hc : Clo P S0) (n : Nat) (S1 : pq_S) (k8 : Nat → Int32 → pq_S → Option pq_S) (hk8 : ∀ (a0 : Nat) (x1 : Int32) (S : pq_S), Ag P S0 S → P a0 → k8 a0 x1 S = some S1 → Ag P S0 S1) : ∀ (f : Nat) (a0 : Nat) (x1 : Int32) (x2 : Int32) (x3 : Int32) (x4 : Int32) (x5 : Int32) (S : pq_S), Ag P S0 S → P a0 → b_X12_findSales_83 n k8 f a0 x1 x2 x3 x4 x5 S = some S1 → Ag P S0 S1 := by
  intro f
  induction f with
  | zero =>
    intro a0 x1 x2 x3 x4 x5 S hA Ta0 hm
    cases hm
  | succ f ih =>
    intro a0 x1 x2 x3 x4 x5 S hA Ta0 hm
    rw [b_X12_findSales_83] at hm
    by_cases h11 : ((1 : Int32) <<< (x2 &&& (31 : Int32))) ≤ x5
    · rw [if_pos h11] at hm
      exact fb_X12_findSales_257 P S0 hc n S1 _ hk8 a0 x1 x2 x3 x4 S hA (Ta0) hm
    · rw [if_neg h11] at hm
      exact fb_X12_findSales_103 P S0 hc n S1 _ hk8 _ ih n a0 x1 x2 x3 x4 x5 0 0 0 0 S hA (Ta0) hm
set_option maxHeartbeats 1000000 in
set_option maxRecDepth 100000 in
theorem fb_X12_findSales_75 (P : Nat → Prop) (S0 : pq_S) (hc : Clo P S0) (n : Nat) (S1 : pq_S) (k8 : Nat → Int32 → pq_S → Option pq_S) (hk8 : ∀ (a0 : Nat) (x1 : Int32) (S : pq_S), Ag P S0 S → P a0 → k8 a0 x1 S = some S1 → Ag P S0 S1) : ∀ (a0 : Nat) (x1 : Int32) (x2 : Int32) (S : pq_S), Ag P S0 S → P a0 → b_X12_findSales_75 n k8 a0 x1 x2 S = some S1 → Ag P S0 S1 := by
  intro a0 x1 x2 S hA Ta0 hm
  rw [b_X12_findSales_75] at hm
  exact fb_X12_findSales_83 P S0 hc n S1 _ hk8 n a0 x1 x2 0 0 1 S hA (Ta0) hm
set_option maxHeartbeats 1000000 in
set_option maxRecDepth 100000 in
theorem fb_X12_findSales_24 (P : Nat → Prop) (S0 : pq_S) (hc : Clo P S0) (n : Nat) (S1 : pq_S) (k8 : Nat → Int32 → pq_S → Option pq_S) (hk8 : ∀ (a0 : Nat) (x1 : Int32) (S : pq_S), Ag P S0 S → P a0 → k8 a0 x1 S = some S1 → Ag P S0 S1) : ∀ (f : Nat) (a0 : Nat) (x1 : Int32) (x2 : Int32) (x3 : Int32) (S : pq_S), Ag P S0 S → P a0 → b_X12_findSales_24 n k8 f a0 x1 x2 x3 S = some S1 → Ag P S0 S1 := by
  intro f
  induction f with
  | zero =>
    intro a0 x1 x2 x3 S hA Ta0 hm
    cases hm
  | succ f ih =>
    intro a0 x1 x2 x3 S hA Ta0 hm
    rw [b_X12_findSales_24] at hm
    by_cases h2 : (pI S 1225 a0) ≤ x3
    · rw [if_pos h2] at hm
      exact fb_X12_findSales_75 P S0 hc n S1 _ hk8 a0 x1 x2 S hA (Ta0) hm
    · rw [if_neg h2] at hm
      obtain ⟨q3, hq3, hm⟩ := bd_some hm
      have Tq3 : P q3 := hA.clo hc Ta0 hq3
      obtain ⟨hi4, hm⟩ := ck_some hm
      by_cases h5 : (pA S q3 (Int32.toNatClampNeg ((18 : Int32) + x3))) = 0
      · rw [if_pos h5] at hm
        exact fb_X12_findSales_69 P S0 hc n S1 _ hk8 _ ih a0 x1 x2 x3 S hA (Ta0) hm
      · rw [if_neg h5] at hm
        obtain ⟨q6, hq6, hm⟩ := bd_some hm
        have Tq6 : P q6 := hA.clo hc Ta0 hq6
        obtain ⟨hi7, hm⟩ := ck_some hm
        by_cases h8 : (pA S q6 (Int32.toNatClampNeg ((4 : Int32) * x3))) = x1
        · rw [if_pos h8] at hm
          obtain ⟨q9, hq9, hm⟩ := bd_some hm
          have Tq9 : P q9 := hA.clo hc Ta0 hq9
          obtain ⟨hi10, hm⟩ := ck_some hm
          have hA : Ag P S0 (sA S q9 (Int32.toNatClampNeg x2) x3) := hA.sA Tq9
          exact fb_X12_findSales_69 P S0 hc n S1 _ hk8 _ ih a0 x1 (x2 + 1) x3 (sA S q9 (Int32.toNatClampNeg x2) x3) hA (Ta0) hm
        · rw [if_neg h8] at hm
          exact fb_X12_findSales_69 P S0 hc n S1 _ hk8 _ ih a0 x1 x2 x3 S hA (Ta0) hm
set_option maxHeartbeats 1000000 in
set_option maxRecDepth 100000 in
theorem fb_X12_findSales_12 (P : Nat → Prop) (S0 : pq_S) (hc : Clo P S0) (n : Nat) (S1 : pq_S) : ∀ (f : Nat) (a0 : Nat) (x1 : Int32) (S : pq_S), Ag P S0 S → P a0 → b_X12_findSales_12 n f a0 x1 S = some S1 → Ag P S0 S1 := by
  intro f
  induction f with
  | zero =>
    intro a0 x1 S hA Ta0 hm
    cases hm
  | succ f ih =>
    intro a0 x1 S hA Ta0 hm
    rw [b_X12_findSales_12] at hm
    by_cases h1 : (pI S 1224 a0) ≤ x1
    · rw [if_pos h1] at hm
      cases hm
      exact hA
    · rw [if_neg h1] at hm
      exact fb_X12_findSales_24 P S0 hc n S1 _ ih n a0 x1 0 0 S hA (Ta0) hm
set_option maxHeartbeats 1000000 in
set_option maxRecDepth 100000 in
theorem fr_X12_findSales (P : Nat → Prop) (n : Nat) (S0 : pq_S) (hc : Clo P S0) (a0 : Nat) (Ta0 : P a0) (S1 : pq_S) (hm : m_X12_findSales n a0 S0 = some S1) : Ag P S0 S1 := by
  have hA : Ag P S0 S0 := Ag.rf _ _
  rw [m_X12_findSales] at hm
  have hA : Ag P S0 (sI S0 1253 a0 0) := hA.sI Ta0
  have hA : Ag P S0 (sI (sI S0 1253 a0 0) 1254 a0 0) := hA.sI Ta0
  exact fb_X12_findSales_12 P S0 hc n S1 n a0 0 (sI (sI S0 1253 a0 0) 1254 a0 0) hA (Ta0) hm
set_option maxHeartbeats 1000000 in
set_option maxRecDepth 100000 in
theorem fr_X12_sales (P : Nat → Prop) (n : Nat) (S0 : pq_S) (hc : Clo P S0) (a0 : Nat) (x1 : Int32) (Ta0 : P a0) (r : Int32) (S1 : pq_S) (hm : m_X12_sales n a0 x1 S0 = some (r, S1)) : Ag P S0 S1 := by
  have hA : Ag P S0 S0 := Ag.rf _ _
  rw [m_X12_sales] at hm
  have hA : Ag P S0 (sI S0 1200 a0 0) := hA.sI Ta0
  obtain ⟨r3, S_1, hq2, hm⟩ := cb_some hm
  have hA : Ag P S0 S_1 := hA.tr (fr_X12_within P n (sI S0 1200 a0 0) (hA.cl hc) x1 0 1  r3 S_1 hq2)
  obtain ⟨r6, S_4, hq5, hm⟩ := cb_some hm
  have hA : Ag P S0 S_4 := hA.tr (fr_X12_may P n S_1 (hA.cl hc) a0 r3 1 1 (Ta0) r6 S_4 hq5)
  by_cases h7 : r6 = 0
  · rw [if_pos h7] at hm
    cases hm
    exact hA
  · rw [if_neg h7] at hm
    obtain ⟨S_8, hq9, hm⟩ := bd_some hm
    have hA : Ag P S0 S_8 := hA.tr (fr_X12_take P n S_4 (hA.cl hc) a0 (Ta0)  S_8 hq9)
    obtain ⟨S_10, hq11, hm⟩ := bd_some hm
    have hA : Ag P S0 S_10 := hA.tr (fr_X12_findSales P n S_8 (hA.cl hc) a0 (Ta0)  S_10 hq11)
    by_cases h12 : x1 = 0
    · rw [if_pos h12] at hm
      cases hm
      exact hA
    · rw [if_neg h12] at hm
      cases hm
      exact hA
set_option maxHeartbeats 1000000 in
set_option maxRecDepth 100000 in
theorem fr_X12_more (P : Nat → Prop) (n : Nat) (S0 : pq_S) (hc : Clo P S0) (a0 : Nat) (x1 : Int32) (x2 : Int32) (Ta0 : P a0) (r : Int32) (S1 : pq_S) (hm : m_X12_more n a0 x1 x2 S0 = some (r, S1)) : Ag P S0 S1 := by
  have hA : Ag P S0 S0 := Ag.rf _ _
  rw [m_X12_more] at hm
  have hA : Ag P S0 (sI S0 1200 a0 0) := hA.sI Ta0
  obtain ⟨r3, S_1, hq2, hm⟩ := cb_some hm
  have hA : Ag P S0 S_1 := hA.tr (fr_X12_isPlace P n (sI S0 1200 a0 0) (hA.cl hc) a0 x1 1 (Ta0) r3 S_1 hq2)
  by_cases h4 : r3 = 0
  · rw [if_pos h4] at hm
    cases hm
    exact hA
  · rw [if_neg h4] at hm
    obtain ⟨r7, S_5, hq6, hm⟩ := cb_some hm
    have hA : Ag P S0 S_5 := hA.tr (fr_X12_within P n S_1 (hA.cl hc) x2 0 99  r7 S_5 hq6)
    obtain ⟨r10, S_8, hq9, hm⟩ := cb_some hm
    have hA : Ag P S0 S_8 := hA.tr (fr_X12_may P n S_5 (hA.cl hc) a0 r7 2 1 (Ta0) r10 S_8 hq9)
    by_cases h11 : r10 = 0
    · rw [if_pos h11] at hm
      cases hm
      exact hA
    · rw [if_neg h11] at hm
      obtain ⟨S_12, hq13, hm⟩ := bd_some hm
      have hA : Ag P S0 S_12 := hA.tr (fr_X12_take P n S_8 (hA.cl hc) a0 (Ta0)  S_12 hq13)
      obtain ⟨S_14, hq15, hm⟩ := bd_some hm
      have hA : Ag P S0 S_14 := hA.tr (fr_X12_adds P n S_12 (hA.cl hc) a0 ((0 : Int32) + x1) x2 (Ta0)  S_14 hq15)
      obtain ⟨S_16, hq17, hm⟩ := bd_some hm
      have hA : Ag P S0 S_16 := hA.tr (fr_X12_findSales P n S_14 (hA.cl hc) a0 (Ta0)  S_16 hq17)
      cases hm
      exact hA
set_option maxHeartbeats 1000000 in
set_option maxRecDepth 100000 in
theorem fb_X12_priceAt_2 (P : Nat → Prop) (S0 : pq_S) (hc : Clo P S0) (n : Nat) (r : Int32) (S1 : pq_S) : ∀ (f : Nat) (a0 : Nat) (x1 : Int32) (x2 : Int32) (S : pq_S), Ag P S0 S → P a0 → b_X12_priceAt_2 n f a0 x1 x2 S = some (r, S1) → Ag P S0 S1 := by
  intro f
  induction f with
  | zero =>
    intro a0 x1 x2 S hA Ta0 hm
    cases hm
  | succ f ih =>
    intro a0 x1 x2 S hA Ta0 hm
    rw [b_X12_priceAt_2] at hm
    obtain ⟨r3, S_1, hq2, hm⟩ := cb_some hm
    have hA : Ag P S0 S_1 := hA.tr (fr_X12_hoursOf P n S (hA.cl hc) a0 x1 x2 (Ta0) r3 S_1 hq2)
    obtain ⟨q4, hq4, hm⟩ := bd_some hm
    have Tq4 : P q4 := hA.clo hc Ta0 hq4
    obtain ⟨hi5, hm⟩ := ck_some hm
    obtain ⟨q6, hq6, hm⟩ := bd_some hm
    have Tq6 : P q6 := hA.clo hc Ta0 hq6
    obtain ⟨hi7, hm⟩ := ck_some hm
    by_cases h8 : r3 ≤ ((pA S_1 q4 (Int32.toNatClampNeg ((0 : Int32) + x1))) + (pA S_1 q6 (Int32.toNatClampNeg ((6 : Int32) + x1))))
    · rw [if_pos h8] at hm
      cases hm
      exact hA
    · rw [if_neg h8] at hm
      exact ih a0 x1 (x2 + 1) S_1 hA (Ta0) hm
set_option maxHeartbeats 1000000 in
set_option maxRecDepth 100000 in
theorem fr_X12_priceAt (P : Nat → Prop) (n : Nat) (S0 : pq_S) (hc : Clo P S0) (a0 : Nat) (x1 : Int32) (Ta0 : P a0) (r : Int32) (S1 : pq_S) (hm : m_X12_priceAt n a0 x1 S0 = some (r, S1)) : Ag P S0 S1 := by
  have hA : Ag P S0 S0 := Ag.rf _ _
  rw [m_X12_priceAt] at hm
  exact fb_X12_priceAt_2 P S0 hc n r S1 n a0 x1 0 S0 hA (Ta0) hm
set_option maxHeartbeats 1000000 in
set_option maxRecDepth 100000 in
theorem fr_X12_price (P : Nat → Prop) (n : Nat) (S0 : pq_S) (hc : Clo P S0) (a0 : Nat) (x1 : Int32) (Ta0 : P a0) (r : Int32) (S1 : pq_S) (hm : m_X12_price n a0 x1 S0 = some (r, S1)) : Ag P S0 S1 := by
  have hA : Ag P S0 S0 := Ag.rf _ _
  rw [m_X12_price] at hm
  have hA : Ag P S0 (sI S0 1200 a0 0) := hA.sI Ta0
  obtain ⟨r3, S_1, hq2, hm⟩ := cb_some hm
  have hA : Ag P S0 S_1 := hA.tr (fr_X12_isPlace P n (sI S0 1200 a0 0) (hA.cl hc) a0 x1 1 (Ta0) r3 S_1 hq2)
  by_cases h4 : r3 = 0
  · rw [if_pos h4] at hm
    cases hm
    exact hA
  · rw [if_neg h4] at hm
    obtain ⟨S_5, hq6, hm⟩ := bd_some hm
    have hA : Ag P S0 S_5 := hA.tr (fr_X12_take P n S_1 (hA.cl hc) a0 (Ta0)  S_5 hq6)
    obtain ⟨r9, S_7, hq8, hm⟩ := cb_some hm
    have hA : Ag P S0 S_7 := hA.tr (fr_X12_priceAt P n S_5 (hA.cl hc) a0 x1 (Ta0) r9 S_7 hq8)
    cases hm
    exact hA
set_option maxHeartbeats 1000000 in
set_option maxRecDepth 100000 in
theorem fb_X12_corner_38 (P : Nat → Prop) (S0 : pq_S) (hc : Clo P S0) (n : Nat) (r : Int32) (S1 : pq_S) : ∀ (f : Nat) (a0 : Nat) (x1 : Int32) (x2 : Int32) (x3 : Int32) (S : pq_S), Ag P S0 S → P a0 → b_X12_corner_38 n f a0 x1 x2 x3 S = some (r, S1) → Ag P S0 S1 := by
  intro f
  induction f with
  | zero =>
    intro a0 x1 x2 x3 S hA Ta0 hm
    cases hm
  | succ f ih =>
    intro a0 x1 x2 x3 S hA Ta0 hm
    rw [b_X12_corner_38] at hm
    obtain ⟨q14, hq14, hm⟩ := bd_some hm
    have Tq14 : P q14 := hA.clo hc Ta0 hq14
    obtain ⟨hi15, hm⟩ := ck_some hm
    by_cases h16 : (pA S q14 (Int32.toNatClampNeg ((0 : Int32) + x1))) < 0
    · rw [if_pos h16] at hm
      cases hm
      exact hA
    · rw [if_neg h16] at hm
      obtain ⟨r19, S_17, hq18, hm⟩ := cb_some hm
      have hA : Ag P S0 S_17 := hA.tr (fr_X12_priceAt P n S (hA.cl hc) a0 x1 (Ta0) r19 S_17 hq18)
      by_cases h20 : r19 < x2
      · rw [if_pos h20] at hm
        obtain ⟨q21, hq21, hm⟩ := bd_some hm
        have Tq21 : P q21 := hA.clo hc Ta0 hq21
        obtain ⟨hi22, hm⟩ := ck_some hm
        obtain ⟨hi23, hm⟩ := ck_some hm
        have hA : Ag P S0 (sA S_17 q21 (Int32.toNatClampNeg ((0 : Int32) + x1)) ((pA S_17 q21 (Int32.toNatClampNeg ((0 : Int32) + x1))) - (1 : Int32))) := hA.sA Tq21
        obtain ⟨S_24, eS_24, hm⟩ := lt_some hm
        have hA : Ag P S0 S_24 := by rw [eS_24]; exact hA
        exact ih a0 x1 x2 (x3 + 1) S_24 hA (Ta0) hm
      · rw [if_neg h20] at hm
        cases hm
        exact hA
set_option maxHeartbeats 1000000 in
set_option maxRecDepth 100000 in
theorem fr_X12_corner (P : Nat → Prop) (n : Nat) (S0 : pq_S) (hc : Clo P S0) (a0 : Nat) (x1 : Int32) (x2 : Int32) (Ta0 : P a0) (r : Int32) (S1 : pq_S) (hm : m_X12_corner n a0 x1 x2 S0 = some (r, S1)) : Ag P S0 S1 := by
  have hA : Ag P S0 S0 := Ag.rf _ _
  rw [m_X12_corner] at hm
  have hA : Ag P S0 (sI S0 1200 a0 0) := hA.sI Ta0
  obtain ⟨r3, S_1, hq2, hm⟩ := cb_some hm
  have hA : Ag P S0 S_1 := hA.tr (fr_X12_isPlace P n (sI S0 1200 a0 0) (hA.cl hc) a0 x1 1 (Ta0) r3 S_1 hq2)
  by_cases h4 : r3 = 0
  · rw [if_pos h4] at hm
    cases hm
    exact hA
  · rw [if_neg h4] at hm
    obtain ⟨r7, S_5, hq6, hm⟩ := cb_some hm
    have hA : Ag P S0 S_5 := hA.tr (fr_X12_within P n S_1 (hA.cl hc) x2 0 100  r7 S_5 hq6)
    obtain ⟨r10, S_8, hq9, hm⟩ := cb_some hm
    have hA : Ag P S0 S_8 := hA.tr (fr_X12_may P n S_5 (hA.cl hc) a0 r7 2 1 (Ta0) r10 S_8 hq9)
    by_cases h11 : r10 = 0
    · rw [if_pos h11] at hm
      cases hm
      exact hA
    · rw [if_neg h11] at hm
      obtain ⟨S_12, hq13, hm⟩ := bd_some hm
      have hA : Ag P S0 S_12 := hA.tr (fr_X12_take P n S_8 (hA.cl hc) a0 (Ta0)  S_12 hq13)
      exact fb_X12_corner_38 P S0 hc n r S1 n a0 x1 x2 0 S_12 hA (Ta0) hm
set_option maxHeartbeats 1000000 in
set_option maxRecDepth 100000 in
theorem fb_X12_isOption_76 (P : Nat → Prop) (S0 : pq_S) (hc : Clo P S0) (n : Nat) (r : Int32) (S1 : pq_S) : ∀ (a0 : Nat) (x2 : Int32) (x3 : Int32) (x4 : Int32) (x5 : Int32) (b0 : Nat) (z1 : Int32) (S : pq_S), Ag P S0 S → P a0 → P b0 → b_X12_isOption_76 n a0 x2 x3 x4 x5 b0 z1 S = some (r, S1) → Ag P S0 S1 := by
  intro a0 x2 x3 x4 x5 b0 z1 S hA Ta0 Tb0 hm
  rw [b_X12_isOption_76] at hm
  obtain ⟨r28, S_26, hq27, hm⟩ := cb_some hm
  have hA : Ag P S0 S_26 := hA.tr (fr_X12_may P n S (hA.cl hc) b0 z1 1 1 (Tb0) r28 S_26 hq27)
  by_cases h29 : r28 = 0
  · rw [if_pos h29] at hm
    cases hm
    exact hA
  · rw [if_neg h29] at hm
    have hA : Ag P S0 (sI S_26 1255 a0 x2) := hA.sI Ta0
    have hA : Ag P S0 (sI (sI S_26 1255 a0 x2) 1256 a0 x3) := hA.sI Ta0
    have hA : Ag P S0 (sI (sI (sI S_26 1255 a0 x2) 1256 a0 x3) 1257 a0 x4) := hA.sI Ta0
    have hA : Ag P S0 (sI (sI (sI (sI S_26 1255 a0 x2) 1256 a0 x3) 1257 a0 x4) 1258 a0 x5) := hA.sI Ta0
    cases hm
    exact hA
set_option maxHeartbeats 1000000 in
set_option maxRecDepth 100000 in
theorem fb_X12_isOption_75 (P : Nat → Prop) (S0 : pq_S) (hc : Clo P S0) (n : Nat) (r : Int32) (S1 : pq_S) : ∀ (a0 : Nat) (x2 : Int32) (x3 : Int32) (x4 : Int32) (x5 : Int32) (b0 : Nat) (S : pq_S), Ag P S0 S → P a0 → P b0 → b_X12_isOption_75 n a0 x2 x3 x4 x5 b0 S = some (r, S1) → Ag P S0 S1 := by
  intro a0 x2 x3 x4 x5 b0 S hA Ta0 Tb0 hm
  rw [b_X12_isOption_75] at hm
  exact fb_X12_isOption_76 P S0 hc n r S1 a0 x2 x3 x4 x5 b0 0 S hA (Ta0) (Tb0) hm
set_option maxHeartbeats 1000000 in
set_option maxRecDepth 100000 in
theorem fr_X12_isOption (P : Nat → Prop) (n : Nat) (S0 : pq_S) (hc : Clo P S0) (a0 : Nat) (x1 : Int32) (x2 : Int32) (x3 : Int32) (x4 : Int32) (x5 : Int32) (x6 : Int32) (x7 : Int32) (Ta0 : P a0) (r : Int32) (S1 : pq_S) (hm : m_X12_isOption n a0 x1 x2 x3 x4 x5 x6 x7 S0 = some (r, S1)) : Ag P S0 S1 := by
  have hA : Ag P S0 S0 := Ag.rf _ _
  rw [m_X12_isOption] at hm
  obtain ⟨r3, S_1, hq2, hm⟩ := cb_some hm
  have hA : Ag P S0 S_1 := hA.tr (fr_X12_within P n S0 (hA.cl hc) x1 0 999  r3 S_1 hq2)
  by_cases h4 : r3 = 0
  · rw [if_pos h4] at hm
    exact fb_X12_isOption_75 P S0 hc n r S1 a0 x2 x3 x4 x5 a0 S_1 hA (Ta0) (Ta0) hm
  · rw [if_neg h4] at hm
    obtain ⟨r7, S_5, hq6, hm⟩ := cb_some hm
    have hA : Ag P S0 S_5 := hA.tr (fr_X12_within P n S_1 (hA.cl hc) x2 0 99  r7 S_5 hq6)
    by_cases h8 : r7 = 0
    · rw [if_pos h8] at hm
      exact fb_X12_isOption_75 P S0 hc n r S1 a0 x2 x3 x4 x5 a0 S_5 hA (Ta0) (Ta0) hm
    · rw [if_neg h8] at hm
      obtain ⟨r11, S_9, hq10, hm⟩ := cb_some hm
      have hA : Ag P S0 S_9 := hA.tr (fr_X12_within P n S_5 (hA.cl hc) x3 0 99  r11 S_9 hq10)
      by_cases h12 : r11 = 0
      · rw [if_pos h12] at hm
        exact fb_X12_isOption_75 P S0 hc n r S1 a0 x2 x3 x4 x5 a0 S_9 hA (Ta0) (Ta0) hm
      · rw [if_neg h12] at hm
        obtain ⟨r15, S_13, hq14, hm⟩ := cb_some hm
        have hA : Ag P S0 S_13 := hA.tr (fr_X12_within P n S_9 (hA.cl hc) x4 0 16  r15 S_13 hq14)
        by_cases h16 : r15 = 0
        · rw [if_pos h16] at hm
          exact fb_X12_isOption_75 P S0 hc n r S1 a0 x2 x3 x4 x5 a0 S_13 hA (Ta0) (Ta0) hm
        · rw [if_neg h16] at hm
          obtain ⟨r19, S_17, hq18, hm⟩ := cb_some hm
          have hA : Ag P S0 S_17 := hA.tr (fr_X12_within P n S_13 (hA.cl hc) x5 0 999  r19 S_17 hq18)
          by_cases h20 : r19 = 0
          · rw [if_pos h20] at hm
            exact fb_X12_isOption_75 P S0 hc n r S1 a0 x2 x3 x4 x5 a0 S_17 hA (Ta0) (Ta0) hm
          · rw [if_neg h20] at hm
            obtain ⟨r23, S_21, hq22, hm⟩ := cb_some hm
            have hA : Ag P S0 S_21 := hA.tr (fr_X12_within P n S_17 (hA.cl hc) x6 0 6  r23 S_21 hq22)
            by_cases h24 : r23 = 0
            · rw [if_pos h24] at hm
              exact fb_X12_isOption_75 P S0 hc n r S1 a0 x2 x3 x4 x5 a0 S_21 hA (Ta0) (Ta0) hm
            · rw [if_neg h24] at hm
              by_cases h25 : x7 = 0
              · rw [if_pos h25] at hm
                exact fb_X12_isOption_75 P S0 hc n r S1 a0 x2 x3 x4 x5 a0 S_21 hA (Ta0) (Ta0) hm
              · rw [if_neg h25] at hm
                exact fb_X12_isOption_76 P S0 hc n r S1 a0 x2 x3 x4 x5 a0 1 S_21 hA (Ta0) (Ta0) hm
set_option maxHeartbeats 1000000 in
set_option maxRecDepth 100000 in
theorem fb_X12_least_31 (P : Nat → Prop) (S0 : pq_S) (hc : Clo P S0) (n : Nat) (r : Int64) (S1 : pq_S) : ∀ (x0 : Int64) (x2 : Int64) (x4 : Int32) (x5 : Int64) (S : pq_S), Ag P S0 S → b_X12_least_31 n x0 x2 x4 x5 S = some (r, S1) → Ag P S0 S1 := by
  intro x0 x2 x4 x5 S hA hm
  rw [b_X12_least_31] at hm
  by_cases h3 : x4 = 0
  · rw [if_pos h3] at hm
    obtain ⟨hn5, hm⟩ := ck_some hm
    cases hm
    exact hA
  · rw [if_neg h3] at hm
    obtain ⟨hn4, hm⟩ := ck_some hm
    cases hm
    exact hA
set_option maxHeartbeats 1000000 in
set_option maxRecDepth 100000 in
theorem fb_X12_least_6 (P : Nat → Prop) (S0 : pq_S) (hc : Clo P S0) (n : Nat) (r : Int64) (S1 : pq_S) : ∀ (f : Nat) (x0 : Int64) (x2 : Int64) (x4 : Int32) (x5 : Int64) (x7 : Int64) (S : pq_S), Ag P S0 S → b_X12_least_6 n f x0 x2 x4 x5 x7 S = some (r, S1) → Ag P S0 S1 := by
  intro f
  induction f with
  | zero =>
    intro x0 x2 x4 x5 x7 S hA hm
    cases hm
  | succ f ih =>
    intro x0 x2 x4 x5 x7 S hA hm
    rw [b_X12_least_6] at hm
    by_cases h1 : (lg_cmp x7 0) = 0
    · rw [if_pos h1] at hm
      exact fb_X12_least_31 P S0 hc n r S1 x0 x2 x4 x5 S hA  hm
    · rw [if_neg h1] at hm
      obtain ⟨hn2, hm⟩ := ck_some hm
      exact ih x0 x2 x4 x7 (x5 - x5 / x7 * x7) S hA  hm
set_option maxHeartbeats 1000000 in
set_option maxRecDepth 100000 in
theorem fr_X12_least (P : Nat → Prop) (n : Nat) (S0 : pq_S) (hc : Clo P S0) (x0 : Int64) (x2 : Int64) (x4 : Int32)  (r : Int64) (S1 : pq_S) (hm : m_X12_least n x0 x2 x4 S0 = some (r, S1)) : Ag P S0 S1 := by
  have hA : Ag P S0 S0 := Ag.rf _ _
  rw [m_X12_least] at hm
  exact fb_X12_least_6 P S0 hc n r S1 n x0 x2 x4 x0 x2 S0 hA  hm
set_option maxHeartbeats 1000000 in
set_option maxRecDepth 100000 in
theorem fb_X12_looks_191 (P : Nat → Prop) (S0 : pq_S) (hc : Clo P S0) (n : Nat) (r : Int32) (S1 : pq_S) (k40 : Nat → Int32 → Int32 → Int32 → Int32 → pq_S → Option (Int32 × pq_S)) (hk40 : ∀ (a0 : Nat) (x1 : Int32) (x2 : Int32) (x3 : Int32) (x4 : Int32) (S : pq_S), Ag P S0 S → P a0 → k40 a0 x1 x2 x3 x4 S = some (r, S1) → Ag P S0 S1) : ∀ (a0 : Nat) (x1 : Int32) (x2 : Int32) (x3 : Int32) (x4 : Int32) (S : pq_S), Ag P S0 S → P a0 → b_X12_looks_191 n k40 a0 x1 x2 x3 x4 S = some (r, S1) → Ag P S0 S1 := by
  intro a0 x1 x2 x3 x4 S hA Ta0 hm
  rw [b_X12_looks_191] at hm
  exact hk40 a0 x1 x2 x3 (x4 + 1) S hA (Ta0) hm
set_option maxHeartbeats 1000000 in
set_option maxRecDepth 100000 in
theorem fb_X12_looks_185 (P : Nat → Prop) (S0 : pq_S) (hc : Clo P S0) (n : Nat) (r : Int32) (S1 : pq_S) (k40 : Nat → Int32 → Int32 → Int32 → Int32 → pq_S → Option (Int32 × pq_S)) (hk40 : ∀ (a0 : Nat) (x1 : Int32) (x2 : Int32) (x3 : Int32) (x4 : Int32) (S : pq_S), Ag P S0 S → P a0 → k40 a0 x1 x2 x3 x4 S = some (r, S1) → Ag P S0 S1) (k50 : Nat → Int32 → Int32 → Int32 → Int32 → Int32 → pq_S → Option (Int32 × pq_S)) (hk50 : ∀ (a0 : Nat) (x1 : Int32) (x2 : Int32) (x3 : Int32) (x4 : Int32) (x5 : Int32) (S : pq_S), Ag P S0 S → P a0 → k50 a0 x1 x2 x3 x4 x5 S = some (r, S1) → Ag P S0 S1) : ∀ (a0 : Nat) (x1 : Int32) (x2 : Int32) (x3 : Int32) (x4 : Int32) (x5 : Int32) (S : pq_S), Ag P S0 S → P a0 → b_X12_looks_185 n k40 k50 a0 x1 x2 x3 x4 x5 S = some (r, S1) → Ag P S0 S1 := by
  intro a0 x1 x2 x3 x4 x5 S hA Ta0 hm
  rw [b_X12_looks_185] at hm
  exact hk50 a0 x1 x2 x3 x4 (x5 + 1) S hA (Ta0) hm
set_option maxHeartbeats 1000000 in
set_option maxRecDepth 100000 in
theorem fb_X12_looks_167 (P : Nat → Prop) (S0 : pq_S) (hc : Clo P S0) (n : Nat) (r : Int32) (S1 : pq_S) (k40 : Nat → Int32 → Int32 → Int32 → Int32 → pq_S → Option (Int32 × pq_S)) (hk40 : ∀ (a0 : Nat) (x1 : Int32) (x2 : Int32) (x3 : Int32) (x4 : Int32) (S : pq_S), Ag P S0 S → P a0 → k40 a0 x1 x2 x3 x4 S = some (r, S1) → Ag P S0 S1) (k50 : Nat → Int32 → Int32 → Int32 → Int32 → Int32 → pq_S → Option (Int32 × pq_S)) (hk50 : ∀ (a0 : Nat) (x1 : Int32) (x2 : Int32) (x3 : Int32) (x4 : Int32) (x5 : Int32) (S : pq_S), Ag P S0 S → P a0 → k50 a0 x1 x2 x3 x4 x5 S = some (r, S1) → Ag P S0 S1) : ∀ (a0 : Nat) (x1 : Int32) (x2 : Int32) (x3 : Int32) (x4 : Int32) (x5 : Int32) (x6 : Int32) (S : pq_S), Ag P S0 S → P a0 → b_X12_looks_167 n k40 k50 a0 x1 x2 x3 x4 x5 x6 S = some (r, S1) → Ag P S0 S1 := by
  intro a0 x1 x2 x3 x4 x5 x6 S hA Ta0 hm
  rw [b_X12_looks_167] at hm
  obtain ⟨q42, hq42, hm⟩ := bd_some hm
  have Tq42 : P q42 := hA.clo hc Ta0 hq42
  obtain ⟨hi43, hm⟩ := ck_some hm
  have hA : Ag P S0 (sA S q42 (Int32.toNatClampNeg x4) x6) := hA.sA Tq42
  obtain ⟨q44, hq44, hm⟩ := bd_some hm
  have Tq44 : P q44 := hA.clo hc Ta0 hq44
  obtain ⟨hi45, hm⟩ := ck_some hm
  have hA : Ag P S0 (sA (sA S q42 (Int32.toNatClampNeg x4) x6) q44 (Int32.toNatClampNeg x4) x5) := hA.sA Tq44
  obtain ⟨S_46, eS_46, hm⟩ := lt_some hm
  have hA : Ag P S0 S_46 := by rw [eS_46]; exact hA
  exact fb_X12_looks_185 P S0 hc n r S1 _ hk40 _ hk50 a0 x1 x2 x3 x4 x5 S_46 hA (Ta0) hm
set_option maxHeartbeats 1000000 in
set_option maxRecDepth 100000 in
theorem fb_X12_looks_138 (P : Nat → Prop) (S0 : pq_S) (hc : Clo P S0) (n : Nat) (r : Int32) (S1 : pq_S) (k40 : Nat → Int32 → Int32 → Int32 → Int32 → pq_S → Option (Int32 × pq_S)) (hk40 : ∀ (a0 : Nat) (x1 : Int32) (x2 : Int32) (x3 : Int32) (x4 : Int32) (S : pq_S), Ag P S0 S → P a0 → k40 a0 x1 x2 x3 x4 S = some (r, S1) → Ag P S0 S1) (k50 : Nat → Int32 → Int32 → Int32 → Int32 → Int32 → pq_S → Option (Int32 × pq_S)) (hk50 : ∀ (a0 : Nat) (x1 : Int32) (x2 : Int32) (x3 : Int32) (x4 : Int32) (x5 : Int32) (S : pq_S), Ag P S0 S → P a0 → k50 a0 x1 x2 x3 x4 x5 S = some (r, S1) → Ag P S0 S1) : ∀ (a0 : Nat) (x1 : Int32) (x2 : Int32) (x3 : Int32) (x4 : Int32) (x5 : Int32) (z0 : Int32) (z1 : Int32) (S : pq_S), Ag P S0 S → P a0 → b_X12_looks_138 n k40 k50 a0 x1 x2 x3 x4 x5 z0 z1 S = some (r, S1) → Ag P S0 S1 := by
  intro a0 x1 x2 x3 x4 x5 z0 z1 S hA Ta0 hm
  rw [b_X12_looks_138] at hm
  obtain ⟨q36, hq36, hm⟩ := bd_some hm
  have Tq36 : P q36 := hA.clo hc Ta0 hq36
  obtain ⟨hi37, hm⟩ := ck_some hm
  by_cases h38 : (pA S q36 (Int32.toNatClampNeg x4)) = (-1)
  · rw [if_pos h38] at hm
    exact fb_X12_looks_167 P S0 hc n r S1 _ hk40 _ hk50 a0 x1 x2 x3 x4 x5 (z0 + z1) S hA (Ta0) hm
  · rw [if_neg h38] at hm
    obtain ⟨q39, hq39, hm⟩ := bd_some hm
    have Tq39 : P q39 := hA.clo hc Ta0 hq39
    obtain ⟨hi40, hm⟩ := ck_some hm
    by_cases h41 : (z0 + z1) < (pA S q39 (Int32.toNatClampNeg x4))
    · rw [if_pos h41] at hm
      exact fb_X12_looks_167 P S0 hc n r S1 _ hk40 _ hk50 a0 x1 x2 x3 x4 x5 (z0 + z1) S hA (Ta0) hm
    · rw [if_neg h41] at hm
      exact fb_X12_looks_185 P S0 hc n r S1 _ hk40 _ hk50 a0 x1 x2 x3 x4 x5 S hA (Ta0) hm
set_option maxHeartbeats 1000000 in
set_option maxRecDepth 100000 in
theorem fb_X12_looks_84 (P : Nat → Prop) (S0 : pq_S) (hc : Clo P S0) (n : Nat) (r : Int32) (S1 : pq_S) (k40 : Nat → Int32 → Int32 → Int32 → Int32 → pq_S → Option (Int32 × pq_S)) (hk40 : ∀ (a0 : Nat) (x1 : Int32) (x2 : Int32) (x3 : Int32) (x4 : Int32) (S : pq_S), Ag P S0 S → P a0 → k40 a0 x1 x2 x3 x4 S = some (r, S1) → Ag P S0 S1) : ∀ (f : Nat) (a0 : Nat) (x1 : Int32) (x2 : Int32) (x3 : Int32) (x4 : Int32) (x5 : Int32) (S : pq_S), Ag P S0 S → P a0 → b_X12_looks_84 n k40 f a0 x1 x2 x3 x4 x5 S = some (r, S1) → Ag P S0 S1 := by
  intro f
  induction f with
  | zero =>
    intro a0 x1 x2 x3 x4 x5 S hA Ta0 hm
    cases hm
  | succ f ih =>
    intro a0 x1 x2 x3 x4 x5 S hA Ta0 hm
    rw [b_X12_looks_84] at hm
    by_cases h25 : x2 < x5
    · rw [if_pos h25] at hm
      exact fb_X12_looks_191 P S0 hc n r S1 _ hk40 a0 x1 x2 x3 x4 S hA (Ta0) hm
    · rw [if_neg h25] at hm
      by_cases h26 : x4 ≤ x5
      · rw [if_pos h26] at hm
        exact fb_X12_looks_191 P S0 hc n r S1 _ hk40 a0 x1 x2 x3 x4 S hA (Ta0) hm
      · rw [if_neg h26] at hm
        obtain ⟨q27, hq27, hm⟩ := bd_some hm
        have Tq27 : P q27 := hA.clo hc Ta0 hq27
        obtain ⟨hi28, hm⟩ := ck_some hm
        obtain ⟨q29, hq29, hm⟩ := bd_some hm
        have Tq29 : P q29 := hA.clo hc Ta0 hq29
        obtain ⟨hi30, hm⟩ := ck_some hm
        by_cases h31 : (pA S q27 (Int32.toNatClampNeg x5)) ≤ (pA S q29 (Int32.toNatClampNeg (x4 - x5)))
        · rw [if_pos h31] at hm
          obtain ⟨q32, hq32, hm⟩ := bd_some hm
          have Tq32 : P q32 := hA.clo hc Ta0 hq32
          obtain ⟨hi33, hm⟩ := ck_some hm
          exact fb_X12_looks_138 P S0 hc n r S1 _ hk40 _ ih a0 x1 x2 x3 x4 x5 1 (pA S q32 (Int32.toNatClampNeg (x4 - x5))) S hA (Ta0) hm
        · rw [if_neg h31] at hm
          obtain ⟨q34, hq34, hm⟩ := bd_some hm
          have Tq34 : P q34 := hA.clo hc Ta0 hq34
          obtain ⟨hi35, hm⟩ := ck_some hm
          exact fb_X12_looks_138 P S0 hc n r S1 _ hk40 _ ih a0 x1 x2 x3 x4 x5 1 (pA S q34 (Int32.toNatClampNeg x5)) S hA (Ta0) hm
set_option maxHeartbeats 1000000 in
set_option maxRecDepth 100000 in
theorem fb_X12_looks_197 (P : Nat → Prop) (S0 : pq_S) (hc : Clo P S0) (n : Nat) (r : Int32) (S1 : pq_S) : ∀ (a0 : Nat) (x1 : Int32) (x3 : Int32) (S : pq_S), Ag P S0 S → P a0 → b_X12_looks_197 n a0 x1 x3 S = some (r, S1) → Ag P S0 S1 := by
  intro a0 x1 x3 S hA Ta0 hm
  rw [b_X12_looks_197] at hm
  by_cases h47 : x3 = 0
  · rw [if_pos h47] at hm
    obtain ⟨q50, hq50, hm⟩ := bd_some hm
    have Tq50 : P q50 := hA.clo hc Ta0 hq50
    obtain ⟨hi51, hm⟩ := ck_some hm
    cases hm
    exact hA
  · rw [if_neg h47] at hm
    obtain ⟨q48, hq48, hm⟩ := bd_some hm
    have Tq48 : P q48 := hA.clo hc Ta0 hq48
    obtain ⟨hi49, hm⟩ := ck_some hm
    cases hm
    exact hA
set_option maxHeartbeats 1000000 in
set_option maxRecDepth 100000 in
theorem fb_X12_looks_67 (P : Nat → Prop) (S0 : pq_S) (hc : Clo P S0) (n : Nat) (r : Int32) (S1 : pq_S) : ∀ (f : Nat) (a0 : Nat) (x1 : Int32) (x2 : Int32) (x3 : Int32) (x4 : Int32) (S : pq_S), Ag P S0 S → P a0 → b_X12_looks_67 n f a0 x1 x2 x3 x4 S = some (r, S1) → Ag P S0 S1 := by
  intro f
  induction f with
  | zero =>
    intro a0 x1 x2 x3 x4 S hA Ta0 hm
    cases hm
  | succ f ih =>
    intro a0 x1 x2 x3 x4 S hA Ta0 hm
    rw [b_X12_looks_67] at hm
    by_cases h22 : x1 < x4
    · rw [if_pos h22] at hm
      exact fb_X12_looks_197 P S0 hc n r S1 a0 x1 x3 S hA (Ta0) hm
    · rw [if_neg h22] at hm
      obtain ⟨q23, hq23, hm⟩ := bd_some hm
      have Tq23 : P q23 := hA.clo hc Ta0 hq23
      obtain ⟨hi24, hm⟩ := ck_some hm
      have hA : Ag P S0 (sA S q23 (Int32.toNatClampNeg x4) (-1)) := hA.sA Tq23
      exact fb_X12_looks_84 P S0 hc n r S1 _ ih n a0 x1 x2 x3 x4 1 (sA S q23 (Int32.toNatClampNeg x4) (-1)) hA (Ta0) hm
set_option maxHeartbeats 1000000 in
set_option maxRecDepth 100000 in
theorem fb_X12_looks_40 (P : Nat → Prop) (S0 : pq_S) (hc : Clo P S0) (n : Nat) (r : Int32) (S1 : pq_S) : ∀ (a0 : Nat) (x1 : Int32) (x2 : Int32) (x3 : Int32) (b0 : Nat) (z1 : Int32) (S : pq_S), Ag P S0 S → P a0 → P b0 → b_X12_looks_40 n a0 x1 x2 x3 b0 z1 S = some (r, S1) → Ag P S0 S1 := by
  intro a0 x1 x2 x3 b0 z1 S hA Ta0 Tb0 hm
  rw [b_X12_looks_40] at hm
  obtain ⟨r15, S_13, hq14, hm⟩ := cb_some hm
  have hA : Ag P S0 S_13 := hA.tr (fr_X12_may P n S (hA.cl hc) b0 z1 1 1 (Tb0) r15 S_13 hq14)
  by_cases h16 : r15 = 0
  · rw [if_pos h16] at hm
    cases hm
    exact hA
  · rw [if_neg h16] at hm
    obtain ⟨q17, hq17, hm⟩ := bd_some hm
    have Tq17 : P q17 := hA.clo hc Ta0 hq17
    obtain ⟨hi18, hm⟩ := ck_some hm
    have hA : Ag P S0 (sA S_13 q17 (Int32.toNatClampNeg 1) 0) := hA.sA Tq17
    obtain ⟨q19, hq19, hm⟩ := bd_some hm
    have Tq19 : P q19 := hA.clo hc Ta0 hq19
    obtain ⟨hi20, hm⟩ := ck_some hm
    have hA : Ag P S0 (sA (sA S_13 q17 (Int32.toNatClampNeg 1) 0) q19 (Int32.toNatClampNeg 1) 0) := hA.sA Tq19
    obtain ⟨S_21, eS_21, hm⟩ := lt_some hm
    have hA : Ag P S0 S_21 := by rw [eS_21]; exact hA
    exact fb_X12_looks_67 P S0 hc n r S1 n a0 x1 x2 x3 2 S_21 hA (Ta0) hm
set_option maxHeartbeats 1000000 in
set_option maxRecDepth 100000 in
theorem fb_X12_looks_39 (P : Nat → Prop) (S0 : pq_S) (hc : Clo P S0) (n : Nat) (r : Int32) (S1 : pq_S) : ∀ (a0 : Nat) (x1 : Int32) (x2 : Int32) (x3 : Int32) (b0 : Nat) (S : pq_S), Ag P S0 S → P a0 → P b0 → b_X12_looks_39 n a0 x1 x2 x3 b0 S = some (r, S1) → Ag P S0 S1 := by
  intro a0 x1 x2 x3 b0 S hA Ta0 Tb0 hm
  rw [b_X12_looks_39] at hm
  exact fb_X12_looks_40 P S0 hc n r S1 a0 x1 x2 x3 b0 0 S hA (Ta0) (Tb0) hm
set_option maxHeartbeats 1000000 in
set_option maxRecDepth 100000 in
theorem fr_X12_looks (P : Nat → Prop) (n : Nat) (S0 : pq_S) (hc : Clo P S0) (a0 : Nat) (x1 : Int32) (x2 : Int32) (x3 : Int32) (Ta0 : P a0) (r : Int32) (S1 : pq_S) (hm : m_X12_looks n a0 x1 x2 x3 S0 = some (r, S1)) : Ag P S0 S1 := by
  have hA : Ag P S0 S0 := Ag.rf _ _
  rw [m_X12_looks] at hm
  have hA : Ag P S0 (sI S0 1200 a0 0) := hA.sI Ta0
  obtain ⟨r3, S_1, hq2, hm⟩ := cb_some hm
  have hA : Ag P S0 S_1 := hA.tr (fr_X12_within P n (sI S0 1200 a0 0) (hA.cl hc) x1 1 40  r3 S_1 hq2)
  by_cases h4 : r3 = 0
  · rw [if_pos h4] at hm
    exact fb_X12_looks_39 P S0 hc n r S1 a0 x1 x2 x3 a0 S_1 hA (Ta0) (Ta0) hm
  · rw [if_neg h4] at hm
    obtain ⟨r7, S_5, hq6, hm⟩ := cb_some hm
    have hA : Ag P S0 S_5 := hA.tr (fr_X12_within P n S_1 (hA.cl hc) x2 1 40  r7 S_5 hq6)
    by_cases h8 : r7 = 0
    · rw [if_pos h8] at hm
      exact fb_X12_looks_39 P S0 hc n r S1 a0 x1 x2 x3 a0 S_5 hA (Ta0) (Ta0) hm
    · rw [if_neg h8] at hm
      obtain ⟨r11, S_9, hq10, hm⟩ := cb_some hm
      have hA : Ag P S0 S_9 := hA.tr (fr_X12_within P n S_5 (hA.cl hc) x3 0 1  r11 S_9 hq10)
      by_cases h12 : r11 = 0
      · rw [if_pos h12] at hm
        exact fb_X12_looks_39 P S0 hc n r S1 a0 x1 x2 x3 a0 S_9 hA (Ta0) (Ta0) hm
      · rw [if_neg h12] at hm
        exact fb_X12_looks_40 P S0 hc n r S1 a0 x1 x2 x3 a0 1 S_9 hA (Ta0) (Ta0) hm
set_option maxHeartbeats 1000000 in
set_option maxRecDepth 100000 in
theorem fb_X12_findAlong_62 (P : Nat → Prop) (S0 : pq_S) (hc : Clo P S0) (n : Nat) (S1 : pq_S) (k2 : Nat → Int32 → pq_S → Option pq_S) (hk2 : ∀ (a0 : Nat) (x1 : Int32) (S : pq_S), Ag P S0 S → P a0 → k2 a0 x1 S = some S1 → Ag P S0 S1) : ∀ (a0 : Nat) (x1 : Int32) (x2 : Int32) (S : pq_S), Ag P S0 S → P a0 → b_X12_findAlong_62 n k2 a0 x1 x2 S = some S1 → Ag P S0 S1 := by
  intro a0 x1 x2 S hA Ta0 hm
  rw [b_X12_findAlong_62] at hm
  obtain ⟨q15, hq15, hm⟩ := bd_some hm
  have Tq15 : P q15 := hA.clo hc Ta0 hq15
  obtain ⟨hi16, hm⟩ := ck_some hm
  have hA : Ag P S0 (sA S q15 (Int32.toNatClampNeg x2) x1) := hA.sA Tq15
  exact hk2 a0 (x1 + 1) (sA S q15 (Int32.toNatClampNeg x2) x1) hA (Ta0) hm
set_option maxHeartbeats 1000000 in
set_option maxRecDepth 100000 in
theorem fb_X12_findAlong_12 (P : Nat → Prop) (S0 : pq_S) (hc : Clo P S0) (n : Nat) (S1 : pq_S) (k2 : Nat → Int32 → pq_S → Option pq_S) (hk2 : ∀ (a0 : Nat) (x1 : Int32) (S : pq_S), Ag P S0 S → P a0 → k2 a0 x1 S = some S1 → Ag P S0 S1) : ∀ (f : Nat) (a0 : Nat) (x1 : Int32) (x2 : Int32) (S : pq_S), Ag P S0 S → P a0 → b_X12_findAlong_12 n k2 f a0 x1 x2 S = some S1 → Ag P S0 S1 := by
  intro f
  induction f with
  | zero =>
    intro a0 x1 x2 S hA Ta0 hm
    cases hm
  | succ f ih =>
    intro a0 x1 x2 S hA Ta0 hm
    rw [b_X12_findAlong_12] at hm
    by_cases h2 : x2 ≤ 0
    · rw [if_pos h2] at hm
      exact fb_X12_findAlong_62 P S0 hc n S1 _ hk2 a0 x1 x2 S hA (Ta0) hm
    · rw [if_neg h2] at hm
      obtain ⟨q3, hq3, hm⟩ := bd_some hm
      have Tq3 : P q3 := hA.clo hc Ta0 hq3
      obtain ⟨q4, hq4, hm⟩ := bd_some hm
      have Tq4 : P q4 := hA.clo hc Ta0 hq4
      obtain ⟨hi5, hm⟩ := ck_some hm
      obtain ⟨hi6, hm⟩ := ck_some hm
      obtain ⟨q7, hq7, hm⟩ := bd_some hm
      have Tq7 : P q7 := hA.clo hc Ta0 hq7
      obtain ⟨hi8, hm⟩ := ck_some hm
      by_cases h9 : (pA S q3 (Int32.toNatClampNeg ((4 : Int32) * (pA S q4 (Int32.toNatClampNeg (x2 - (1 : Int32))))))) ≤ (pA S q7 (Int32.toNatClampNeg ((4 : Int32) * x1)))
      · rw [if_pos h9] at hm
        exact fb_X12_findAlong_62 P S0 hc n S1 _ hk2 a0 x1 x2 S hA (Ta0) hm
      · rw [if_neg h9] at hm
        obtain ⟨q10, hq10, hm⟩ := bd_some hm
        have Tq10 : P q10 := hA.clo hc Ta0 hq10
        obtain ⟨q11, hq11, hm⟩ := bd_some hm
        have Tq11 : P q11 := hA.clo hc Ta0 hq11
        obtain ⟨hi12, hm⟩ := ck_some hm
        obtain ⟨hi13, hm⟩ := ck_some hm
        have hA : Ag P S0 (sA S q10 (Int32.toNatClampNeg x2) (pA S q11 (Int32.toNatClampNeg (x2 - (1 : Int32))))) := hA.sA Tq10
        obtain ⟨S_14, eS_14, hm⟩ := lt_some hm
        have hA : Ag P S0 S_14 := by rw [eS_14]; exact hA
        exact ih a0 x1 (x2 + (-1)) S_14 hA (Ta0) hm
set_option maxHeartbeats 1000000 in
set_option maxRecDepth 100000 in
theorem fb_X12_findAlong_2 (P : Nat → Prop) (S0 : pq_S) (hc : Clo P S0) (n : Nat) (S1 : pq_S) : ∀ (f : Nat) (a0 : Nat) (x1 : Int32) (S : pq_S), Ag P S0 S → P a0 → b_X12_findAlong_2 n f a0 x1 S = some S1 → Ag P S0 S1 := by
  intro f
  induction f with
  | zero =>
    intro a0 x1 S hA Ta0 hm
    cases hm
  | succ f ih =>
    intro a0 x1 S hA Ta0 hm
    rw [b_X12_findAlong_2] at hm
    by_cases h1 : (pI S 1224 a0) ≤ x1
    · rw [if_pos h1] at hm
      cases hm
      exact hA
    · rw [if_neg h1] at hm
      exact fb_X12_findAlong_12 P S0 hc n S1 _ ih n a0 x1 x1 S hA (Ta0) hm
set_option maxHeartbeats 1000000 in
set_option maxRecDepth 100000 in
theorem fr_X12_findAlong (P : Nat → Prop) (n : Nat) (S0 : pq_S) (hc : Clo P S0) (a0 : Nat) (Ta0 : P a0) (S1 : pq_S) (hm : m_X12_findAlong n a0 S0 = some S1) : Ag P S0 S1 := by
  have hA : Ag P S0 S0 := Ag.rf _ _
  rw [m_X12_findAlong] at hm
  exact fb_X12_findAlong_2 P S0 hc n S1 n a0 0 S0 hA (Ta0) hm
set_option maxHeartbeats 1000000 in
set_option maxRecDepth 100000 in
theorem fb_X12_missOf_82 (P : Nat → Prop) (S0 : pq_S) (hc : Clo P S0) (n : Nat) (r : Int32) (S1 : pq_S) (k10 : Nat → Int32 → Int32 → Int32 → Int32 → pq_S → Option (Int32 × pq_S)) (hk10 : ∀ (a0 : Nat) (x1 : Int32) (x2 : Int32) (x3 : Int32) (x4 : Int32) (S : pq_S), Ag P S0 S → P a0 → k10 a0 x1 x2 x3 x4 S = some (r, S1) → Ag P S0 S1) : ∀ (a0 : Nat) (x1 : Int32) (x2 : Int32) (x3 : Int32) (x4 : Int32) (S : pq_S), Ag P S0 S → P a0 → b_X12_missOf_82 n k10 a0 x1 x2 x3 x4 S = some (r, S1) → Ag P S0 S1 := by
  intro a0 x1 x2 x3 x4 S hA Ta0 hm
  rw [b_X12_missOf_82] at hm
  exact hk10 a0 x1 x2 x3 (x4 + 1) S hA (Ta0) hm
set_option maxHeartbeats 1000000 in
set_option maxRecDepth 100000 in
theorem fb_X12_missOf_55 (P : Nat → Prop) (S0 : pq_S) (hc : Clo P S0) (n : Nat) (r : Int32) (S1 : pq_S) (k10 : Nat → Int32 → Int32 → Int32 → Int32 → pq_S → Option (Int32 × pq_S)) (hk10 : ∀ (a0 : Nat) (x1 : Int32) (x2 : Int32) (x3 : Int32) (x4 : Int32) (S : pq_S), Ag P S0 S → P a0 → k10 a0 x1 x2 x3 x4 S = some (r, S1) → Ag P S0 S1) : ∀ (a0 : Nat) (x1 : Int32) (x2 : Int32) (x3 : Int32) (x4 : Int32) (S : pq_S), Ag P S0 S → P a0 → b_X12_missOf_55 n k10 a0 x1 x2 x3 x4 S = some (r, S1) → Ag P S0 S1 := by
  intro a0 x1 x2 x3 x4 S hA Ta0 hm
  rw [b_X12_missOf_55] at hm
  by_cases h10 : (pI S 1224 a0) ≤ (x4 + (1 : Int32))
  · rw [if_pos h10] at hm
    exact fb_X12_missOf_82 P S0 hc n r S1 _ hk10 a0 x1 x2 x3 x4 S hA (Ta0) hm
  · rw [if_neg h10] at hm
    obtain ⟨q11, hq11, hm⟩ := bd_some hm
    have Tq11 : P q11 := hA.clo hc Ta0 hq11
    obtain ⟨hi12, hm⟩ := ck_some hm
    obtain ⟨v13, ev13, hm⟩ := lt_some hm
    exact fb_X12_missOf_82 P S0 hc n r S1 _ hk10 a0 x1 x2 v13 x4 S hA (Ta0) hm
set_option maxHeartbeats 1000000 in
set_option maxRecDepth 100000 in
theorem fb_X12_missOf_11 (P : Nat → Prop) (S0 : pq_S) (hc : Clo P S0) (n : Nat) (r : Int32) (S1 : pq_S) : ∀ (f : Nat) (a0 : Nat) (x1 : Int32) (x2 : Int32) (x3 : Int32) (x4 : Int32) (S : pq_S), Ag P S0 S → P a0 → b_X12_missOf_11 n f a0 x1 x2 x3 x4 S = some (r, S1) → Ag P S0 S1 := by
  intro f
  induction f with
  | zero =>
    intro a0 x1 x2 x3 x4 S hA Ta0 hm
    cases hm
  | succ f ih =>
    intro a0 x1 x2 x3 x4 S hA Ta0 hm
    rw [b_X12_missOf_11] at hm
    by_cases h2 : (pI S 1224 a0) ≤ x4
    · rw [if_pos h2] at hm
      cases hm
      exact hA
    · rw [if_neg h2] at hm
      obtain ⟨q3, hq3, hm⟩ := bd_some hm
      have Tq3 : P q3 := hA.clo hc Ta0 hq3
      obtain ⟨hi4, hm⟩ := ck_some hm
      by_cases h5 : (pA S q3 (Int32.toNatClampNeg x4)) = x1
      · rw [if_pos h5] at hm
        by_cases h6 : x4 ≤ 0
        · rw [if_pos h6] at hm
          exact fb_X12_missOf_55 P S0 hc n r S1 _ ih a0 x1 x2 x3 x4 S hA (Ta0) hm
        · rw [if_neg h6] at hm
          obtain ⟨q7, hq7, hm⟩ := bd_some hm
          have Tq7 : P q7 := hA.clo hc Ta0 hq7
          obtain ⟨hi8, hm⟩ := ck_some hm
          obtain ⟨v9, ev9, hm⟩ := lt_some hm
          exact fb_X12_missOf_55 P S0 hc n r S1 _ ih a0 x1 x2 v9 x4 S hA (Ta0) hm
      · rw [if_neg h5] at hm
        exact fb_X12_missOf_82 P S0 hc n r S1 _ ih a0 x1 x2 x3 x4 S hA (Ta0) hm
set_option maxHeartbeats 1000000 in
set_option maxRecDepth 100000 in
theorem fr_X12_missOf (P : Nat → Prop) (n : Nat) (S0 : pq_S) (hc : Clo P S0) (a0 : Nat) (x1 : Int32) (x2 : Int32) (Ta0 : P a0) (r : Int32) (S1 : pq_S) (hm : m_X12_missOf n a0 x1 x2 S0 = some (r, S1)) : Ag P S0 S1 := by
  have hA : Ag P S0 S0 := Ag.rf _ _
  rw [m_X12_missOf] at hm
  obtain ⟨v1, ev1, hm⟩ := lt_some hm
  exact fb_X12_missOf_11 P S0 hc n r S1 n a0 x1 x2 v1 0 S0 hA (Ta0) hm
set_option maxHeartbeats 1000000 in
set_option maxRecDepth 100000 in
theorem fb_X12_leaky_111 (P : Nat → Prop) (S0 : pq_S) (hc : Clo P S0) (n : Nat) (r : Int32) (S1 : pq_S) (k31 : Nat → Int32 → Int32 → Int32 → Int32 → Int32 → Int32 → pq_S → Option (Int32 × pq_S)) (hk31 : ∀ (a0 : Nat) (x1 : Int32) (x2 : Int32) (x3 : Int32) (x4 : Int32) (x5 : Int32) (x6 : Int32) (S : pq_S), Ag P S0 S → P a0 → k31 a0 x1 x2 x3 x4 x5 x6 S = some (r, S1) → Ag P S0 S1) (k41 : Nat → Int32 → Int32 → Int32 → Int32 → Int32 → Int32 → Int32 → Int32 → pq_S → Option (Int32 × pq_S)) (hk41 : ∀ (a0 : Nat) (x1 : Int32) (x2 : Int32) (x3 : Int32) (x4 : Int32) (x5 : Int32) (x6 : Int32) (x7 : Int32) (x8 : Int32) (S : pq_S), Ag P S0 S → P a0 → k41 a0 x1 x2 x3 x4 x5 x6 x7 x8 S = some (r, S1) → Ag P S0 S1) : ∀ (a0 : Nat) (x1 : Int32) (x2 : Int32) (x3 : Int32) (x4 : Int32) (x5 : Int32) (x6 : Int32) (x8 : Int32) (z0 : Int32) (S : pq_S), Ag P S0 S → P a0 → b_X12_leaky_111 n k31 k41 a0 x1 x2 x3 x4 x5 x6 x8 z0 S = some (r, S1) → Ag P S0 S1 := by
  intro a0 x1 x2 x3 x4 x5 x6 x8 z0 S hA Ta0 hm
  rw [b_X12_leaky_111] at hm
  exact hk41 a0 x1 x2 x3 x4 x5 x6 z0 (x8 + 1) S hA (Ta0) hm
set_option maxHeartbeats 1000000 in
set_option maxRecDepth 100000 in
theorem fb_X12_leaky_110 (P : Nat → Prop) (S0 : pq_S) (hc : Clo P S0) (n : Nat) (r : Int32) (S1 : pq_S) (k31 : Nat → Int32 → Int32 → Int32 → Int32 → Int32 → Int32 → pq_S → Option (Int32 × pq_S)) (hk31 : ∀ (a0 : Nat) (x1 : Int32) (x2 : Int32) (x3 : Int32) (x4 : Int32) (x5 : Int32) (x6 : Int32) (S : pq_S), Ag P S0 S → P a0 → k31 a0 x1 x2 x3 x4 x5 x6 S = some (r, S1) → Ag P S0 S1) (k41 : Nat → Int32 → Int32 → Int32 → Int32 → Int32 → Int32 → Int32 → Int32 → pq_S → Option (Int32 × pq_S)) (hk41 : ∀ (a0 : Nat) (x1 : Int32) (x2 : Int32) (x3 : Int32) (x4 : Int32) (x5 : Int32) (x6 : Int32) (x7 : Int32) (x8 : Int32) (S : pq_S), Ag P S0 S → P a0 → k41 a0 x1 x2 x3 x4 x5 x6 x7 x8 S = some (r, S1) → Ag P S0 S1) : ∀ (a0 : Nat) (x1 : Int32) (x2 : Int32) (x3 : Int32) (x4 : Int32) (x5 : Int32) (x6 : Int32) (x8 : Int32) (S : pq_S), Ag P S0 S → P a0 → b_X12_leaky_110 n k31 k41 a0 x1 x2 x3 x4 x5 x6 x8 S = some (r, S1) → Ag P S0 S1 := by
  intro a0 x1 x2 x3 x4 x5 x6 x8 S hA Ta0 hm
  rw [b_X12_leaky_110] at hm
  exact fb_X12_leaky_111 P S0 hc n r S1 _ hk31 _ hk41 a0 x1 x2 x3 x4 x5 x6 x8 0 S hA (Ta0) hm
set_option maxHeartbeats 1000000 in
set_option maxRecDepth 100000 in
theorem fb_X12_leaky_156 (P : Nat → Prop) (S0 : pq_S) (hc : Clo P S0) (n : Nat) (r : Int32) (S1 : pq_S) (k31 : Nat → Int32 → Int32 → Int32 → Int32 → Int32 → Int32 → pq_S → Option (Int32 × pq_S)) (hk31 : ∀ (a0 : Nat) (x1 : Int32) (x2 : Int32) (x3 : Int32) (x4 : Int32) (x5 : Int32) (x6 : Int32) (S : pq_S), Ag P S0 S → P a0 → k31 a0 x1 x2 x3 x4 x5 x6 S = some (r, S1) → Ag P S0 S1) : ∀ (a0 : Nat) (x1 : Int32) (x2 : Int32) (x3 : Int32) (x4 : Int32) (x5 : Int32) (x6 : Int32) (S : pq_S), Ag P S0 S → P a0 → b_X12_leaky_156 n k31 a0 x1 x2 x3 x4 x5 x6 S = some (r, S1) → Ag P S0 S1 := by
  intro a0 x1 x2 x3 x4 x5 x6 S hA Ta0 hm
  rw [b_X12_leaky_156] at hm
  exact hk31 a0 x1 x2 x3 x4 x5 (x6 + 1) S hA (Ta0) hm
set_option maxHeartbeats 1000000 in
set_option maxRecDepth 100000 in
theorem fb_X12_leaky_141 (P : Nat → Prop) (S0 : pq_S) (hc : Clo P S0) (n : Nat) (r : Int32) (S1 : pq_S) (k31 : Nat → Int32 → Int32 → Int32 → Int32 → Int32 → Int32 → pq_S → Option (Int32 × pq_S)) (hk31 : ∀ (a0 : Nat) (x1 : Int32) (x2 : Int32) (x3 : Int32) (x4 : Int32) (x5 : Int32) (x6 : Int32) (S : pq_S), Ag P S0 S → P a0 → k31 a0 x1 x2 x3 x4 x5 x6 S = some (r, S1) → Ag P S0 S1) : ∀ (a0 : Nat) (x1 : Int32) (x2 : Int32) (x4 : Int32) (x5 : Int32) (x6 : Int32) (z0 : Int32) (S : pq_S), Ag P S0 S → P a0 → b_X12_leaky_141 n k31 a0 x1 x2 x4 x5 x6 z0 S = some (r, S1) → Ag P S0 S1 := by
  intro a0 x1 x2 x4 x5 x6 z0 S hA Ta0 hm
  rw [b_X12_leaky_141] at hm
  exact fb_X12_leaky_156 P S0 hc n r S1 _ hk31 a0 x1 x2 z0 (x4 &&& x6) (x5 ||| x6) x6 S hA (Ta0) hm
set_option maxHeartbeats 1000000 in
set_option maxRecDepth 100000 in
theorem fb_X12_leaky_119 (P : Nat → Prop) (S0 : pq_S) (hc : Clo P S0) (n : Nat) (r : Int32) (S1 : pq_S) (k31 : Nat → Int32 → Int32 → Int32 → Int32 → Int32 → Int32 → pq_S → Option (Int32 × pq_S)) (hk31 : ∀ (a0 : Nat) (x1 : Int32) (x2 : Int32) (x3 : Int32) (x4 : Int32) (x5 : Int32) (x6 : Int32) (S : pq_S), Ag P S0 S → P a0 → k31 a0 x1 x2 x3 x4 x5 x6 S = some (r, S1) → Ag P S0 S1) : ∀ (a0 : Nat) (x1 : Int32) (x2 : Int32) (x3 : Int32) (x4 : Int32) (x5 : Int32) (x6 : Int32) (x7 : Int32) (S : pq_S), Ag P S0 S → P a0 → b_X12_leaky_119 n k31 a0 x1 x2 x3 x4 x5 x6 x7 S = some (r, S1) → Ag P S0 S1 := by
  intro a0 x1 x2 x3 x4 x5 x6 x7 S hA Ta0 hm
  rw [b_X12_leaky_119] at hm
  by_cases h22 : x7 = 0
  · rw [if_pos h22] at hm
    exact fb_X12_leaky_156 P S0 hc n r S1 _ hk31 a0 x1 x2 x3 x4 x5 x6 S hA (Ta0) hm
  · rw [if_neg h22] at hm
    by_cases h23 : x3 = (-1)
    · rw [if_pos h23] at hm
      exact fb_X12_leaky_141 P S0 hc n r S1 _ hk31 a0 x1 (x2 + 1) x4 x5 x6 x6 S hA (Ta0) hm
    · rw [if_neg h23] at hm
      exact fb_X12_leaky_141 P S0 hc n r S1 _ hk31 a0 x1 (x2 + 1) x4 x5 x6 x3 S hA (Ta0) hm
set_option maxHeartbeats 1000000 in
set_option maxRecDepth 100000 in
theorem fb_X12_leaky_63 (P : Nat → Prop) (S0 : pq_S) (hc : Clo P S0) (n : Nat) (r : Int32) (S1 : pq_S) (k31 : Nat → Int32 → Int32 → Int32 → Int32 → Int32 → Int32 → pq_S → Option (Int32 × pq_S)) (hk31 : ∀ (a0 : Nat) (x1 : Int32) (x2 : Int32) (x3 : Int32) (x4 : Int32) (x5 : Int32) (x6 : Int32) (S : pq_S), Ag P S0 S → P a0 → k31 a0 x1 x2 x3 x4 x5 x6 S = some (r, S1) → Ag P S0 S1) : ∀ (f : Nat) (a0 : Nat) (x1 : Int32) (x2 : Int32) (x3 : Int32) (x4 : Int32) (x5 : Int32) (x6 : Int32) (x7 : Int32) (x8 : Int32) (S : pq_S), Ag P S0 S → P a0 → b_X12_leaky_63 n k31 f a0 x1 x2 x3 x4 x5 x6 x7 x8 S = some (r, S1) → Ag P S0 S1 := by
  intro f
  induction f with
  | zero =>
    intro a0 x1 x2 x3 x4 x5 x6 x7 x8 S hA Ta0 hm
    cases hm
  | succ f ih =>
    intro a0 x1 x2 x3 x4 x5 x6 x7 x8 S hA Ta0 hm
    rw [b_X12_leaky_63] at hm
    by_cases h12 : (pI S 1251 a0) ≤ x8
    · rw [if_pos h12] at hm
      exact fb_X12_leaky_119 P S0 hc n r S1 _ hk31 a0 x1 x2 x3 x4 x5 x6 x7 S hA (Ta0) hm
    · rw [if_neg h12] at hm
      by_cases h13 : x7 = 0
      · rw [if_pos h13] at hm
        exact fb_X12_leaky_110 P S0 hc n r S1 _ hk31 _ ih a0 x1 x2 x3 x4 x5 x6 x8 S hA (Ta0) hm
      · rw [if_neg h13] at hm
        obtain ⟨q14, hq14, hm⟩ := bd_some hm
        have Tq14 : P q14 := hA.clo hc Ta0 hq14
        obtain ⟨hi15, hm⟩ := ck_some hm
        obtain ⟨r18, S_16, hq17, hm⟩ := cb_some hm
        have hA : Ag P S0 S_16 := hA.tr (fr_X12_missOf P n S (hA.cl hc) a0 (pA S q14 (Int32.toNatClampNeg ((2 : Int32) * x8))) x6 (Ta0) r18 S_16 hq17)
        obtain ⟨q19, hq19, hm⟩ := bd_some hm
        have Tq19 : P q19 := hA.clo hc Ta0 hq19
        obtain ⟨hi20, hm⟩ := ck_some hm
        by_cases h21 : r18 = (pA S_16 q19 (Int32.toNatClampNeg (((2 : Int32) * x8) + (1 : Int32))))
        · rw [if_pos h21] at hm
          exact fb_X12_leaky_111 P S0 hc n r S1 _ hk31 _ ih a0 x1 x2 x3 x4 x5 x6 x8 1 S_16 hA (Ta0) hm
        · rw [if_neg h21] at hm
          exact fb_X12_leaky_110 P S0 hc n r S1 _ hk31 _ ih a0 x1 x2 x3 x4 x5 x6 x8 S_16 hA (Ta0) hm
set_option maxHeartbeats 1000000 in
set_option maxRecDepth 100000 in
theorem fb_X12_leaky_162 (P : Nat → Prop) (S0 : pq_S) (hc : Clo P S0) (n : Nat) (r : Int32) (S1 : pq_S) : ∀ (a0 : Nat) (x1 : Int32) (x2 : Int32) (x3 : Int32) (x4 : Int32) (x5 : Int32) (S : pq_S), Ag P S0 S → P a0 → b_X12_leaky_162 n a0 x1 x2 x3 x4 x5 S = some (r, S1) → Ag P S0 S1 := by
  intro a0 x1 x2 x3 x4 x5 S hA Ta0 hm
  rw [b_X12_leaky_162] at hm
  by_cases h24 : 2 ≤ x1
  · rw [if_pos h24] at hm
    by_cases h25 : x2 = 0
    · rw [if_pos h25] at hm
      cases hm
      exact hA
    · rw [if_neg h25] at hm
      by_cases h26 : x1 = 2
      · rw [if_pos h26] at hm
        cases hm
        exact hA
      · rw [if_neg h26] at hm
        cases hm
        exact hA
  · rw [if_neg h24] at hm
    by_cases h27 : x1 = 0
    · rw [if_pos h27] at hm
      cases hm
      exact hA
    · rw [if_neg h27] at hm
      cases hm
      exact hA
set_option maxHeartbeats 1000000 in
set_option maxRecDepth 100000 in
theorem fb_X12_leaky_46 (P : Nat → Prop) (S0 : pq_S) (hc : Clo P S0) (n : Nat) (r : Int32) (S1 : pq_S) : ∀ (f : Nat) (a0 : Nat) (x1 : Int32) (x2 : Int32) (x3 : Int32) (x4 : Int32) (x5 : Int32) (x6 : Int32) (S : pq_S), Ag P S0 S → P a0 → b_X12_leaky_46 n f a0 x1 x2 x3 x4 x5 x6 S = some (r, S1) → Ag P S0 S1 := by
  intro f
  induction f with
  | zero =>
    intro a0 x1 x2 x3 x4 x5 x6 S hA Ta0 hm
    cases hm
  | succ f ih =>
    intro a0 x1 x2 x3 x4 x5 x6 S hA Ta0 hm
    rw [b_X12_leaky_46] at hm
    by_cases h11 : ((1 : Int32) <<< ((pI S 1224 a0) &&& (31 : Int32))) ≤ x6
    · rw [if_pos h11] at hm
      exact fb_X12_leaky_162 P S0 hc n r S1 a0 x1 x2 x3 x4 x5 S hA (Ta0) hm
    · rw [if_neg h11] at hm
      exact fb_X12_leaky_63 P S0 hc n r S1 _ ih n a0 x1 x2 x3 x4 x5 x6 1 0 S hA (Ta0) hm
set_option maxHeartbeats 1000000 in
set_option maxRecDepth 100000 in
theorem fr_X12_leaky (P : Nat → Prop) (n : Nat) (S0 : pq_S) (hc : Clo P S0) (a0 : Nat) (x1 : Int32) (Ta0 : P a0) (r : Int32) (S1 : pq_S) (hm : m_X12_leaky n a0 x1 S0 = some (r, S1)) : Ag P S0 S1 := by
  have hA : Ag P S0 S0 := Ag.rf _ _
  rw [m_X12_leaky] at hm
  have hA : Ag P S0 (sI S0 1200 a0 0) := hA.sI Ta0
  obtain ⟨r3, S_1, hq2, hm⟩ := cb_some hm
  have hA : Ag P S0 S_1 := hA.tr (fr_X12_within P n (sI S0 1200 a0 0) (hA.cl hc) x1 0 3  r3 S_1 hq2)
  obtain ⟨r6, S_4, hq5, hm⟩ := cb_some hm
  have hA : Ag P S0 S_4 := hA.tr (fr_X12_may P n S_1 (hA.cl hc) a0 r3 1 1 (Ta0) r6 S_4 hq5)
  by_cases h7 : r6 = 0
  · rw [if_pos h7] at hm
    cases hm
    exact hA
  · rw [if_neg h7] at hm
    obtain ⟨S_8, hq9, hm⟩ := bd_some hm
    have hA : Ag P S0 S_8 := hA.tr (fr_X12_findAlong P n S_4 (hA.cl hc) a0 (Ta0)  S_8 hq9)
    obtain ⟨v10, ev10, hm⟩ := lt_some hm
    exact fb_X12_leaky_46 P S0 hc n r S1 n a0 x1 0 (-1) v10 0 0 S_8 hA (Ta0) hm
set_option maxHeartbeats 1000000 in
set_option maxRecDepth 100000 in
theorem fr_X12_misses (P : Nat → Prop) (n : Nat) (S0 : pq_S) (hc : Clo P S0) (a0 : Nat) (x1 : Int32) (x2 : Int32) (Ta0 : P a0) (r : Int32) (S1 : pq_S) (hm : m_X12_misses n a0 x1 x2 S0 = some (r, S1)) : Ag P S0 S1 := by
  have hA : Ag P S0 S0 := Ag.rf _ _
  rw [m_X12_misses] at hm
  have hA : Ag P S0 (sI S0 1200 a0 0) := hA.sI Ta0
  obtain ⟨r3, S_1, hq2, hm⟩ := cb_some hm
  have hA : Ag P S0 S_1 := hA.tr (fr_X12_isPlace P n (sI S0 1200 a0 0) (hA.cl hc) a0 x1 1 (Ta0) r3 S_1 hq2)
  by_cases h4 : r3 = 0
  · rw [if_pos h4] at hm
    cases hm
    exact hA
  · rw [if_neg h4] at hm
    obtain ⟨r7, S_5, hq6, hm⟩ := cb_some hm
    have hA : Ag P S0 S_5 := hA.tr (fr_X12_within P n S_1 (hA.cl hc) x2 0 (((1 : Int32) <<< ((pI S_1 1224 a0) &&& (31 : Int32))) - (1 : Int32))  r7 S_5 hq6)
    obtain ⟨r10, S_8, hq9, hm⟩ := cb_some hm
    have hA : Ag P S0 S_8 := hA.tr (fr_X12_may P n S_5 (hA.cl hc) a0 r7 2 1 (Ta0) r10 S_8 hq9)
    by_cases h11 : r10 = 0
    · rw [if_pos h11] at hm
      cases hm
      exact hA
    · rw [if_neg h11] at hm
      obtain ⟨S_12, hq13, hm⟩ := bd_some hm
      have hA : Ag P S0 S_12 := hA.tr (fr_X12_findAlong P n S_8 (hA.cl hc) a0 (Ta0)  S_12 hq13)
      obtain ⟨r16, S_14, hq15, hm⟩ := cb_some hm
      have hA : Ag P S0 S_14 := hA.tr (fr_X12_missOf P n S_12 (hA.cl hc) a0 x1 x2 (Ta0) r16 S_14 hq15)
      cases hm
      exact hA
set_option maxHeartbeats 1000000 in
set_option maxRecDepth 100000 in
theorem fb_X12_getsOf_105 (P : Nat → Prop) (S0 : pq_S) (hc : Clo P S0) (n : Nat) (r : Int32) (S1 : pq_S) (k9 : Nat → Int32 → Int32 → Int32 → Int32 → Int32 → pq_S → Option (Int32 × pq_S)) (hk9 : ∀ (a0 : Nat) (x1 : Int32) (x2 : Int32) (x3 : Int32) (x4 : Int32) (x5 : Int32) (S : pq_S), Ag P S0 S → P a0 → k9 a0 x1 x2 x3 x4 x5 S = some (r, S1) → Ag P S0 S1) : ∀ (a0 : Nat) (x1 : Int32) (x2 : Int32) (x3 : Int32) (x4 : Int32) (x5 : Int32) (S : pq_S), Ag P S0 S → P a0 → b_X12_getsOf_105 n k9 a0 x1 x2 x3 x4 x5 S = some (r, S1) → Ag P S0 S1 := by
  intro a0 x1 x2 x3 x4 x5 S hA Ta0 hm
  rw [b_X12_getsOf_105] at hm
  exact hk9 a0 x1 x2 x3 x4 (x5 + 1) S hA (Ta0) hm
set_option maxHeartbeats 1000000 in
set_option maxRecDepth 100000 in
theorem fb_X12_getsOf_101 (P : Nat → Prop) (S0 : pq_S) (hc : Clo P S0) (n : Nat) (r : Int32) (S1 : pq_S) (k9 : Nat → Int32 → Int32 → Int32 → Int32 → Int32 → pq_S → Option (Int32 × pq_S)) (hk9 : ∀ (a0 : Nat) (x1 : Int32) (x2 : Int32) (x3 : Int32) (x4 : Int32) (x5 : Int32) (S : pq_S), Ag P S0 S → P a0 → k9 a0 x1 x2 x3 x4 x5 S = some (r, S1) → Ag P S0 S1) : ∀ (a0 : Nat) (x1 : Int32) (x2 : Int32) (x3 : Int32) (x5 : Int32) (z0 : Int32) (z1 : Int32) (z2 : Int32) (S : pq_S), Ag P S0 S → P a0 → b_X12_getsOf_101 n k9 a0 x1 x2 x3 x5 z0 z1 z2 S = some (r, S1) → Ag P S0 S1 := by
  intro a0 x1 x2 x3 x5 z0 z1 z2 S hA Ta0 hm
  rw [b_X12_getsOf_101] at hm
  exact fb_X12_getsOf_105 P S0 hc n r S1 _ hk9 a0 x1 x2 x3 (z0 + (z1 * z2)) x5 S hA (Ta0) hm
set_option maxHeartbeats 1000000 in
set_option maxRecDepth 100000 in
theorem fb_X12_getsOf_13 (P : Nat → Prop) (S0 : pq_S) (hc : Clo P S0) (n : Nat) (r : Int32) (S1 : pq_S) : ∀ (f : Nat) (a0 : Nat) (x1 : Int32) (x2 : Int32) (x3 : Int32) (x4 : Int32) (x5 : Int32) (S : pq_S), Ag P S0 S → P a0 → b_X12_getsOf_13 n f a0 x1 x2 x3 x4 x5 S = some (r, S1) → Ag P S0 S1 := by
  intro f
  induction f with
  | zero =>
    intro a0 x1 x2 x3 x4 x5 S hA Ta0 hm
    cases hm
  | succ f ih =>
    intro a0 x1 x2 x3 x4 x5 S hA Ta0 hm
    rw [b_X12_getsOf_13] at hm
    by_cases h2 : (pI S 1225 a0) ≤ x5
    · rw [if_pos h2] at hm
      cases hm
      exact hA
    · rw [if_neg h2] at hm
      obtain ⟨q3, hq3, hm⟩ := bd_some hm
      have Tq3 : P q3 := hA.clo hc Ta0 hq3
      obtain ⟨hi4, hm⟩ := ck_some hm
      by_cases h5 : (pA S q3 (Int32.toNatClampNeg ((18 : Int32) + x5))) = 0
      · rw [if_pos h5] at hm
        exact fb_X12_getsOf_105 P S0 hc n r S1 _ ih a0 x1 x2 x3 x4 x5 S hA (Ta0) hm
      · rw [if_neg h5] at hm
        obtain ⟨q6, hq6, hm⟩ := bd_some hm
        have Tq6 : P q6 := hA.clo hc Ta0 hq6
        obtain ⟨hi7, hm⟩ := ck_some hm
        by_cases h8 : (pA S q6 (Int32.toNatClampNeg ((4 : Int32) * x5))) = x1
        · rw [if_pos h8] at hm
          obtain ⟨q9, hq9, hm⟩ := bd_some hm
          have Tq9 : P q9 := hA.clo hc Ta0 hq9
          obtain ⟨hi10, hm⟩ := ck_some hm
          by_cases h11 : x2 ≤ (pA S q9 (Int32.toNatClampNeg (((4 : Int32) * x5) + (3 : Int32))))
          · rw [if_pos h11] at hm
            by_cases h12 : x2 = x3
            · rw [if_pos h12] at hm
              obtain ⟨q15, hq15, hm⟩ := bd_some hm
              have Tq15 : P q15 := hA.clo hc Ta0 hq15
              obtain ⟨hi16, hm⟩ := ck_some hm
              exact fb_X12_getsOf_101 P S0 hc n r S1 _ ih a0 x1 x2 x3 x5 x4 x2 ((pA S q15 (Int32.toNatClampNeg (((4 : Int32) * x5) + (1 : Int32)))) / 2) S hA (Ta0) hm
            · rw [if_neg h12] at hm
              obtain ⟨q13, hq13, hm⟩ := bd_some hm
              have Tq13 : P q13 := hA.clo hc Ta0 hq13
              obtain ⟨hi14, hm⟩ := ck_some hm
              exact fb_X12_getsOf_101 P S0 hc n r S1 _ ih a0 x1 x2 x3 x5 x4 x2 (pA S q13 (Int32.toNatClampNeg (((4 : Int32) * x5) + (1 : Int32)))) S hA (Ta0) hm
          · rw [if_neg h11] at hm
            exact fb_X12_getsOf_105 P S0 hc n r S1 _ ih a0 x1 x2 x3 x4 x5 S hA (Ta0) hm
        · rw [if_neg h8] at hm
          exact fb_X12_getsOf_105 P S0 hc n r S1 _ ih a0 x1 x2 x3 x4 x5 S hA (Ta0) hm
set_option maxHeartbeats 1000000 in
set_option maxRecDepth 100000 in
theorem fr_X12_getsOf (P : Nat → Prop) (n : Nat) (S0 : pq_S) (hc : Clo P S0) (a0 : Nat) (x1 : Int32) (x2 : Int32) (x3 : Int32) (Ta0 : P a0) (r : Int32) (S1 : pq_S) (hm : m_X12_getsOf n a0 x1 x2 x3 S0 = some (r, S1)) : Ag P S0 S1 := by
  have hA : Ag P S0 S0 := Ag.rf _ _
  rw [m_X12_getsOf] at hm
  by_cases h1 : x2 ≤ x3
  · rw [if_pos h1] at hm
    exact fb_X12_getsOf_13 P S0 hc n r S1 n a0 x1 x2 x3 0 0 S0 hA (Ta0) hm
  · rw [if_neg h1] at hm
    cases hm
    exact hA
set_option maxHeartbeats 1000000 in
set_option maxRecDepth 100000 in
theorem fb_X12_isBest_3 (P : Nat → Prop) (S0 : pq_S) (hc : Clo P S0) (n : Nat) (r : Int32) (S1 : pq_S) : ∀ (f : Nat) (a0 : Nat) (x1 : Int32) (x2 : Int32) (x3 : Int32) (x4 : Int32) (x5 : Int32) (S : pq_S), Ag P S0 S → P a0 → b_X12_isBest_3 n f a0 x1 x2 x3 x4 x5 S = some (r, S1) → Ag P S0 S1 := by
  intro f
  induction f with
  | zero =>
    intro a0 x1 x2 x3 x4 x5 S hA Ta0 hm
    cases hm
  | succ f ih =>
    intro a0 x1 x2 x3 x4 x5 S hA Ta0 hm
    rw [b_X12_isBest_3] at hm
    by_cases h1 : x4 < x5
    · rw [if_pos h1] at hm
      cases hm
      exact hA
    · rw [if_neg h1] at hm
      obtain ⟨r4, S_2, hq3, hm⟩ := cb_some hm
      have hA : Ag P S0 S_2 := hA.tr (fr_X12_getsOf P n S (hA.cl hc) a0 x1 x5 x3 (Ta0) r4 S_2 hq3)
      obtain ⟨r7, S_5, hq6, hm⟩ := cb_some hm
      have hA : Ag P S0 S_5 := hA.tr (fr_X12_getsOf P n S_2 (hA.cl hc) a0 x1 x2 x3 (Ta0) r7 S_5 hq6)
      by_cases h8 : r4 ≤ r7
      · rw [if_pos h8] at hm
        exact ih a0 x1 x2 x3 x4 (x5 + 1) S_5 hA (Ta0) hm
      · rw [if_neg h8] at hm
        cases hm
        exact hA
set_option maxHeartbeats 1000000 in
set_option maxRecDepth 100000 in
theorem fr_X12_isBest (P : Nat → Prop) (n : Nat) (S0 : pq_S) (hc : Clo P S0) (a0 : Nat) (x1 : Int32) (x2 : Int32) (x3 : Int32) (x4 : Int32) (Ta0 : P a0) (r : Int32) (S1 : pq_S) (hm : m_X12_isBest n a0 x1 x2 x3 x4 S0 = some (r, S1)) : Ag P S0 S1 := by
  have hA : Ag P S0 S0 := Ag.rf _ _
  rw [m_X12_isBest] at hm
  exact fb_X12_isBest_3 P S0 hc n r S1 n a0 x1 x2 x3 x4 0 S0 hA (Ta0) hm
set_option maxHeartbeats 1000000 in
set_option maxRecDepth 100000 in
theorem fb_X12_sellers_136 (P : Nat → Prop) (S0 : pq_S) (hc : Clo P S0) (n : Nat) (r : Int32) (S1 : pq_S) (k36 : Nat → Int32 → Int32 → Int32 → Int32 → Int32 → Int32 → pq_S → Option (Int32 × pq_S)) (hk36 : ∀ (a0 : Nat) (x1 : Int32) (x2 : Int32) (x3 : Int32) (x4 : Int32) (x5 : Int32) (x6 : Int32) (S : pq_S), Ag P S0 S → P a0 → k36 a0 x1 x2 x3 x4 x5 x6 S = some (r, S1) → Ag P S0 S1) : ∀ (a0 : Nat) (x1 : Int32) (x2 : Int32) (x3 : Int32) (x4 : Int32) (x5 : Int32) (x6 : Int32) (S : pq_S), Ag P S0 S → P a0 → b_X12_sellers_136 n k36 a0 x1 x2 x3 x4 x5 x6 S = some (r, S1) → Ag P S0 S1 := by
  intro a0 x1 x2 x3 x4 x5 x6 S hA Ta0 hm
  rw [b_X12_sellers_136] at hm
  exact hk36 a0 x1 x2 x3 x4 x5 (x6 + 1) S hA (Ta0) hm
set_option maxHeartbeats 1000000 in
set_option maxRecDepth 100000 in
theorem fb_X12_sellers_130 (P : Nat → Prop) (S0 : pq_S) (hc : Clo P S0) (n : Nat) (r : Int32) (S1 : pq_S) (k36 : Nat → Int32 → Int32 → Int32 → Int32 → Int32 → Int32 → pq_S → Option (Int32 × pq_S)) (hk36 : ∀ (a0 : Nat) (x1 : Int32) (x2 : Int32) (x3 : Int32) (x4 : Int32) (x5 : Int32) (x6 : Int32) (S : pq_S), Ag P S0 S → P a0 → k36 a0 x1 x2 x3 x4 x5 x6 S = some (r, S1) → Ag P S0 S1) (k41 : Nat → Int32 → Int32 → Int32 → Int32 → Int32 → Int32 → Int32 → pq_S → Option (Int32 × pq_S)) (hk41 : ∀ (a0 : Nat) (x1 : Int32) (x2 : Int32) (x3 : Int32) (x4 : Int32) (x5 : Int32) (x6 : Int32) (x7 : Int32) (S : pq_S), Ag P S0 S → P a0 → k41 a0 x1 x2 x3 x4 x5 x6 x7 S = some (r, S1) → Ag P S0 S1) : ∀ (a0 : Nat) (x1 : Int32) (x2 : Int32) (x3 : Int32) (x4 : Int32) (x5 : Int32) (x6 : Int32) (x7 : Int32) (S : pq_S), Ag P S0 S → P a0 → b_X12_sellers_130 n k36 k41 a0 x1 x2 x3 x4 x5 x6 x7 S = some (r, S1) → Ag P S0 S1 := by
  intro a0 x1 x2 x3 x4 x5 x6 x7 S hA Ta0 hm
  rw [b_X12_sellers_130] at hm
  exact hk41 a0 x1 x2 x3 x4 x5 x6 (x7 + 1) S hA (Ta0) hm
set_option maxHeartbeats 1000000 in
set_option maxRecDepth 100000 in
theorem fb_X12_sellers_128 (P : Nat → Prop) (S0 : pq_S) (hc : Clo P S0) (n : Nat) (r : Int32) (S1 : pq_S) (k36 : Nat → Int32 → Int32 → Int32 → Int32 → Int32 → Int32 → pq_S → Option (Int32 × pq_S)) (hk36 : ∀ (a0 : Nat) (x1 : Int32) (x2 : Int32) (x3 : Int32) (x4 : Int32) (x5 : Int32) (x6 : Int32) (S : pq_S), Ag P S0 S → P a0 → k36 a0 x1 x2 x3 x4 x5 x6 S = some (r, S1) → Ag P S0 S1) (k41 : Nat → Int32 → Int32 → Int32 → Int32 → Int32 → Int32 → Int32 → pq_S → Option (Int32 × pq_S)) (hk41 : ∀ (a0 : Nat) (x1 : Int32) (x2 : Int32) (x3 : Int32) (x4 : Int32) (x5 : Int32) (x6 : Int32) (x7 : Int32) (S : pq_S), Ag P S0 S → P a0 → k41 a0 x1 x2 x3 x4 x5 x6 x7 S = some (r, S1) → Ag P S0 S1) : ∀ (a0 : Nat) (x1 : Int32) (x2 : Int32) (x3 : Int32) (x4 : Int32) (x6 : Int32) (x7 : Int32) (z0 : Int32) (S : pq_S), Ag P S0 S → P a0 → b_X12_sellers_128 n k36 k41 a0 x1 x2 x3 x4 x6 x7 z0 S = some (r, S1) → Ag P S0 S1 := by
  intro a0 x1 x2 x3 x4 x6 x7 z0 S hA Ta0 hm
  rw [b_X12_sellers_128] at hm
  exact fb_X12_sellers_130 P S0 hc n r S1 _ hk36 _ hk41 a0 x1 x2 x3 x4 z0 x6 x7 S hA (Ta0) hm
set_option maxHeartbeats 1000000 in
set_option maxRecDepth 100000 in
theorem fb_X12_sellers_71 (P : Nat → Prop) (S0 : pq_S) (hc : Clo P S0) (n : Nat) (r : Int32) (S1 : pq_S) (k36 : Nat → Int32 → Int32 → Int32 → Int32 → Int32 → Int32 → pq_S → Option (Int32 × pq_S)) (hk36 : ∀ (a0 : Nat) (x1 : Int32) (x2 : Int32) (x3 : Int32) (x4 : Int32) (x5 : Int32) (x6 : Int32) (S : pq_S), Ag P S0 S → P a0 → k36 a0 x1 x2 x3 x4 x5 x6 S = some (r, S1) → Ag P S0 S1) : ∀ (f : Nat) (a0 : Nat) (x1 : Int32) (x2 : Int32) (x3 : Int32) (x4 : Int32) (x5 : Int32) (x6 : Int32) (x7 : Int32) (S : pq_S), Ag P S0 S → P a0 → b_X12_sellers_71 n k36 f a0 x1 x2 x3 x4 x5 x6 x7 S = some (r, S1) → Ag P S0 S1 := by
  intro f
  induction f with
  | zero =>
    intro a0 x1 x2 x3 x4 x5 x6 x7 S hA Ta0 hm
    cases hm
  | succ f ih =>
    intro a0 x1 x2 x3 x4 x5 x6 x7 S hA Ta0 hm
    rw [b_X12_sellers_71] at hm
    by_cases h20 : x2 < x7
    · rw [if_pos h20] at hm
      exact fb_X12_sellers_136 P S0 hc n r S1 _ hk36 a0 x1 x2 x3 x4 x5 x6 S hA (Ta0) hm
    · rw [if_neg h20] at hm
      obtain ⟨r23, S_21, hq22, hm⟩ := cb_some hm
      have hA : Ag P S0 S_21 := hA.tr (fr_X12_isBest P n S (hA.cl hc) a0 x1 x6 x7 x2 (Ta0) r23 S_21 hq22)
      by_cases h24 : r23 = 0
      · rw [if_pos h24] at hm
        exact fb_X12_sellers_130 P S0 hc n r S1 _ hk36 _ ih a0 x1 x2 x3 x4 x5 x6 x7 S_21 hA (Ta0) hm
      · rw [if_neg h24] at hm
        obtain ⟨r27, S_25, hq26, hm⟩ := cb_some hm
        have hA : Ag P S0 S_25 := hA.tr (fr_X12_isBest P n S_21 (hA.cl hc) a0 x1 x7 x6 x2 (Ta0) r27 S_25 hq26)
        by_cases h28 : r27 = 0
        · rw [if_pos h28] at hm
          exact fb_X12_sellers_130 P S0 hc n r S1 _ hk36 _ ih a0 x1 x2 x3 x4 x5 x6 x7 S_25 hA (Ta0) hm
        · rw [if_neg h28] at hm
          by_cases h29 : x5 = (-1)
          · rw [if_pos h29] at hm
            exact fb_X12_sellers_128 P S0 hc n r S1 _ hk36 _ ih a0 x1 x2 x3 (x4 + 1) x6 x7 (((100 : Int32) * x6) + x7) S_25 hA (Ta0) hm
          · rw [if_neg h29] at hm
            exact fb_X12_sellers_128 P S0 hc n r S1 _ hk36 _ ih a0 x1 x2 x3 (x4 + 1) x6 x7 x5 S_25 hA (Ta0) hm
set_option maxHeartbeats 1000000 in
set_option maxRecDepth 100000 in
theorem fb_X12_sellers_142 (P : Nat → Prop) (S0 : pq_S) (hc : Clo P S0) (n : Nat) (r : Int32) (S1 : pq_S) : ∀ (a0 : Nat) (x1 : Int32) (x3 : Int32) (x4 : Int32) (x5 : Int32) (S : pq_S), Ag P S0 S → P a0 → b_X12_sellers_142 n a0 x1 x3 x4 x5 S = some (r, S1) → Ag P S0 S1 := by
  intro a0 x1 x3 x4 x5 S hA Ta0 hm
  rw [b_X12_sellers_142] at hm
  by_cases h30 : x3 = 0
  · rw [if_pos h30] at hm
    cases hm
    exact hA
  · rw [if_neg h30] at hm
    by_cases h31 : x3 = 1
    · rw [if_pos h31] at hm
      cases hm
      exact hA
    · rw [if_neg h31] at hm
      by_cases h32 : x5 = (-1)
      · rw [if_pos h32] at hm
        cases hm
        exact hA
      · rw [if_neg h32] at hm
        obtain ⟨r35, S_33, hq34, hm⟩ := cb_some hm
        have hA : Ag P S0 S_33 := hA.tr (fr_X12_getsOf P n S (hA.cl hc) a0 x1 (x5 / 100) (x5 - x5 / 100 * 100) (Ta0) r35 S_33 hq34)
        cases hm
        exact hA
set_option maxHeartbeats 1000000 in
set_option maxRecDepth 100000 in
theorem fb_X12_sellers_62 (P : Nat → Prop) (S0 : pq_S) (hc : Clo P S0) (n : Nat) (r : Int32) (S1 : pq_S) : ∀ (f : Nat) (a0 : Nat) (x1 : Int32) (x2 : Int32) (x3 : Int32) (x4 : Int32) (x5 : Int32) (x6 : Int32) (S : pq_S), Ag P S0 S → P a0 → b_X12_sellers_62 n f a0 x1 x2 x3 x4 x5 x6 S = some (r, S1) → Ag P S0 S1 := by
  intro f
  induction f with
  | zero =>
    intro a0 x1 x2 x3 x4 x5 x6 S hA Ta0 hm
    cases hm
  | succ f ih =>
    intro a0 x1 x2 x3 x4 x5 x6 S hA Ta0 hm
    rw [b_X12_sellers_62] at hm
    by_cases h19 : x2 < x6
    · rw [if_pos h19] at hm
      exact fb_X12_sellers_142 P S0 hc n r S1 a0 x1 x3 x4 x5 S hA (Ta0) hm
    · rw [if_neg h19] at hm
      exact fb_X12_sellers_71 P S0 hc n r S1 _ ih n a0 x1 x2 x3 x4 x5 x6 0 S hA (Ta0) hm
set_option maxHeartbeats 1000000 in
set_option maxRecDepth 100000 in
theorem fb_X12_sellers_39 (P : Nat → Prop) (S0 : pq_S) (hc : Clo P S0) (n : Nat) (r : Int32) (S1 : pq_S) : ∀ (a0 : Nat) (x1 : Int32) (x2 : Int32) (x3 : Int32) (b0 : Nat) (z1 : Int32) (S : pq_S), Ag P S0 S → P a0 → P b0 → b_X12_sellers_39 n a0 x1 x2 x3 b0 z1 S = some (r, S1) → Ag P S0 S1 := by
  intro a0 x1 x2 x3 b0 z1 S hA Ta0 Tb0 hm
  rw [b_X12_sellers_39] at hm
  obtain ⟨r15, S_13, hq14, hm⟩ := cb_some hm
  have hA : Ag P S0 S_13 := hA.tr (fr_X12_may P n S (hA.cl hc) b0 z1 2 1 (Tb0) r15 S_13 hq14)
  by_cases h16 : r15 = 0
  · rw [if_pos h16] at hm
    cases hm
    exact hA
  · rw [if_neg h16] at hm
    obtain ⟨S_17, hq18, hm⟩ := bd_some hm
    have hA : Ag P S0 S_17 := hA.tr (fr_X12_take P n S_13 (hA.cl hc) a0 (Ta0)  S_17 hq18)
    exact fb_X12_sellers_62 P S0 hc n r S1 n a0 x1 x2 x3 0 (-1) 0 S_17 hA (Ta0) hm
set_option maxHeartbeats 1000000 in
set_option maxRecDepth 100000 in
theorem fb_X12_sellers_38 (P : Nat → Prop) (S0 : pq_S) (hc : Clo P S0) (n : Nat) (r : Int32) (S1 : pq_S) : ∀ (a0 : Nat) (x1 : Int32) (x2 : Int32) (x3 : Int32) (b0 : Nat) (S : pq_S), Ag P S0 S → P a0 → P b0 → b_X12_sellers_38 n a0 x1 x2 x3 b0 S = some (r, S1) → Ag P S0 S1 := by
  intro a0 x1 x2 x3 b0 S hA Ta0 Tb0 hm
  rw [b_X12_sellers_38] at hm
  exact fb_X12_sellers_39 P S0 hc n r S1 a0 x1 x2 x3 b0 0 S hA (Ta0) (Tb0) hm
set_option maxHeartbeats 1000000 in
set_option maxRecDepth 100000 in
theorem fr_X12_sellers (P : Nat → Prop) (n : Nat) (S0 : pq_S) (hc : Clo P S0) (a0 : Nat) (x1 : Int32) (x2 : Int32) (x3 : Int32) (Ta0 : P a0) (r : Int32) (S1 : pq_S) (hm : m_X12_sellers n a0 x1 x2 x3 S0 = some (r, S1)) : Ag P S0 S1 := by
  have hA : Ag P S0 S0 := Ag.rf _ _
  rw [m_X12_sellers] at hm
  have hA : Ag P S0 (sI S0 1200 a0 0) := hA.sI Ta0
  obtain ⟨r3, S_1, hq2, hm⟩ := cb_some hm
  have hA : Ag P S0 S_1 := hA.tr (fr_X12_isPlace P n (sI S0 1200 a0 0) (hA.cl hc) a0 x1 1 (Ta0) r3 S_1 hq2)
  by_cases h4 : r3 = 0
  · rw [if_pos h4] at hm
    cases hm
    exact hA
  · rw [if_neg h4] at hm
    obtain ⟨r7, S_5, hq6, hm⟩ := cb_some hm
    have hA : Ag P S0 S_5 := hA.tr (fr_X12_within P n S_1 (hA.cl hc) x2 0 20  r7 S_5 hq6)
    by_cases h8 : r7 = 0
    · rw [if_pos h8] at hm
      exact fb_X12_sellers_38 P S0 hc n r S1 a0 x1 x2 x3 a0 S_5 hA (Ta0) (Ta0) hm
    · rw [if_neg h8] at hm
      obtain ⟨r11, S_9, hq10, hm⟩ := cb_some hm
      have hA : Ag P S0 S_9 := hA.tr (fr_X12_within P n S_5 (hA.cl hc) x3 0 2  r11 S_9 hq10)
      by_cases h12 : r11 = 0
      · rw [if_pos h12] at hm
        exact fb_X12_sellers_38 P S0 hc n r S1 a0 x1 x2 x3 a0 S_9 hA (Ta0) (Ta0) hm
      · rw [if_neg h12] at hm
        exact fb_X12_sellers_39 P S0 hc n r S1 a0 x1 x2 x3 a0 1 S_9 hA (Ta0) (Ta0) hm
set_option maxHeartbeats 1000000 in
set_option maxRecDepth 100000 in
theorem fb_X12_gets_40 (P : Nat → Prop) (S0 : pq_S) (hc : Clo P S0) (n : Nat) (r : Int32) (S1 : pq_S) : ∀ (a0 : Nat) (x1 : Int32) (x2 : Int32) (x3 : Int32) (b0 : Nat) (z1 : Int32) (S : pq_S), Ag P S0 S → P a0 → P b0 → b_X12_gets_40 n a0 x1 x2 x3 b0 z1 S = some (r, S1) → Ag P S0 S1 := by
  intro a0 x1 x2 x3 b0 z1 S hA Ta0 Tb0 hm
  rw [b_X12_gets_40] at hm
  obtain ⟨r15, S_13, hq14, hm⟩ := cb_some hm
  have hA : Ag P S0 S_13 := hA.tr (fr_X12_may P n S (hA.cl hc) b0 z1 2 1 (Tb0) r15 S_13 hq14)
  by_cases h16 : r15 = 0
  · rw [if_pos h16] at hm
    cases hm
    exact hA
  · rw [if_neg h16] at hm
    obtain ⟨S_17, hq18, hm⟩ := bd_some hm
    have hA : Ag P S0 S_17 := hA.tr (fr_X12_take P n S_13 (hA.cl hc) a0 (Ta0)  S_17 hq18)
    obtain ⟨r21, S_19, hq20, hm⟩ := cb_some hm
    have hA : Ag P S0 S_19 := hA.tr (fr_X12_getsOf P n S_17 (hA.cl hc) a0 x1 x2 x3 (Ta0) r21 S_19 hq20)
    cases hm
    exact hA
set_option maxHeartbeats 1000000 in
set_option maxRecDepth 100000 in
theorem fb_X12_gets_39 (P : Nat → Prop) (S0 : pq_S) (hc : Clo P S0) (n : Nat) (r : Int32) (S1 : pq_S) : ∀ (a0 : Nat) (x1 : Int32) (x2 : Int32) (x3 : Int32) (b0 : Nat) (S : pq_S), Ag P S0 S → P a0 → P b0 → b_X12_gets_39 n a0 x1 x2 x3 b0 S = some (r, S1) → Ag P S0 S1 := by
  intro a0 x1 x2 x3 b0 S hA Ta0 Tb0 hm
  rw [b_X12_gets_39] at hm
  exact fb_X12_gets_40 P S0 hc n r S1 a0 x1 x2 x3 b0 0 S hA (Ta0) (Tb0) hm
set_option maxHeartbeats 1000000 in
set_option maxRecDepth 100000 in
theorem fr_X12_gets (P : Nat → Prop) (n : Nat) (S0 : pq_S) (hc : Clo P S0) (a0 : Nat) (x1 : Int32) (x2 : Int32) (x3 : Int32) (Ta0 : P a0) (r : Int32) (S1 : pq_S) (hm : m_X12_gets n a0 x1 x2 x3 S0 = some (r, S1)) : Ag P S0 S1 := by
  have hA : Ag P S0 S0 := Ag.rf _ _
  rw [m_X12_gets] at hm
  have hA : Ag P S0 (sI S0 1200 a0 0) := hA.sI Ta0
  obtain ⟨r3, S_1, hq2, hm⟩ := cb_some hm
  have hA : Ag P S0 S_1 := hA.tr (fr_X12_isPlace P n (sI S0 1200 a0 0) (hA.cl hc) a0 x1 1 (Ta0) r3 S_1 hq2)
  by_cases h4 : r3 = 0
  · rw [if_pos h4] at hm
    cases hm
    exact hA
  · rw [if_neg h4] at hm
    obtain ⟨r7, S_5, hq6, hm⟩ := cb_some hm
    have hA : Ag P S0 S_5 := hA.tr (fr_X12_within P n S_1 (hA.cl hc) x2 0 99  r7 S_5 hq6)
    by_cases h8 : r7 = 0
    · rw [if_pos h8] at hm
      exact fb_X12_gets_39 P S0 hc n r S1 a0 x1 x2 x3 a0 S_5 hA (Ta0) (Ta0) hm
    · rw [if_neg h8] at hm
      obtain ⟨r11, S_9, hq10, hm⟩ := cb_some hm
      have hA : Ag P S0 S_9 := hA.tr (fr_X12_within P n S_5 (hA.cl hc) x3 0 99  r11 S_9 hq10)
      by_cases h12 : r11 = 0
      · rw [if_pos h12] at hm
        exact fb_X12_gets_39 P S0 hc n r S1 a0 x1 x2 x3 a0 S_9 hA (Ta0) (Ta0) hm
      · rw [if_neg h12] at hm
        exact fb_X12_gets_40 P S0 hc n r S1 a0 x1 x2 x3 a0 1 S_9 hA (Ta0) (Ta0) hm
set_option maxHeartbeats 1000000 in
set_option maxRecDepth 100000 in
theorem fb_X12_moonsOn_43 (P : Nat → Prop) (S0 : pq_S) (hc : Clo P S0) (n : Nat) (r : Int32) (S1 : pq_S) (k4 : Nat → Int32 → Int32 → Int32 → pq_S → Option (Int32 × pq_S)) (hk4 : ∀ (a0 : Nat) (x1 : Int32) (x2 : Int32) (x3 : Int32) (S : pq_S), Ag P S0 S → P a0 → k4 a0 x1 x2 x3 S = some (r, S1) → Ag P S0 S1) : ∀ (a0 : Nat) (x1 : Int32) (x3 : Int32) (z0 : Int32) (z1 : Int32) (S : pq_S), Ag P S0 S → P a0 → b_X12_moonsOn_43 n k4 a0 x1 x3 z0 z1 S = some (r, S1) → Ag P S0 S1 := by
  intro a0 x1 x3 z0 z1 S hA Ta0 hm
  rw [b_X12_moonsOn_43] at hm
  exact hk4 a0 x1 (z0 ||| z1) (x3 + 1) S hA (Ta0) hm
set_option maxHeartbeats 1000000 in
set_option maxRecDepth 100000 in
theorem fb_X12_moonsOn_4 (P : Nat → Prop) (S0 : pq_S) (hc : Clo P S0) (n : Nat) (r : Int32) (S1 : pq_S) : ∀ (f : Nat) (a0 : Nat) (x1 : Int32) (x2 : Int32) (x3 : Int32) (S : pq_S), Ag P S0 S → P a0 → b_X12_moonsOn_4 n f a0 x1 x2 x3 S = some (r, S1) → Ag P S0 S1 := by
  intro f
  induction f with
  | zero =>
    intro a0 x1 x2 x3 S hA Ta0 hm
    cases hm
  | succ f ih =>
    intro a0 x1 x2 x3 S hA Ta0 hm
    rw [b_X12_moonsOn_4] at hm
    by_cases h1 : (pI S 1227 a0) ≤ x3
    · rw [if_pos h1] at hm
      cases hm
      exact hA
    · rw [if_neg h1] at hm
      obtain ⟨q2, hq2, hm⟩ := bd_some hm
      have Tq2 : P q2 := hA.clo hc Ta0 hq2
      obtain ⟨hi3, hm⟩ := ck_some hm
      obtain ⟨hn4, hm⟩ := ck_some hm
      obtain ⟨q5, hq5, hm⟩ := bd_some hm
      have Tq5 : P q5 := hA.clo hc Ta0 hq5
      obtain ⟨hi6, hm⟩ := ck_some hm
      by_cases h7 : (x1 - x1 / (pA S q2 (Int32.toNatClampNeg ((2 : Int32) * x3))) * (pA S q2 (Int32.toNatClampNeg ((2 : Int32) * x3)))) = (pA S q5 (Int32.toNatClampNeg (((2 : Int32) * x3) + (1 : Int32))))
      · rw [if_pos h7] at hm
        exact fb_X12_moonsOn_43 P S0 hc n r S1 _ ih a0 x1 x3 x2 ((1 : Int32) <<< (x3 &&& (31 : Int32))) S hA (Ta0) hm
      · rw [if_neg h7] at hm
        exact fb_X12_moonsOn_43 P S0 hc n r S1 _ ih a0 x1 x3 x2 0 S hA (Ta0) hm
set_option maxHeartbeats 1000000 in
set_option maxRecDepth 100000 in
theorem fr_X12_moonsOn (P : Nat → Prop) (n : Nat) (S0 : pq_S) (hc : Clo P S0) (a0 : Nat) (x1 : Int32) (Ta0 : P a0) (r : Int32) (S1 : pq_S) (hm : m_X12_moonsOn n a0 x1 S0 = some (r, S1)) : Ag P S0 S1 := by
  have hA : Ag P S0 S0 := Ag.rf _ _
  rw [m_X12_moonsOn] at hm
  exact fb_X12_moonsOn_4 P S0 hc n r S1 n a0 x1 0 0 S0 hA (Ta0) hm
set_option maxHeartbeats 1000000 in
set_option maxRecDepth 100000 in
theorem fr_X12_isDay (P : Nat → Prop) (n : Nat) (S0 : pq_S) (hc : Clo P S0) (x0 : Int32)  (r : Int32) (S1 : pq_S) (hm : m_X12_isDay n x0 S0 = some (r, S1)) : Ag P S0 S1 := by
  have hA : Ag P S0 S0 := Ag.rf _ _
  rw [m_X12_isDay] at hm
  by_cases h1 : x0 < 0
  · rw [if_pos h1] at hm
    cases hm
    exact hA
  · rw [if_neg h1] at hm
    by_cases h2 : 9999 < x0
    · rw [if_pos h2] at hm
      cases hm
      exact hA
    · rw [if_neg h2] at hm
      cases hm
      exact hA
set_option maxHeartbeats 1000000 in
set_option maxRecDepth 100000 in
theorem fr_X12_moons (P : Nat → Prop) (n : Nat) (S0 : pq_S) (hc : Clo P S0) (a0 : Nat) (x1 : Int32) (Ta0 : P a0) (r : Int32) (S1 : pq_S) (hm : m_X12_moons n a0 x1 S0 = some (r, S1)) : Ag P S0 S1 := by
  have hA : Ag P S0 S0 := Ag.rf _ _
  rw [m_X12_moons] at hm
  have hA : Ag P S0 (sI S0 1200 a0 0) := hA.sI Ta0
  obtain ⟨r3, S_1, hq2, hm⟩ := cb_some hm
  have hA : Ag P S0 S_1 := hA.tr (fr_X12_isDay P n (sI S0 1200 a0 0) (hA.cl hc) x1  r3 S_1 hq2)
  obtain ⟨r6, S_4, hq5, hm⟩ := cb_some hm
  have hA : Ag P S0 S_4 := hA.tr (fr_X12_may P n S_1 (hA.cl hc) a0 r3 1 1 (Ta0) r6 S_4 hq5)
  by_cases h7 : r6 = 0
  · rw [if_pos h7] at hm
    cases hm
    exact hA
  · rw [if_neg h7] at hm
    obtain ⟨r10, S_8, hq9, hm⟩ := cb_some hm
    have hA : Ag P S0 S_8 := hA.tr (fr_X12_moonsOn P n S_4 (hA.cl hc) a0 x1 (Ta0) r10 S_8 hq9)
    cases hm
    exact hA
set_option maxHeartbeats 1000000 in
set_option maxRecDepth 100000 in
theorem fb_X12_firstWith_2 (P : Nat → Prop) (S0 : pq_S) (hc : Clo P S0) (n : Nat) (r : Int32) (S1 : pq_S) : ∀ (f : Nat) (a0 : Nat) (x2 : Int32) (x3 : Int32) (S : pq_S), Ag P S0 S → P a0 → b_X12_firstWith_2 n f a0 x2 x3 S = some (r, S1) → Ag P S0 S1 := by
  intro f
  induction f with
  | zero =>
    intro a0 x2 x3 S hA Ta0 hm
    cases hm
  | succ f ih =>
    intro a0 x2 x3 S hA Ta0 hm
    rw [b_X12_firstWith_2] at hm
    by_cases h1 : 9999 < x3
    · rw [if_pos h1] at hm
      cases hm
      exact hA
    · rw [if_neg h1] at hm
      obtain ⟨r4, S_2, hq3, hm⟩ := cb_some hm
      have hA : Ag P S0 S_2 := hA.tr (fr_X12_moonsOn P n S (hA.cl hc) a0 x3 (Ta0) r4 S_2 hq3)
      by_cases h5 : r4 = x2
      · rw [if_pos h5] at hm
        cases hm
        exact hA
      · rw [if_neg h5] at hm
        exact ih a0 x2 (x3 + 1) S_2 hA (Ta0) hm
set_option maxHeartbeats 1000000 in
set_option maxRecDepth 100000 in
theorem fr_X12_firstWith (P : Nat → Prop) (n : Nat) (S0 : pq_S) (hc : Clo P S0) (a0 : Nat) (x1 : Int32) (x2 : Int32) (Ta0 : P a0) (r : Int32) (S1 : pq_S) (hm : m_X12_firstWith n a0 x1 x2 S0 = some (r, S1)) : Ag P S0 S1 := by
  have hA : Ag P S0 S0 := Ag.rf _ _
  rw [m_X12_firstWith] at hm
  exact fb_X12_firstWith_2 P S0 hc n r S1 n a0 x2 x1 S0 hA (Ta0) hm
set_option maxHeartbeats 1000000 in
set_option maxRecDepth 100000 in
theorem fr_X12_dark (P : Nat → Prop) (n : Nat) (S0 : pq_S) (hc : Clo P S0) (a0 : Nat) (x1 : Int32) (Ta0 : P a0) (r : Int32) (S1 : pq_S) (hm : m_X12_dark n a0 x1 S0 = some (r, S1)) : Ag P S0 S1 := by
  have hA : Ag P S0 S0 := Ag.rf _ _
  rw [m_X12_dark] at hm
  have hA : Ag P S0 (sI S0 1200 a0 0) := hA.sI Ta0
  obtain ⟨r3, S_1, hq2, hm⟩ := cb_some hm
  have hA : Ag P S0 S_1 := hA.tr (fr_X12_isDay P n (sI S0 1200 a0 0) (hA.cl hc) x1  r3 S_1 hq2)
  obtain ⟨r6, S_4, hq5, hm⟩ := cb_some hm
  have hA : Ag P S0 S_4 := hA.tr (fr_X12_may P n S_1 (hA.cl hc) a0 r3 1 1 (Ta0) r6 S_4 hq5)
  by_cases h7 : r6 = 0
  · rw [if_pos h7] at hm
    cases hm
    exact hA
  · rw [if_neg h7] at hm
    obtain ⟨r10, S_8, hq9, hm⟩ := cb_some hm
    have hA : Ag P S0 S_8 := hA.tr (fr_X12_firstWith P n S_4 (hA.cl hc) a0 x1 0 (Ta0) r10 S_8 hq9)
    cases hm
    exact hA
set_option maxHeartbeats 1000000 in
set_option maxRecDepth 100000 in
theorem fr_X12_bright (P : Nat → Prop) (n : Nat) (S0 : pq_S) (hc : Clo P S0) (a0 : Nat) (x1 : Int32) (Ta0 : P a0) (r : Int32) (S1 : pq_S) (hm : m_X12_bright n a0 x1 S0 = some (r, S1)) : Ag P S0 S1 := by
  have hA : Ag P S0 S0 := Ag.rf _ _
  rw [m_X12_bright] at hm
  have hA : Ag P S0 (sI S0 1200 a0 0) := hA.sI Ta0
  obtain ⟨r3, S_1, hq2, hm⟩ := cb_some hm
  have hA : Ag P S0 S_1 := hA.tr (fr_X12_isDay P n (sI S0 1200 a0 0) (hA.cl hc) x1  r3 S_1 hq2)
  obtain ⟨r6, S_4, hq5, hm⟩ := cb_some hm
  have hA : Ag P S0 S_4 := hA.tr (fr_X12_may P n S_1 (hA.cl hc) a0 r3 1 1 (Ta0) r6 S_4 hq5)
  by_cases h7 : r6 = 0
  · rw [if_pos h7] at hm
    cases hm
    exact hA
  · rw [if_neg h7] at hm
    obtain ⟨r10, S_8, hq9, hm⟩ := cb_some hm
    have hA : Ag P S0 S_8 := hA.tr (fr_X12_firstWith P n S_4 (hA.cl hc) a0 x1 (((1 : Int32) <<< ((pI S_4 1227 a0) &&& (31 : Int32))) - (1 : Int32)) (Ta0) r10 S_8 hq9)
    cases hm
    exact hA
set_option maxHeartbeats 1000000 in
set_option maxRecDepth 100000 in
theorem fb_X12_darks_66 (P : Nat → Prop) (S0 : pq_S) (hc : Clo P S0) (n : Nat) (r : Int32) (S1 : pq_S) (k26 : Nat → Int32 → Int32 → Int32 → pq_S → Option (Int32 × pq_S)) (hk26 : ∀ (a0 : Nat) (x2 : Int32) (x3 : Int32) (x4 : Int32) (S : pq_S), Ag P S0 S → P a0 → k26 a0 x2 x3 x4 S = some (r, S1) → Ag P S0 S1) : ∀ (a0 : Nat) (x2 : Int32) (x4 : Int32) (z0 : Int32) (z1 : Int32) (S : pq_S), Ag P S0 S → P a0 → b_X12_darks_66 n k26 a0 x2 x4 z0 z1 S = some (r, S1) → Ag P S0 S1 := by
  intro a0 x2 x4 z0 z1 S hA Ta0 hm
  rw [b_X12_darks_66] at hm
  exact hk26 a0 x2 (z0 + z1) (x4 + 1) S hA (Ta0) hm
set_option maxHeartbeats 1000000 in
set_option maxRecDepth 100000 in
theorem fb_X12_darks_45 (P : Nat → Prop) (S0 : pq_S) (hc : Clo P S0) (n : Nat) (r : Int32) (S1 : pq_S) : ∀ (f : Nat) (a0 : Nat) (x2 : Int32) (x3 : Int32) (x4 : Int32) (S : pq_S), Ag P S0 S → P a0 → b_X12_darks_45 n f a0 x2 x3 x4 S = some (r, S1) → Ag P S0 S1 := by
  intro f
  induction f with
  | zero =>
    intro a0 x2 x3 x4 S hA Ta0 hm
    cases hm
  | succ f ih =>
    intro a0 x2 x3 x4 S hA Ta0 hm
    rw [b_X12_darks_45] at hm
    by_cases h14 : x2 < x4
    · rw [if_pos h14] at hm
      cases hm
      exact hA
    · rw [if_neg h14] at hm
      obtain ⟨r17, S_15, hq16, hm⟩ := cb_some hm
      have hA : Ag P S0 S_15 := hA.tr (fr_X12_moonsOn P n S (hA.cl hc) a0 x4 (Ta0) r17 S_15 hq16)
      by_cases h18 : r17 = 0
      · rw [if_pos h18] at hm
        exact fb_X12_darks_66 P S0 hc n r S1 _ ih a0 x2 x4 x3 1 S_15 hA (Ta0) hm
      · rw [if_neg h18] at hm
        exact fb_X12_darks_66 P S0 hc n r S1 _ ih a0 x2 x4 x3 0 S_15 hA (Ta0) hm
set_option maxHeartbeats 1000000 in
set_option maxRecDepth 100000 in
theorem fb_X12_darks_30 (P : Nat → Prop) (S0 : pq_S) (hc : Clo P S0) (n : Nat) (r : Int32) (S1 : pq_S) : ∀ (a0 : Nat) (x1 : Int32) (x2 : Int32) (b0 : Nat) (z1 : Int32) (S : pq_S), Ag P S0 S → P a0 → P b0 → b_X12_darks_30 n a0 x1 x2 b0 z1 S = some (r, S1) → Ag P S0 S1 := by
  intro a0 x1 x2 b0 z1 S hA Ta0 Tb0 hm
  rw [b_X12_darks_30] at hm
  obtain ⟨r12, S_10, hq11, hm⟩ := cb_some hm
  have hA : Ag P S0 S_10 := hA.tr (fr_X12_may P n S (hA.cl hc) b0 z1 1 1 (Tb0) r12 S_10 hq11)
  by_cases h13 : r12 = 0
  · rw [if_pos h13] at hm
    cases hm
    exact hA
  · rw [if_neg h13] at hm
    exact fb_X12_darks_45 P S0 hc n r S1 n a0 x2 0 x1 S_10 hA (Ta0) hm
set_option maxHeartbeats 1000000 in
set_option maxRecDepth 100000 in
theorem fb_X12_darks_29 (P : Nat → Prop) (S0 : pq_S) (hc : Clo P S0) (n : Nat) (r : Int32) (S1 : pq_S) : ∀ (a0 : Nat) (x1 : Int32) (x2 : Int32) (b0 : Nat) (S : pq_S), Ag P S0 S → P a0 → P b0 → b_X12_darks_29 n a0 x1 x2 b0 S = some (r, S1) → Ag P S0 S1 := by
  intro a0 x1 x2 b0 S hA Ta0 Tb0 hm
  rw [b_X12_darks_29] at hm
  exact fb_X12_darks_30 P S0 hc n r S1 a0 x1 x2 b0 0 S hA (Ta0) (Tb0) hm
set_option maxHeartbeats 1000000 in
set_option maxRecDepth 100000 in
theorem fr_X12_darks (P : Nat → Prop) (n : Nat) (S0 : pq_S) (hc : Clo P S0) (a0 : Nat) (x1 : Int32) (x2 : Int32) (Ta0 : P a0) (r : Int32) (S1 : pq_S) (hm : m_X12_darks n a0 x1 x2 S0 = some (r, S1)) : Ag P S0 S1 := by
  have hA : Ag P S0 S0 := Ag.rf _ _
  rw [m_X12_darks] at hm
  have hA : Ag P S0 (sI S0 1200 a0 0) := hA.sI Ta0
  obtain ⟨r3, S_1, hq2, hm⟩ := cb_some hm
  have hA : Ag P S0 S_1 := hA.tr (fr_X12_isDay P n (sI S0 1200 a0 0) (hA.cl hc) x1  r3 S_1 hq2)
  by_cases h4 : r3 = 0
  · rw [if_pos h4] at hm
    exact fb_X12_darks_29 P S0 hc n r S1 a0 x1 x2 a0 S_1 hA (Ta0) (Ta0) hm
  · rw [if_neg h4] at hm
    obtain ⟨r7, S_5, hq6, hm⟩ := cb_some hm
    have hA : Ag P S0 S_5 := hA.tr (fr_X12_isDay P n S_1 (hA.cl hc) x2  r7 S_5 hq6)
    by_cases h8 : r7 = 0
    · rw [if_pos h8] at hm
      exact fb_X12_darks_29 P S0 hc n r S1 a0 x1 x2 a0 S_5 hA (Ta0) (Ta0) hm
    · rw [if_neg h8] at hm
      by_cases h9 : x2 < x1
      · rw [if_pos h9] at hm
        exact fb_X12_darks_29 P S0 hc n r S1 a0 x1 x2 a0 S_5 hA (Ta0) (Ta0) hm
      · rw [if_neg h9] at hm
        exact fb_X12_darks_30 P S0 hc n r S1 a0 x1 x2 a0 1 S_5 hA (Ta0) (Ta0) hm
set_option maxHeartbeats 1000000 in
set_option maxRecDepth 100000 in
theorem fb_X12_findClouds_178 (P : Nat → Prop) (S0 : pq_S) (hc : Clo P S0) (n : Nat) (S1 : pq_S) (k16 : Nat → Int32 → Int32 → Int32 → Int32 → Int32 → pq_S → Option pq_S) (hk16 : ∀ (a0 : Nat) (x2 : Int32) (x3 : Int32) (x4 : Int32) (x5 : Int32) (x6 : Int32) (S : pq_S), Ag P S0 S → P a0 → k16 a0 x2 x3 x4 x5 x6 S = some S1 → Ag P S0 S1) : ∀ (a0 : Nat) (x2 : Int32) (x3 : Int32) (x4 : Int32) (x5 : Int32) (x6 : Int32) (b0 : Nat) (z1 : Int32) (z2 : Int32) (S : pq_S), Ag P S0 S → P a0 → P b0 → b_X12_findClouds_178 n k16 a0 x2 x3 x4 x5 x6 b0 z1 z2 S = some S1 → Ag P S0 S1 := by
  intro a0 x2 x3 x4 x5 x6 b0 z1 z2 S hA Ta0 Tb0 hm
  rw [b_X12_findClouds_178] at hm
  have hA : Ag P S0 (sI S 1270 b0 (z1 + z2)) := hA.sI Tb0
  exact hk16 a0 x2 x3 x4 x5 (x6 + 1) (sI S 1270 b0 (z1 + z2)) hA (Ta0) hm
set_option maxHeartbeats 1000000 in
set_option maxRecDepth 100000 in
theorem fb_X12_findClouds_177 (P : Nat → Prop) (S0 : pq_S) (hc : Clo P S0) (n : Nat) (S1 : pq_S) (k16 : Nat → Int32 → Int32 → Int32 → Int32 → Int32 → pq_S → Option pq_S) (hk16 : ∀ (a0 : Nat) (x2 : Int32) (x3 : Int32) (x4 : Int32) (x5 : Int32) (x6 : Int32) (S : pq_S), Ag P S0 S → P a0 → k16 a0 x2 x3 x4 x5 x6 S = some S1 → Ag P S0 S1) : ∀ (a0 : Nat) (x2 : Int32) (x3 : Int32) (x4 : Int32) (x5 : Int32) (x6 : Int32) (b0 : Nat) (z1 : Int32) (S : pq_S), Ag P S0 S → P a0 → P b0 → b_X12_findClouds_177 n k16 a0 x2 x3 x4 x5 x6 b0 z1 S = some S1 → Ag P S0 S1 := by
  intro a0 x2 x3 x4 x5 x6 b0 z1 S hA Ta0 Tb0 hm
  rw [b_X12_findClouds_177] at hm
  exact fb_X12_findClouds_178 P S0 hc n S1 _ hk16 a0 x2 x3 x4 x5 x6 b0 z1 0 S hA (Ta0) (Tb0) hm
set_option maxHeartbeats 1000000 in
set_option maxRecDepth 100000 in
theorem fb_X12_findClouds_155 (P : Nat → Prop) (S0 : pq_S) (hc : Clo P S0) (n : Nat) (S1 : pq_S) (k16 : Nat → Int32 → Int32 → Int32 → Int32 → Int32 → pq_S → Option pq_S) (hk16 : ∀ (a0 : Nat) (x2 : Int32) (x3 : Int32) (x4 : Int32) (x5 : Int32) (x6 : Int32) (S : pq_S), Ag P S0 S → P a0 → k16 a0 x2 x3 x4 x5 x6 S = some S1 → Ag P S0 S1) : ∀ (a0 : Nat) (x2 : Int32) (x3 : Int32) (x4 : Int32) (x5 : Int32) (x6 : Int32) (x7 : Int32) (x8 : Int32) (b0 : Nat) (z1 : Int32) (S : pq_S), Ag P S0 S → P a0 → P b0 → b_X12_findClouds_155 n k16 a0 x2 x3 x4 x5 x6 x7 x8 b0 z1 S = some S1 → Ag P S0 S1 := by
  intro a0 x2 x3 x4 x5 x6 x7 x8 b0 z1 S hA Ta0 Tb0 hm
  rw [b_X12_findClouds_155] at hm
  have hA : Ag P S0 (sI S 1269 b0 z1) := hA.sI Tb0
  by_cases h13 : x8 = 0
  · rw [if_pos h13] at hm
    exact fb_X12_findClouds_177 P S0 hc n S1 _ hk16 a0 x2 x3 x4 x5 x6 a0 (pI (sI S 1269 b0 z1) 1270 a0) (sI S 1269 b0 z1) hA (Ta0) (Ta0) hm
  · rw [if_neg h13] at hm
    by_cases h14 : x7 = 0
    · rw [if_pos h14] at hm
      exact fb_X12_findClouds_177 P S0 hc n S1 _ hk16 a0 x2 x3 x4 x5 x6 a0 (pI (sI S 1269 b0 z1) 1270 a0) (sI S 1269 b0 z1) hA (Ta0) (Ta0) hm
    · rw [if_neg h14] at hm
      exact fb_X12_findClouds_178 P S0 hc n S1 _ hk16 a0 x2 x3 x4 x5 x6 a0 (pI (sI S 1269 b0 z1) 1270 a0) 1 (sI S 1269 b0 z1) hA (Ta0) (Ta0) hm
set_option maxHeartbeats 1000000 in
set_option maxRecDepth 100000 in
theorem fb_X12_findClouds_134 (P : Nat → Prop) (S0 : pq_S) (hc : Clo P S0) (n : Nat) (S1 : pq_S) (k16 : Nat → Int32 → Int32 → Int32 → Int32 → Int32 → pq_S → Option pq_S) (hk16 : ∀ (a0 : Nat) (x2 : Int32) (x3 : Int32) (x4 : Int32) (x5 : Int32) (x6 : Int32) (S : pq_S), Ag P S0 S → P a0 → k16 a0 x2 x3 x4 x5 x6 S = some S1 → Ag P S0 S1) : ∀ (a0 : Nat) (x2 : Int32) (x3 : Int32) (x4 : Int32) (x6 : Int32) (x7 : Int32) (x8 : Int32) (z0 : Int32) (S : pq_S), Ag P S0 S → P a0 → b_X12_findClouds_134 n k16 a0 x2 x3 x4 x6 x7 x8 z0 S = some S1 → Ag P S0 S1 := by
  intro a0 x2 x3 x4 x6 x7 x8 z0 S hA Ta0 hm
  rw [b_X12_findClouds_134] at hm
  by_cases h12 : z0 ≤ (pI S 1269 a0)
  · rw [if_pos h12] at hm
    exact fb_X12_findClouds_155 P S0 hc n S1 _ hk16 a0 x2 x3 x4 z0 x6 x7 x8 a0 (pI S 1269 a0) S hA (Ta0) (Ta0) hm
  · rw [if_neg h12] at hm
    exact fb_X12_findClouds_155 P S0 hc n S1 _ hk16 a0 x2 x3 x4 z0 x6 x7 x8 a0 z0 S hA (Ta0) (Ta0) hm
set_option maxHeartbeats 1000000 in
set_option maxRecDepth 100000 in
theorem fb_X12_findClouds_126 (P : Nat → Prop) (S0 : pq_S) (hc : Clo P S0) (n : Nat) (S1 : pq_S) (k16 : Nat → Int32 → Int32 → Int32 → Int32 → Int32 → pq_S → Option pq_S) (hk16 : ∀ (a0 : Nat) (x2 : Int32) (x3 : Int32) (x4 : Int32) (x5 : Int32) (x6 : Int32) (S : pq_S), Ag P S0 S → P a0 → k16 a0 x2 x3 x4 x5 x6 S = some S1 → Ag P S0 S1) : ∀ (a0 : Nat) (x2 : Int32) (x3 : Int32) (x4 : Int32) (x5 : Int32) (x6 : Int32) (x7 : Int32) (x8 : Int32) (S : pq_S), Ag P S0 S → P a0 → b_X12_findClouds_126 n k16 a0 x2 x3 x4 x5 x6 x7 x8 S = some S1 → Ag P S0 S1 := by
  intro a0 x2 x3 x4 x5 x6 x7 x8 S hA Ta0 hm
  rw [b_X12_findClouds_126] at hm
  exact fb_X12_findClouds_134 P S0 hc n S1 _ hk16 a0 x2 x3 x4 x6 x7 x8 (x5 + (1 : Int32)) S hA (Ta0) hm
set_option maxHeartbeats 1000000 in
set_option maxRecDepth 100000 in
theorem fb_X12_findClouds_112 (P : Nat → Prop) (S0 : pq_S) (hc : Clo P S0) (n : Nat) (S1 : pq_S) (k16 : Nat → Int32 → Int32 → Int32 → Int32 → Int32 → pq_S → Option pq_S) (hk16 : ∀ (a0 : Nat) (x2 : Int32) (x3 : Int32) (x4 : Int32) (x5 : Int32) (x6 : Int32) (S : pq_S), Ag P S0 S → P a0 → k16 a0 x2 x3 x4 x5 x6 S = some S1 → Ag P S0 S1) : ∀ (a0 : Nat) (x2 : Int32) (x3 : Int32) (x4 : Int32) (x5 : Int32) (x6 : Int32) (x7 : Int32) (x8 : Int32) (b0 : Nat) (z1 : Int32) (z2 : Int32) (S : pq_S), Ag P S0 S → P a0 → P b0 → b_X12_findClouds_112 n k16 a0 x2 x3 x4 x5 x6 x7 x8 b0 z1 z2 S = some S1 → Ag P S0 S1 := by
  intro a0 x2 x3 x4 x5 x6 x7 x8 b0 z1 z2 S hA Ta0 Tb0 hm
  rw [b_X12_findClouds_112] at hm
  have hA : Ag P S0 (sI S 1268 b0 (z1 + z2)) := hA.sI Tb0
  by_cases h10 : x8 = 0
  · rw [if_pos h10] at hm
    by_cases h11 : x7 = 0
    · rw [if_pos h11] at hm
      exact fb_X12_findClouds_134 P S0 hc n S1 _ hk16 a0 x2 x3 x4 x6 x7 x8 0 (sI S 1268 b0 (z1 + z2)) hA (Ta0) hm
    · rw [if_neg h11] at hm
      exact fb_X12_findClouds_126 P S0 hc n S1 _ hk16 a0 x2 x3 x4 x5 x6 x7 x8 (sI S 1268 b0 (z1 + z2)) hA (Ta0) hm
  · rw [if_neg h10] at hm
    exact fb_X12_findClouds_126 P S0 hc n S1 _ hk16 a0 x2 x3 x4 x5 x6 x7 x8 (sI S 1268 b0 (z1 + z2)) hA (Ta0) hm
set_option maxHeartbeats 1000000 in
set_option maxRecDepth 100000 in
theorem fb_X12_findClouds_107 (P : Nat → Prop) (S0 : pq_S) (hc : Clo P S0) (n : Nat) (S1 : pq_S) (k16 : Nat → Int32 → Int32 → Int32 → Int32 → Int32 → pq_S → Option pq_S) (hk16 : ∀ (a0 : Nat) (x2 : Int32) (x3 : Int32) (x4 : Int32) (x5 : Int32) (x6 : Int32) (S : pq_S), Ag P S0 S → P a0 → k16 a0 x2 x3 x4 x5 x6 S = some S1 → Ag P S0 S1) : ∀ (a0 : Nat) (x2 : Int32) (x3 : Int32) (x4 : Int32) (x5 : Int32) (x6 : Int32) (x7 : Int32) (x8 : Int32) (b0 : Nat) (z1 : Int32) (S : pq_S), Ag P S0 S → P a0 → P b0 → b_X12_findClouds_107 n k16 a0 x2 x3 x4 x5 x6 x7 x8 b0 z1 S = some S1 → Ag P S0 S1 := by
  intro a0 x2 x3 x4 x5 x6 x7 x8 b0 z1 S hA Ta0 Tb0 hm
  rw [b_X12_findClouds_107] at hm
  exact fb_X12_findClouds_112 P S0 hc n S1 _ hk16 a0 x2 x3 x4 x5 x6 x7 x8 b0 z1 1 S hA (Ta0) (Tb0) hm
set_option maxHeartbeats 1000000 in
set_option maxRecDepth 100000 in
theorem fb_X12_findClouds_90 (P : Nat → Prop) (S0 : pq_S) (hc : Clo P S0) (n : Nat) (S1 : pq_S) (k16 : Nat → Int32 → Int32 → Int32 → Int32 → Int32 → pq_S → Option pq_S) (hk16 : ∀ (a0 : Nat) (x2 : Int32) (x3 : Int32) (x4 : Int32) (x5 : Int32) (x6 : Int32) (S : pq_S), Ag P S0 S → P a0 → k16 a0 x2 x3 x4 x5 x6 S = some S1 → Ag P S0 S1) : ∀ (a0 : Nat) (x2 : Int32) (x3 : Int32) (x4 : Int32) (x5 : Int32) (x6 : Int32) (x7 : Int32) (z0 : Int32) (S : pq_S), Ag P S0 S → P a0 → b_X12_findClouds_90 n k16 a0 x2 x3 x4 x5 x6 x7 z0 S = some S1 → Ag P S0 S1 := by
  intro a0 x2 x3 x4 x5 x6 x7 z0 S hA Ta0 hm
  rw [b_X12_findClouds_90] at hm
  by_cases h8 : z0 = 0
  · rw [if_pos h8] at hm
    by_cases h9 : x7 = 0
    · rw [if_pos h9] at hm
      exact fb_X12_findClouds_112 P S0 hc n S1 _ hk16 a0 x2 x3 x4 x5 x6 x7 z0 a0 (pI S 1268 a0) 0 S hA (Ta0) (Ta0) hm
    · rw [if_neg h9] at hm
      exact fb_X12_findClouds_107 P S0 hc n S1 _ hk16 a0 x2 x3 x4 x5 x6 x7 z0 a0 (pI S 1268 a0) S hA (Ta0) (Ta0) hm
  · rw [if_neg h8] at hm
    exact fb_X12_findClouds_107 P S0 hc n S1 _ hk16 a0 x2 x3 x4 x5 x6 x7 z0 a0 (pI S 1268 a0) S hA (Ta0) (Ta0) hm
set_option maxHeartbeats 1000000 in
set_option maxRecDepth 100000 in
theorem fb_X12_findClouds_74 (P : Nat → Prop) (S0 : pq_S) (hc : Clo P S0) (n : Nat) (S1 : pq_S) (k16 : Nat → Int32 → Int32 → Int32 → Int32 → Int32 → pq_S → Option pq_S) (hk16 : ∀ (a0 : Nat) (x2 : Int32) (x3 : Int32) (x4 : Int32) (x5 : Int32) (x6 : Int32) (S : pq_S), Ag P S0 S → P a0 → k16 a0 x2 x3 x4 x5 x6 S = some S1 → Ag P S0 S1) : ∀ (a0 : Nat) (x2 : Int32) (x3 : Int32) (x4 : Int32) (x5 : Int32) (x6 : Int32) (z0 : Int32) (S : pq_S), Ag P S0 S → P a0 → b_X12_findClouds_74 n k16 a0 x2 x3 x4 x5 x6 z0 S = some S1 → Ag P S0 S1 := by
  intro a0 x2 x3 x4 x5 x6 z0 S hA Ta0 hm
  rw [b_X12_findClouds_74] at hm
  obtain ⟨r6, S_4, hq5, hm⟩ := cb_some hm
  have hA : Ag P S0 S_4 := hA.tr (fr_X12_moonsOn P n S (hA.cl hc) a0 x6 (Ta0) r6 S_4 hq5)
  by_cases h7 : r6 = 0
  · rw [if_pos h7] at hm
    exact fb_X12_findClouds_90 P S0 hc n S1 _ hk16 a0 x2 x3 x4 x5 x6 z0 1 S_4 hA (Ta0) hm
  · rw [if_neg h7] at hm
    exact fb_X12_findClouds_90 P S0 hc n S1 _ hk16 a0 x2 x3 x4 x5 x6 z0 0 S_4 hA (Ta0) hm
set_option maxHeartbeats 1000000 in
set_option maxRecDepth 100000 in
theorem fb_X12_findClouds_26 (P : Nat → Prop) (S0 : pq_S) (hc : Clo P S0) (n : Nat) (S1 : pq_S) : ∀ (f : Nat) (a0 : Nat) (x2 : Int32) (x3 : Int32) (x4 : Int32) (x5 : Int32) (x6 : Int32) (S : pq_S), Ag P S0 S → P a0 → b_X12_findClouds_26 n f a0 x2 x3 x4 x5 x6 S = some S1 → Ag P S0 S1 := by
  intro f
  induction f with
  | zero =>
    intro a0 x2 x3 x4 x5 x6 S hA Ta0 hm
    cases hm
  | succ f ih =>
    intro a0 x2 x3 x4 x5 x6 S hA Ta0 hm
    rw [b_X12_findClouds_26] at hm
    by_cases h1 : (x3 + x4) ≤ x6
    · rw [if_pos h1] at hm
      cases hm
      exact hA
    · rw [if_neg h1] at hm
      have hA : Ag P S0 (sI S 1267 a0 (((pI S 1267 a0) * (1103515245 : Int32)) + (12345 : Int32))) := hA.sI Ta0
      obtain ⟨S_2, eS_2, hm⟩ := lt_some hm
      have hA : Ag P S0 S_2 := by rw [eS_2]; exact hA
      by_cases h3 : x2 ≤ ((((pI S_2 1267 a0) >>> ((16 : Int32) &&& (31 : Int32))) &&& (32767 : Int32)) - (((pI S_2 1267 a0) >>> ((16 : Int32) &&& (31 : Int32))) &&& (32767 : Int32)) / 16 * 16)
      · rw [if_pos h3] at hm
        exact fb_X12_findClouds_74 P S0 hc n S1 _ ih a0 x2 x3 x4 x5 x6 0 S_2 hA (Ta0) hm
      · rw [if_neg h3] at hm
        exact fb_X12_findClouds_74 P S0 hc n S1 _ ih a0 x2 x3 x4 x5 x6 1 S_2 hA (Ta0) hm
set_option maxHeartbeats 1000000 in
set_option maxRecDepth 100000 in
theorem fr_X12_findClouds (P : Nat → Prop) (n : Nat) (S0 : pq_S) (hc : Clo P S0) (a0 : Nat) (x1 : Int32) (x2 : Int32) (x3 : Int32) (x4 : Int32) (Ta0 : P a0) (S1 : pq_S) (hm : m_X12_findClouds n a0 x1 x2 x3 x4 S0 = some S1) : Ag P S0 S1 := by
  have hA : Ag P S0 S0 := Ag.rf _ _
  rw [m_X12_findClouds] at hm
  have hA : Ag P S0 (sI S0 1267 a0 x1) := hA.sI Ta0
  have hA : Ag P S0 (sI (sI S0 1267 a0 x1) 1268 a0 0) := hA.sI Ta0
  have hA : Ag P S0 (sI (sI (sI S0 1267 a0 x1) 1268 a0 0) 1269 a0 0) := hA.sI Ta0
  have hA : Ag P S0 (sI (sI (sI (sI S0 1267 a0 x1) 1268 a0 0) 1269 a0 0) 1270 a0 0) := hA.sI Ta0
  exact fb_X12_findClouds_26 P S0 hc n S1 n a0 x2 x3 x4 0 x3 (sI (sI (sI (sI S0 1267 a0 x1) 1268 a0 0) 1269 a0 0) 1270 a0 0) hA (Ta0) hm
set_option maxHeartbeats 1000000 in
set_option maxRecDepth 100000 in
theorem fr_X12_isCloudy (P : Nat → Prop) (n : Nat) (S0 : pq_S) (hc : Clo P S0) (x0 : Int32) (x1 : Int32) (x2 : Int32)  (r : Int32) (S1 : pq_S) (hm : m_X12_isCloudy n x0 x1 x2 S0 = some (r, S1)) : Ag P S0 S1 := by
  have hA : Ag P S0 S0 := Ag.rf _ _
  rw [m_X12_isCloudy] at hm
  by_cases h1 : x0 < 0
  · rw [if_pos h1] at hm
    cases hm
    exact hA
  · rw [if_neg h1] at hm
    by_cases h2 : 16 < x0
    · rw [if_pos h2] at hm
      cases hm
      exact hA
    · rw [if_neg h2] at hm
      obtain ⟨r5, S_3, hq4, hm⟩ := cb_some hm
      have hA : Ag P S0 S_3 := hA.tr (fr_X12_isDay P n S0 (hA.cl hc) x1  r5 S_3 hq4)
      by_cases h6 : r5 = 0
      · rw [if_pos h6] at hm
        cases hm
        exact hA
      · rw [if_neg h6] at hm
        by_cases h7 : x2 < 1
        · rw [if_pos h7] at hm
          cases hm
          exact hA
        · rw [if_neg h7] at hm
          by_cases h8 : 60 < x2
          · rw [if_pos h8] at hm
            cases hm
            exact hA
          · rw [if_neg h8] at hm
            cases hm
            exact hA
set_option maxHeartbeats 1000000 in
set_option maxRecDepth 100000 in
theorem fb_X12_clouds_31 (P : Nat → Prop) (S0 : pq_S) (hc : Clo P S0) (n : Nat) (r : Int32) (S1 : pq_S) : ∀ (a0 : Nat) (x1 : Int32) (x2 : Int32) (x3 : Int32) (x4 : Int32) (x5 : Int32) (b0 : Nat) (z1 : Int32) (S : pq_S), Ag P S0 S → P a0 → P b0 → b_X12_clouds_31 n a0 x1 x2 x3 x4 x5 b0 z1 S = some (r, S1) → Ag P S0 S1 := by
  intro a0 x1 x2 x3 x4 x5 b0 z1 S hA Ta0 Tb0 hm
  rw [b_X12_clouds_31] at hm
  obtain ⟨r11, S_9, hq10, hm⟩ := cb_some hm
  have hA : Ag P S0 S_9 := hA.tr (fr_X12_may P n S (hA.cl hc) b0 z1 1 1 (Tb0) r11 S_9 hq10)
  by_cases h12 : r11 = 0
  · rw [if_pos h12] at hm
    cases hm
    exact hA
  · rw [if_neg h12] at hm
    obtain ⟨S_13, hq14, hm⟩ := bd_some hm
    have hA : Ag P S0 S_13 := hA.tr (fr_X12_findClouds P n S_9 (hA.cl hc) a0 x1 x2 x3 x4 (Ta0)  S_13 hq14)
    by_cases h15 : x5 = 0
    · rw [if_pos h15] at hm
      cases hm
      exact hA
    · rw [if_neg h15] at hm
      by_cases h16 : x5 = 1
      · rw [if_pos h16] at hm
        cases hm
        exact hA
      · rw [if_neg h16] at hm
        cases hm
        exact hA
set_option maxHeartbeats 1000000 in
set_option maxRecDepth 100000 in
theorem fb_X12_clouds_30 (P : Nat → Prop) (S0 : pq_S) (hc : Clo P S0) (n : Nat) (r : Int32) (S1 : pq_S) : ∀ (a0 : Nat) (x1 : Int32) (x2 : Int32) (x3 : Int32) (x4 : Int32) (x5 : Int32) (b0 : Nat) (S : pq_S), Ag P S0 S → P a0 → P b0 → b_X12_clouds_30 n a0 x1 x2 x3 x4 x5 b0 S = some (r, S1) → Ag P S0 S1 := by
  intro a0 x1 x2 x3 x4 x5 b0 S hA Ta0 Tb0 hm
  rw [b_X12_clouds_30] at hm
  exact fb_X12_clouds_31 P S0 hc n r S1 a0 x1 x2 x3 x4 x5 b0 0 S hA (Ta0) (Tb0) hm
set_option maxHeartbeats 1000000 in
set_option maxRecDepth 100000 in
theorem fr_X12_clouds (P : Nat → Prop) (n : Nat) (S0 : pq_S) (hc : Clo P S0) (a0 : Nat) (x1 : Int32) (x2 : Int32) (x3 : Int32) (x4 : Int32) (x5 : Int32) (Ta0 : P a0) (r : Int32) (S1 : pq_S) (hm : m_X12_clouds n a0 x1 x2 x3 x4 x5 S0 = some (r, S1)) : Ag P S0 S1 := by
  have hA : Ag P S0 S0 := Ag.rf _ _
  rw [m_X12_clouds] at hm
  have hA : Ag P S0 (sI S0 1200 a0 0) := hA.sI Ta0
  obtain ⟨r3, S_1, hq2, hm⟩ := cb_some hm
  have hA : Ag P S0 S_1 := hA.tr (fr_X12_isCloudy P n (sI S0 1200 a0 0) (hA.cl hc) x2 x3 x4  r3 S_1 hq2)
  by_cases h4 : r3 = 0
  · rw [if_pos h4] at hm
    exact fb_X12_clouds_30 P S0 hc n r S1 a0 x1 x2 x3 x4 x5 a0 S_1 hA (Ta0) (Ta0) hm
  · rw [if_neg h4] at hm
    obtain ⟨r7, S_5, hq6, hm⟩ := cb_some hm
    have hA : Ag P S0 S_5 := hA.tr (fr_X12_within P n S_1 (hA.cl hc) x5 0 2  r7 S_5 hq6)
    by_cases h8 : r7 = 0
    · rw [if_pos h8] at hm
      exact fb_X12_clouds_30 P S0 hc n r S1 a0 x1 x2 x3 x4 x5 a0 S_5 hA (Ta0) (Ta0) hm
    · rw [if_neg h8] at hm
      exact fb_X12_clouds_31 P S0 hc n r S1 a0 x1 x2 x3 x4 x5 a0 1 S_5 hA (Ta0) (Ta0) hm
set_option maxHeartbeats 1000000 in
set_option maxRecDepth 100000 in
theorem fb_X12_span_127 (P : Nat → Prop) (S0 : pq_S) (hc : Clo P S0) (n : Nat) (r : Int32) (S1 : pq_S) (k36 : Nat → Int32 → Int32 → Int32 → Int32 → Int32 → Int32 → Int32 → Int32 → Int32 → Int32 → pq_S → Option (Int32 × pq_S)) (hk36 : ∀ (a0 : Nat) (x1 : Int32) (x2 : Int32) (x3 : Int32) (x4 : Int32) (x5 : Int32) (x6 : Int32) (x7 : Int32) (x8 : Int32) (x9 : Int32) (x10 : Int32) (S : pq_S), Ag P S0 S → P a0 → k36 a0 x1 x2 x3 x4 x5 x6 x7 x8 x9 x10 S = some (r, S1) → Ag P S0 S1) : ∀ (a0 : Nat) (x1 : Int32) (x2 : Int32) (x3 : Int32) (x4 : Int32) (x5 : Int32) (x6 : Int32) (x7 : Int32) (x9 : Int32) (x10 : Int32) (z0 : Int32) (S : pq_S), Ag P S0 S → P a0 → b_X12_span_127 n k36 a0 x1 x2 x3 x4 x5 x6 x7 x9 x10 z0 S = some (r, S1) → Ag P S0 S1 := by
  intro a0 x1 x2 x3 x4 x5 x6 x7 x9 x10 z0 S hA Ta0 hm
  rw [b_X12_span_127] at hm
  exact hk36 a0 x1 x2 x3 x4 x5 x6 x7 z0 (x9 + (pI S 1268 a0)) (x10 + 1) S hA (Ta0) hm
set_option maxHeartbeats 1000000 in
set_option maxRecDepth 100000 in
theorem fb_X12_span_107 (P : Nat → Prop) (S0 : pq_S) (hc : Clo P S0) (n : Nat) (r : Int32) (S1 : pq_S) (k36 : Nat → Int32 → Int32 → Int32 → Int32 → Int32 → Int32 → Int32 → Int32 → Int32 → Int32 → pq_S → Option (Int32 × pq_S)) (hk36 : ∀ (a0 : Nat) (x1 : Int32) (x2 : Int32) (x3 : Int32) (x4 : Int32) (x5 : Int32) (x6 : Int32) (x7 : Int32) (x8 : Int32) (x9 : Int32) (x10 : Int32) (S : pq_S), Ag P S0 S → P a0 → k36 a0 x1 x2 x3 x4 x5 x6 x7 x8 x9 x10 S = some (r, S1) → Ag P S0 S1) : ∀ (a0 : Nat) (x1 : Int32) (x2 : Int32) (x3 : Int32) (x4 : Int32) (x5 : Int32) (x6 : Int32) (x8 : Int32) (x9 : Int32) (x10 : Int32) (z0 : Int32) (S : pq_S), Ag P S0 S → P a0 → b_X12_span_107 n k36 a0 x1 x2 x3 x4 x5 x6 x8 x9 x10 z0 S = some (r, S1) → Ag P S0 S1 := by
  intro a0 x1 x2 x3 x4 x5 x6 x8 x9 x10 z0 S hA Ta0 hm
  rw [b_X12_span_107] at hm
  by_cases h22 : (pI S 1268 a0) ≤ x8
  · rw [if_pos h22] at hm
    exact fb_X12_span_127 P S0 hc n r S1 _ hk36 a0 x1 x2 x3 x4 x5 x6 z0 x9 x10 x8 S hA (Ta0) hm
  · rw [if_neg h22] at hm
    exact fb_X12_span_127 P S0 hc n r S1 _ hk36 a0 x1 x2 x3 x4 x5 x6 z0 x9 x10 (pI S 1268 a0) S hA (Ta0) hm
set_option maxHeartbeats 1000000 in
set_option maxRecDepth 100000 in
theorem fb_X12_span_144 (P : Nat → Prop) (S0 : pq_S) (hc : Clo P S0) (n : Nat) (r : Int32) (S1 : pq_S) : ∀ (x6 : Int32) (x7 : Int32) (x8 : Int32) (x9 : Int32) (S : pq_S), Ag P S0 S → b_X12_span_144 n x6 x7 x8 x9 S = some (r, S1) → Ag P S0 S1 := by
  intro x6 x7 x8 x9 S hA hm
  rw [b_X12_span_144] at hm
  by_cases h23 : x6 = 0
  · rw [if_pos h23] at hm
    cases hm
    exact hA
  · rw [if_neg h23] at hm
    by_cases h24 : x6 = 1
    · rw [if_pos h24] at hm
      cases hm
      exact hA
    · rw [if_neg h24] at hm
      cases hm
      exact hA
set_option maxHeartbeats 1000000 in
set_option maxRecDepth 100000 in
theorem fb_X12_span_98 (P : Nat → Prop) (S0 : pq_S) (hc : Clo P S0) (n : Nat) (r : Int32) (S1 : pq_S) (k36 : Nat → Int32 → Int32 → Int32 → Int32 → Int32 → Int32 → Int32 → Int32 → Int32 → Int32 → pq_S → Option (Int32 × pq_S)) (hk36 : ∀ (a0 : Nat) (x1 : Int32) (x2 : Int32) (x3 : Int32) (x4 : Int32) (x5 : Int32) (x6 : Int32) (x7 : Int32) (x8 : Int32) (x9 : Int32) (x10 : Int32) (S : pq_S), Ag P S0 S → P a0 → k36 a0 x1 x2 x3 x4 x5 x6 x7 x8 x9 x10 S = some (r, S1) → Ag P S0 S1) : ∀ (a0 : Nat) (x1 : Int32) (x2 : Int32) (x3 : Int32) (x4 : Int32) (x5 : Int32) (x6 : Int32) (x8 : Int32) (x9 : Int32) (x10 : Int32) (S : pq_S), Ag P S0 S → P a0 → b_X12_span_98 n k36 a0 x1 x2 x3 x4 x5 x6 x8 x9 x10 S = some (r, S1) → Ag P S0 S1 := by
  intro a0 x1 x2 x3 x4 x5 x6 x8 x9 x10 S hA Ta0 hm
  rw [b_X12_span_98] at hm
  exact fb_X12_span_107 P S0 hc n r S1 _ hk36 a0 x1 x2 x3 x4 x5 x6 x8 x9 x10 (pI S 1268 a0) S hA (Ta0) hm
set_option maxHeartbeats 1000000 in
set_option maxRecDepth 100000 in
theorem fb_X12_span_64 (P : Nat → Prop) (S0 : pq_S) (hc : Clo P S0) (n : Nat) (r : Int32) (S1 : pq_S) : ∀ (f : Nat) (a0 : Nat) (x1 : Int32) (x2 : Int32) (x3 : Int32) (x4 : Int32) (x5 : Int32) (x6 : Int32) (x7 : Int32) (x8 : Int32) (x9 : Int32) (x10 : Int32) (S : pq_S), Ag P S0 S → P a0 → b_X12_span_64 n f a0 x1 x2 x3 x4 x5 x6 x7 x8 x9 x10 S = some (r, S1) → Ag P S0 S1 := by
  intro f
  induction f with
  | zero =>
    intro a0 x1 x2 x3 x4 x5 x6 x7 x8 x9 x10 S hA Ta0 hm
    cases hm
  | succ f ih =>
    intro a0 x1 x2 x3 x4 x5 x6 x7 x8 x9 x10 S hA Ta0 hm
    rw [b_X12_span_64] at hm
    by_cases h17 : x2 ≤ x10
    · rw [if_pos h17] at hm
      exact fb_X12_span_144 P S0 hc n r S1 x6 x7 x8 x9 S hA  hm
    · rw [if_neg h17] at hm
      obtain ⟨S_18, hq19, hm⟩ := bd_some hm
      have hA : Ag P S0 S_18 := hA.tr (fr_X12_findClouds P n S (hA.cl hc) a0 (x1 + x10) x3 x4 x5 (Ta0)  S_18 hq19)
      by_cases h20 : x7 = (-1)
      · rw [if_pos h20] at hm
        exact fb_X12_span_98 P S0 hc n r S1 _ ih a0 x1 x2 x3 x4 x5 x6 x8 x9 x10 S_18 hA (Ta0) hm
      · rw [if_neg h20] at hm
        by_cases h21 : x7 ≤ (pI S_18 1268 a0)
        · rw [if_pos h21] at hm
          exact fb_X12_span_107 P S0 hc n r S1 _ ih a0 x1 x2 x3 x4 x5 x6 x8 x9 x10 x7 S_18 hA (Ta0) hm
        · rw [if_neg h21] at hm
          exact fb_X12_span_98 P S0 hc n r S1 _ ih a0 x1 x2 x3 x4 x5 x6 x8 x9 x10 S_18 hA (Ta0) hm
set_option maxHeartbeats 1000000 in
set_option maxRecDepth 100000 in
theorem fb_X12_span_42 (P : Nat → Prop) (S0 : pq_S) (hc : Clo P S0) (n : Nat) (r : Int32) (S1 : pq_S) : ∀ (a0 : Nat) (x1 : Int32) (x2 : Int32) (x3 : Int32) (x4 : Int32) (x5 : Int32) (x6 : Int32) (b0 : Nat) (z1 : Int32) (S : pq_S), Ag P S0 S → P a0 → P b0 → b_X12_span_42 n a0 x1 x2 x3 x4 x5 x6 b0 z1 S = some (r, S1) → Ag P S0 S1 := by
  intro a0 x1 x2 x3 x4 x5 x6 b0 z1 S hA Ta0 Tb0 hm
  rw [b_X12_span_42] at hm
  obtain ⟨r15, S_13, hq14, hm⟩ := cb_some hm
  have hA : Ag P S0 S_13 := hA.tr (fr_X12_may P n S (hA.cl hc) b0 z1 1 1 (Tb0) r15 S_13 hq14)
  by_cases h16 : r15 = 0
  · rw [if_pos h16] at hm
    cases hm
    exact hA
  · rw [if_neg h16] at hm
    exact fb_X12_span_64 P S0 hc n r S1 n a0 x1 x2 x3 x4 x5 x6 (-1) 0 0 0 S_13 hA (Ta0) hm
set_option maxHeartbeats 1000000 in
set_option maxRecDepth 100000 in
theorem fb_X12_span_41 (P : Nat → Prop) (S0 : pq_S) (hc : Clo P S0) (n : Nat) (r : Int32) (S1 : pq_S) : ∀ (a0 : Nat) (x1 : Int32) (x2 : Int32) (x3 : Int32) (x4 : Int32) (x5 : Int32) (x6 : Int32) (b0 : Nat) (S : pq_S), Ag P S0 S → P a0 → P b0 → b_X12_span_41 n a0 x1 x2 x3 x4 x5 x6 b0 S = some (r, S1) → Ag P S0 S1 := by
  intro a0 x1 x2 x3 x4 x5 x6 b0 S hA Ta0 Tb0 hm
  rw [b_X12_span_41] at hm
  exact fb_X12_span_42 P S0 hc n r S1 a0 x1 x2 x3 x4 x5 x6 b0 0 S hA (Ta0) (Tb0) hm
set_option maxHeartbeats 1000000 in
set_option maxRecDepth 100000 in
theorem fr_X12_span (P : Nat → Prop) (n : Nat) (S0 : pq_S) (hc : Clo P S0) (a0 : Nat) (x1 : Int32) (x2 : Int32) (x3 : Int32) (x4 : Int32) (x5 : Int32) (x6 : Int32) (Ta0 : P a0) (r : Int32) (S1 : pq_S) (hm : m_X12_span n a0 x1 x2 x3 x4 x5 x6 S0 = some (r, S1)) : Ag P S0 S1 := by
  have hA : Ag P S0 S0 := Ag.rf _ _
  rw [m_X12_span] at hm
  have hA : Ag P S0 (sI S0 1200 a0 0) := hA.sI Ta0
  obtain ⟨r3, S_1, hq2, hm⟩ := cb_some hm
  have hA : Ag P S0 S_1 := hA.tr (fr_X12_within P n (sI S0 1200 a0 0) (hA.cl hc) x2 1 40  r3 S_1 hq2)
  by_cases h4 : r3 = 0
  · rw [if_pos h4] at hm
    exact fb_X12_span_41 P S0 hc n r S1 a0 x1 x2 x3 x4 x5 x6 a0 S_1 hA (Ta0) (Ta0) hm
  · rw [if_neg h4] at hm
    obtain ⟨r7, S_5, hq6, hm⟩ := cb_some hm
    have hA : Ag P S0 S_5 := hA.tr (fr_X12_isCloudy P n S_1 (hA.cl hc) x3 x4 x5  r7 S_5 hq6)
    by_cases h8 : r7 = 0
    · rw [if_pos h8] at hm
      exact fb_X12_span_41 P S0 hc n r S1 a0 x1 x2 x3 x4 x5 x6 a0 S_5 hA (Ta0) (Ta0) hm
    · rw [if_neg h8] at hm
      obtain ⟨r11, S_9, hq10, hm⟩ := cb_some hm
      have hA : Ag P S0 S_9 := hA.tr (fr_X12_within P n S_5 (hA.cl hc) x6 0 2  r11 S_9 hq10)
      by_cases h12 : r11 = 0
      · rw [if_pos h12] at hm
        exact fb_X12_span_41 P S0 hc n r S1 a0 x1 x2 x3 x4 x5 x6 a0 S_9 hA (Ta0) (Ta0) hm
      · rw [if_neg h12] at hm
        exact fb_X12_span_42 P S0 hc n r S1 a0 x1 x2 x3 x4 x5 x6 a0 1 S_9 hA (Ta0) (Ta0) hm
set_option maxHeartbeats 1000000 in
set_option maxRecDepth 100000 in
theorem fb_X12_ahead_72 (P : Nat → Prop) (S0 : pq_S) (hc : Clo P S0) (n : Nat) (r : Int32) (S1 : pq_S) : ∀ (a0 : Nat) (x1 : Int32) (x3 : Int32) (S : pq_S), Ag P S0 S → P a0 → b_X12_ahead_72 n a0 x1 x3 S = some (r, S1) → Ag P S0 S1 := by
  intro a0 x1 x3 S hA Ta0 hm
  rw [b_X12_ahead_72] at hm
  by_cases h22 : x3 = 0
  · rw [if_pos h22] at hm
    obtain ⟨q25, hq25, hm⟩ := bd_some hm
    have Tq25 : P q25 := hA.clo hc Ta0 hq25
    obtain ⟨hi26, hm⟩ := ck_some hm
    cases hm
    exact hA
  · rw [if_neg h22] at hm
    obtain ⟨q23, hq23, hm⟩ := bd_some hm
    have Tq23 : P q23 := hA.clo hc Ta0 hq23
    obtain ⟨hi24, hm⟩ := ck_some hm
    cases hm
    exact hA
set_option maxHeartbeats 1000000 in
set_option maxRecDepth 100000 in
theorem fb_X12_ahead_56 (P : Nat → Prop) (S0 : pq_S) (hc : Clo P S0) (n : Nat) (r : Int32) (S1 : pq_S) : ∀ (f : Nat) (a0 : Nat) (x1 : Int32) (x2 : Int32) (x3 : Int32) (x4 : Int32) (S : pq_S), Ag P S0 S → P a0 → b_X12_ahead_56 n f a0 x1 x2 x3 x4 S = some (r, S1) → Ag P S0 S1 := by
  intro f
  induction f with
  | zero =>
    intro a0 x1 x2 x3 x4 S hA Ta0 hm
    cases hm
  | succ f ih =>
    intro a0 x1 x2 x3 x4 S hA Ta0 hm
    rw [b_X12_ahead_56] at hm
    by_cases h19 : x2 ≤ x4
    · rw [if_pos h19] at hm
      exact fb_X12_ahead_72 P S0 hc n r S1 a0 x1 x3 S hA (Ta0) hm
    · rw [if_neg h19] at hm
      obtain ⟨S_20, hq21, hm⟩ := bd_some hm
      have hA : Ag P S0 S_20 := hA.tr (fr_X12_month P n S (hA.cl hc) a0 (Ta0)  S_20 hq21)
      exact ih a0 x1 x2 x3 (x4 + 1) S_20 hA (Ta0) hm
set_option maxHeartbeats 1000000 in
set_option maxRecDepth 100000 in
theorem fb_X12_ahead_39 (P : Nat → Prop) (S0 : pq_S) (hc : Clo P S0) (n : Nat) (r : Int32) (S1 : pq_S) : ∀ (a0 : Nat) (x1 : Int32) (x2 : Int32) (x3 : Int32) (b0 : Nat) (z1 : Int32) (S : pq_S), Ag P S0 S → P a0 → P b0 → b_X12_ahead_39 n a0 x1 x2 x3 b0 z1 S = some (r, S1) → Ag P S0 S1 := by
  intro a0 x1 x2 x3 b0 z1 S hA Ta0 Tb0 hm
  rw [b_X12_ahead_39] at hm
  obtain ⟨r15, S_13, hq14, hm⟩ := cb_some hm
  have hA : Ag P S0 S_13 := hA.tr (fr_X12_may P n S (hA.cl hc) b0 z1 2 1 (Tb0) r15 S_13 hq14)
  by_cases h16 : r15 = 0
  · rw [if_pos h16] at hm
    cases hm
    exact hA
  · rw [if_neg h16] at hm
    obtain ⟨S_17, hq18, hm⟩ := bd_some hm
    have hA : Ag P S0 S_17 := hA.tr (fr_X12_take P n S_13 (hA.cl hc) a0 (Ta0)  S_17 hq18)
    exact fb_X12_ahead_56 P S0 hc n r S1 n a0 x1 x2 x3 0 S_17 hA (Ta0) hm
set_option maxHeartbeats 1000000 in
set_option maxRecDepth 100000 in
theorem fb_X12_ahead_38 (P : Nat → Prop) (S0 : pq_S) (hc : Clo P S0) (n : Nat) (r : Int32) (S1 : pq_S) : ∀ (a0 : Nat) (x1 : Int32) (x2 : Int32) (x3 : Int32) (b0 : Nat) (S : pq_S), Ag P S0 S → P a0 → P b0 → b_X12_ahead_38 n a0 x1 x2 x3 b0 S = some (r, S1) → Ag P S0 S1 := by
  intro a0 x1 x2 x3 b0 S hA Ta0 Tb0 hm
  rw [b_X12_ahead_38] at hm
  exact fb_X12_ahead_39 P S0 hc n r S1 a0 x1 x2 x3 b0 0 S hA (Ta0) (Tb0) hm
set_option maxHeartbeats 1000000 in
set_option maxRecDepth 100000 in
theorem fr_X12_ahead (P : Nat → Prop) (n : Nat) (S0 : pq_S) (hc : Clo P S0) (a0 : Nat) (x1 : Int32) (x2 : Int32) (x3 : Int32) (Ta0 : P a0) (r : Int32) (S1 : pq_S) (hm : m_X12_ahead n a0 x1 x2 x3 S0 = some (r, S1)) : Ag P S0 S1 := by
  have hA : Ag P S0 S0 := Ag.rf _ _
  rw [m_X12_ahead] at hm
  have hA : Ag P S0 (sI S0 1200 a0 0) := hA.sI Ta0
  obtain ⟨r3, S_1, hq2, hm⟩ := cb_some hm
  have hA : Ag P S0 S_1 := hA.tr (fr_X12_isPlace P n (sI S0 1200 a0 0) (hA.cl hc) a0 x1 1 (Ta0) r3 S_1 hq2)
  by_cases h4 : r3 = 0
  · rw [if_pos h4] at hm
    cases hm
    exact hA
  · rw [if_neg h4] at hm
    obtain ⟨r7, S_5, hq6, hm⟩ := cb_some hm
    have hA : Ag P S0 S_5 := hA.tr (fr_X12_within P n S_1 (hA.cl hc) x2 0 60  r7 S_5 hq6)
    by_cases h8 : r7 = 0
    · rw [if_pos h8] at hm
      exact fb_X12_ahead_38 P S0 hc n r S1 a0 x1 x2 x3 a0 S_5 hA (Ta0) (Ta0) hm
    · rw [if_neg h8] at hm
      obtain ⟨r11, S_9, hq10, hm⟩ := cb_some hm
      have hA : Ag P S0 S_9 := hA.tr (fr_X12_within P n S_5 (hA.cl hc) x3 0 1  r11 S_9 hq10)
      by_cases h12 : r11 = 0
      · rw [if_pos h12] at hm
        exact fb_X12_ahead_38 P S0 hc n r S1 a0 x1 x2 x3 a0 S_9 hA (Ta0) (Ta0) hm
      · rw [if_neg h12] at hm
        exact fb_X12_ahead_39 P S0 hc n r S1 a0 x1 x2 x3 a0 1 S_9 hA (Ta0) (Ta0) hm
set_option maxHeartbeats 1000000 in
set_option maxRecDepth 100000 in
theorem fr_X12_isAbove (P : Nat → Prop) (n : Nat) (S0 : pq_S) (hc : Clo P S0) (a0 : Nat) (x1 : Int32) (x2 : Int32) (x3 : Int32) (Ta0 : P a0) (r : Int32) (S1 : pq_S) (hm : m_X12_isAbove n a0 x1 x2 x3 S0 = some (r, S1)) : Ag P S0 S1 := by
  have hA : Ag P S0 S0 := Ag.rf _ _
  rw [m_X12_isAbove] at hm
  by_cases h1 : x1 = 0
  · rw [if_pos h1] at hm
    obtain ⟨q11, hq11, hm⟩ := bd_some hm
    have Tq11 : P q11 := hA.clo hc Ta0 hq11
    obtain ⟨hi12, hm⟩ := ck_some hm
    obtain ⟨q13, hq13, hm⟩ := bd_some hm
    have Tq13 : P q13 := hA.clo hc Ta0 hq13
    obtain ⟨hi14, hm⟩ := ck_some hm
    obtain ⟨q15, hq15, hm⟩ := bd_some hm
    have Tq15 : P q15 := hA.clo hc Ta0 hq15
    obtain ⟨hi16, hm⟩ := ck_some hm
    obtain ⟨q17, hq17, hm⟩ := bd_some hm
    have Tq17 : P q17 := hA.clo hc Ta0 hq17
    obtain ⟨hi18, hm⟩ := ck_some hm
    by_cases h19 : ((pA S0 q11 (Int32.toNatClampNeg ((0 : Int32) + x2))) + (pA S0 q13 (Int32.toNatClampNeg ((6 : Int32) + x2)))) ≤ ((pA S0 q15 (Int32.toNatClampNeg ((0 : Int32) + x3))) + (pA S0 q17 (Int32.toNatClampNeg ((6 : Int32) + x3))))
    · rw [if_pos h19] at hm
      cases hm
      exact hA
    · rw [if_neg h19] at hm
      cases hm
      exact hA
  · rw [if_neg h1] at hm
    obtain ⟨q2, hq2, hm⟩ := bd_some hm
    have Tq2 : P q2 := hA.clo hc Ta0 hq2
    obtain ⟨hi3, hm⟩ := ck_some hm
    obtain ⟨q4, hq4, hm⟩ := bd_some hm
    have Tq4 : P q4 := hA.clo hc Ta0 hq4
    obtain ⟨hi5, hm⟩ := ck_some hm
    obtain ⟨q6, hq6, hm⟩ := bd_some hm
    have Tq6 : P q6 := hA.clo hc Ta0 hq6
    obtain ⟨hi7, hm⟩ := ck_some hm
    obtain ⟨q8, hq8, hm⟩ := bd_some hm
    have Tq8 : P q8 := hA.clo hc Ta0 hq8
    obtain ⟨hi9, hm⟩ := ck_some hm
    by_cases h10 : ((pA S0 q2 (Int32.toNatClampNeg (((4 : Int32) * x2) + (3 : Int32)))) * (pA S0 q4 (Int32.toNatClampNeg (((4 : Int32) * x3) + (1 : Int32))))) ≤ ((pA S0 q6 (Int32.toNatClampNeg (((4 : Int32) * x3) + (3 : Int32)))) * (pA S0 q8 (Int32.toNatClampNeg (((4 : Int32) * x2) + (1 : Int32)))))
    · rw [if_pos h10] at hm
      cases hm
      exact hA
    · rw [if_neg h10] at hm
      cases hm
      exact hA
set_option maxHeartbeats 1000000 in
set_option maxRecDepth 100000 in
theorem fb_X12_keepsRow_43 (P : Nat → Prop) (S0 : pq_S) (hc : Clo P S0) (n : Nat) (r : Int32) (S1 : pq_S) (k2 : Nat → Int32 → Nat → Int32 → Int32 → Int32 → pq_S → Option (Int32 × pq_S)) (hk2 : ∀ (a0 : Nat) (x1 : Int32) (a2 : Nat) (x3 : Int32) (x4 : Int32) (x5 : Int32) (S : pq_S), Ag P S0 S → P a0 → P a2 → k2 a0 x1 a2 x3 x4 x5 S = some (r, S1) → Ag P S0 S1) : ∀ (a0 : Nat) (x1 : Int32) (a2 : Nat) (x3 : Int32) (x4 : Int32) (x5 : Int32) (S : pq_S), Ag P S0 S → P a0 → P a2 → b_X12_keepsRow_43 n k2 a0 x1 a2 x3 x4 x5 S = some (r, S1) → Ag P S0 S1 := by
  intro a0 x1 a2 x3 x4 x5 S hA Ta0 Ta2 hm
  rw [b_X12_keepsRow_43] at hm
  exact hk2 a0 x1 a2 x3 x4 (x5 + 1) S hA (Ta0) (Ta2) hm
set_option maxHeartbeats 1000000 in
set_option maxRecDepth 100000 in
theorem fb_X12_keepsRow_49 (P : Nat → Prop) (S0 : pq_S) (hc : Clo P S0) (n : Nat) (r : Int32) (S1 : pq_S) : ∀ (x1 : Int32) (x3 : Int32) (S : pq_S), Ag P S0 S → b_X12_keepsRow_49 n x1 x3 S = some (r, S1) → Ag P S0 S1 := by
  intro x1 x3 S hA hm
  rw [b_X12_keepsRow_49] at hm
  cases hm
  exact hA
set_option maxHeartbeats 1000000 in
set_option maxRecDepth 100000 in
theorem fb_X12_keepsRow_3 (P : Nat → Prop) (S0 : pq_S) (hc : Clo P S0) (n : Nat) (r : Int32) (S1 : pq_S) : ∀ (f : Nat) (a0 : Nat) (x1 : Int32) (a2 : Nat) (x3 : Int32) (x4 : Int32) (x5 : Int32) (S : pq_S), Ag P S0 S → P a0 → P a2 → b_X12_keepsRow_3 n f a0 x1 a2 x3 x4 x5 S = some (r, S1) → Ag P S0 S1 := by
  intro f
  induction f with
  | zero =>
    intro a0 x1 a2 x3 x4 x5 S hA Ta0 Ta2 hm
    cases hm
  | succ f ih =>
    intro a0 x1 a2 x3 x4 x5 S hA Ta0 Ta2 hm
    rw [b_X12_keepsRow_3] at hm
    by_cases h1 : x3 ≤ x5
    · rw [if_pos h1] at hm
      exact fb_X12_keepsRow_49 P S0 hc n r S1 x1 x3 S hA  hm
    · rw [if_neg h1] at hm
      by_cases h2 : x4 = 0
      · rw [if_pos h2] at hm
        obtain ⟨q3, hq3, hm⟩ := bd_some hm
        have Tq3 : P q3 := hA.clo hc Ta0 hq3
        obtain ⟨hi4, hm⟩ := ck_some hm
        obtain ⟨hi5, hm⟩ := ck_some hm
        have hA : Ag P S0 (sA S a2 (Int32.toNatClampNeg x5) (pA S q3 (Int32.toNatClampNeg (x1 + x5)))) := hA.sA Ta2
        obtain ⟨S_6, eS_6, hm⟩ := lt_some hm
        have hA : Ag P S0 S_6 := by rw [eS_6]; exact hA
        exact fb_X12_keepsRow_43 P S0 hc n r S1 _ ih a0 x1 a2 x3 x4 x5 S_6 hA (Ta0) (Ta2) hm
      · rw [if_neg h2] at hm
        obtain ⟨q7, hq7, hm⟩ := bd_some hm
        have Tq7 : P q7 := hA.clo hc Ta0 hq7
        obtain ⟨hi8, hm⟩ := ck_some hm
        obtain ⟨hi9, hm⟩ := ck_some hm
        have hA : Ag P S0 (sA S q7 (Int32.toNatClampNeg (x1 + x5)) (pA S a2 (Int32.toNatClampNeg x5))) := hA.sA Tq7
        obtain ⟨S_10, eS_10, hm⟩ := lt_some hm
        have hA : Ag P S0 S_10 := by rw [eS_10]; exact hA
        exact fb_X12_keepsRow_43 P S0 hc n r S1 _ ih a0 x1 a2 x3 x4 x5 S_10 hA (Ta0) (Ta2) hm
set_option maxHeartbeats 1000000 in
set_option maxRecDepth 100000 in
theorem fr_X12_keepsRow (P : Nat → Prop) (n : Nat) (S0 : pq_S) (hc : Clo P S0) (a0 : Nat) (x1 : Int32) (a2 : Nat) (x3 : Int32) (x4 : Int32) (Ta0 : P a0) (Ta2 : P a2) (r : Int32) (S1 : pq_S) (hm : m_X12_keepsRow n a0 x1 a2 x3 x4 S0 = some (r, S1)) : Ag P S0 S1 := by
  have hA : Ag P S0 S0 := Ag.rf _ _
  rw [m_X12_keepsRow] at hm
  exact fb_X12_keepsRow_3 P S0 hc n r S1 n a0 x1 a2 x3 x4 0 S0 hA (Ta0) (Ta2) hm
set_option maxHeartbeats 1000000 in
set_option maxRecDepth 100000 in
theorem fr_X12_keepsAll (P : Nat → Prop) (n : Nat) (S0 : pq_S) (hc : Clo P S0) (a0 : Nat) (x1 : Int32) (x2 : Int32) (Ta0 : P a0) (S1 : pq_S) (hm : m_X12_keepsAll n a0 x1 x2 S0 = some S1) : Ag P S0 S1 := by
  have hA : Ag P S0 S0 := Ag.rf _ _
  rw [m_X12_keepsAll] at hm
  obtain ⟨q1, hq1, hm⟩ := bd_some hm
  have Tq1 : P q1 := hA.clo hc Ta0 hq1
  obtain ⟨r4, S_2, hq3, hm⟩ := cb_some hm
  have hA : Ag P S0 S_2 := hA.tr (fr_X12_keepsRow P n S0 (hA.cl hc) a0 ((851 : Int32) * x1) q1 50 x2 (Ta0) (Tq1) r4 S_2 hq3)
  obtain ⟨q5, hq5, hm⟩ := bd_some hm
  have Tq5 : P q5 := hA.clo hc Ta0 hq5
  obtain ⟨r8, S_6, hq7, hm⟩ := cb_some hm
  have hA : Ag P S0 S_6 := hA.tr (fr_X12_keepsRow P n S_2 (hA.cl hc) a0 r4 q5 800 x2 (Ta0) (Tq5) r8 S_6 hq7)
  by_cases h9 : x2 = 0
  · rw [if_pos h9] at hm
    obtain ⟨q10, hq10, hm⟩ := bd_some hm
    have Tq10 : P q10 := hA.clo hc Ta0 hq10
    obtain ⟨hi11, hm⟩ := ck_some hm
    have hA : Ag P S0 (sI S_6 1241 a0 (pA S_6 q10 (Int32.toNatClampNeg r8))) := hA.sI Ta0
    cases hm
    exact hA
  · rw [if_neg h9] at hm
    obtain ⟨q12, hq12, hm⟩ := bd_some hm
    have Tq12 : P q12 := hA.clo hc Ta0 hq12
    obtain ⟨hi13, hm⟩ := ck_some hm
    have hA : Ag P S0 (sA S_6 q12 (Int32.toNatClampNeg r8) (pI S_6 1241 a0)) := hA.sA Tq12
    cases hm
    exact hA
set_option maxHeartbeats 1000000 in
set_option maxRecDepth 100000 in
theorem fr_X12_image (P : Nat → Prop) (n : Nat) (S0 : pq_S) (hc : Clo P S0) (a0 : Nat) (Ta0 : P a0) (r : Int32) (S1 : pq_S) (hm : m_X12_image n a0 S0 = some (r, S1)) : Ag P S0 S1 := by
  have hA : Ag P S0 S0 := Ag.rf _ _
  rw [m_X12_image] at hm
  have hA : Ag P S0 (sI S0 1200 a0 0) := hA.sI Ta0
  by_cases h1 : (pI (sI S0 1200 a0 0) 1272 a0) = 3
  · rw [if_pos h1] at hm
    cases hm
    exact hA
  · rw [if_neg h1] at hm
    obtain ⟨S_2, hq3, hm⟩ := bd_some hm
    have hA : Ag P S0 S_2 := hA.tr (fr_X12_keepsAll P n (sI S0 1200 a0 0) (hA.cl hc) a0 (pI (sI S0 1200 a0 0) 1272 a0) 1 (Ta0)  S_2 hq3)
    have hA : Ag P S0 (sI S_2 1272 a0 ((pI S_2 1272 a0) + (1 : Int32))) := hA.sI Ta0
    cases hm
    exact hA
set_option maxHeartbeats 1000000 in
set_option maxRecDepth 100000 in
theorem fr_X12_restore (P : Nat → Prop) (n : Nat) (S0 : pq_S) (hc : Clo P S0) (a0 : Nat) (Ta0 : P a0) (r : Int32) (S1 : pq_S) (hm : m_X12_restore n a0 S0 = some (r, S1)) : Ag P S0 S1 := by
  have hA : Ag P S0 S0 := Ag.rf _ _
  rw [m_X12_restore] at hm
  have hA : Ag P S0 (sI S0 1200 a0 0) := hA.sI Ta0
  by_cases h1 : (pI (sI S0 1200 a0 0) 1272 a0) = 0
  · rw [if_pos h1] at hm
    cases hm
    exact hA
  · rw [if_neg h1] at hm
    have hA : Ag P S0 (sI (sI S0 1200 a0 0) 1272 a0 ((pI (sI S0 1200 a0 0) 1272 a0) - (1 : Int32))) := hA.sI Ta0
    obtain ⟨S_2, eS_2, hm⟩ := lt_some hm
    have hA : Ag P S0 S_2 := by rw [eS_2]; exact hA
    obtain ⟨S_3, hq4, hm⟩ := bd_some hm
    have hA : Ag P S0 S_3 := hA.tr (fr_X12_keepsAll P n S_2 (hA.cl hc) a0 (pI S_2 1272 a0) 0 (Ta0)  S_3 hq4)
    have hA : Ag P S0 (sI S_3 1242 a0 0) := hA.sI Ta0
    cases hm
    exact hA
set_option maxHeartbeats 1000000 in
set_option maxRecDepth 100000 in
theorem fr_X12_status (P : Nat → Prop) (n : Nat) (S0 : pq_S) (hc : Clo P S0) (a0 : Nat) (x1 : Int32) (Ta0 : P a0) (r : Int32) (S1 : pq_S) (hm : m_X12_status n a0 x1 S0 = some (r, S1)) : Ag P S0 S1 := by
  have hA : Ag P S0 S0 := Ag.rf _ _
  rw [m_X12_status] at hm
  have hA : Ag P S0 (sI S0 1200 a0 0) := hA.sI Ta0
  obtain ⟨r3, S_1, hq2, hm⟩ := cb_some hm
  have hA : Ag P S0 S_1 := hA.tr (fr_X12_within P n (sI S0 1200 a0 0) (hA.cl hc) x1 0 1  r3 S_1 hq2)
  by_cases h4 : r3 = 0
  · rw [if_pos h4] at hm
    cases hm
    exact hA
  · rw [if_neg h4] at hm
    obtain ⟨q5, hq5, hm⟩ := bd_some hm
    have Tq5 : P q5 := hA.clo hc Ta0 hq5
    obtain ⟨hi6, hm⟩ := ck_some hm
    cases hm
    exact hA
set_option maxHeartbeats 1000000 in
set_option maxRecDepth 100000 in
theorem fr_X12_count (P : Nat → Prop) (n : Nat) (S0 : pq_S) (hc : Clo P S0) (a0 : Nat) (x1 : Int32) (Ta0 : P a0) (r : Int32) (S1 : pq_S) (hm : m_X12_count n a0 x1 S0 = some (r, S1)) : Ag P S0 S1 := by
  have hA : Ag P S0 S0 := Ag.rf _ _
  rw [m_X12_count] at hm
  have hA : Ag P S0 (sI S0 1200 a0 0) := hA.sI Ta0
  by_cases h1 : x1 = 0
  · rw [if_pos h1] at hm
    cases hm
    exact hA
  · rw [if_neg h1] at hm
    by_cases h2 : x1 = 1
    · rw [if_pos h2] at hm
      cases hm
      exact hA
    · rw [if_neg h2] at hm
      by_cases h3 : x1 = 2
      · rw [if_pos h3] at hm
        cases hm
        exact hA
      · rw [if_neg h3] at hm
        cases hm
        exact hA
set_option maxHeartbeats 1000000 in
set_option maxRecDepth 100000 in
theorem fr_X0_clear (P : Nat → Prop) (n : Nat) (S0 : pq_S) (hc : Clo P S0) (a0 : Nat) (Ta0 : P a0) (S1 : pq_S) (hm : m_X0_clear n a0 S0 = some S1) : Ag P S0 S1 := by
  have hA : Ag P S0 S0 := Ag.rf _ _
  rw [m_X0_clear] at hm
  have hA : Ag P S0 (sI S0 1 a0 0) := hA.sI Ta0
  obtain ⟨q1, hq1, hm⟩ := bd_some hm
  have Tq1 : P q1 := hA.clo hc Ta0 hq1
  obtain ⟨S_2, hq3, hm⟩ := bd_some hm
  have hA : Ag P S0 S_2 := hA.tr (fr_J7_fill_53178 P n (sI S0 1 a0 0) (hA.cl hc) q1 (-1) (Tq1)  S_2 hq3)
  cases hm
  exact hA
set_option maxHeartbeats 1000000 in
set_option maxRecDepth 100000 in
theorem fr_X0_copyFrom (P : Nat → Prop) (n : Nat) (S0 : pq_S) (hc : Clo P S0) (a0 : Nat) (a1 : Nat) (Ta0 : P a0) (Ta1 : P a1) (S1 : pq_S) (hm : m_X0_copyFrom n a0 a1 S0 = some S1) : Ag P S0 S1 := by
  have hA : Ag P S0 S0 := Ag.rf _ _
  rw [m_X0_copyFrom] at hm
  have hA : Ag P S0 (sI S0 1 a0 (pI S0 1 a1)) := hA.sI Ta0
  obtain ⟨q1, hq1, hm⟩ := bd_some hm
  have Tq1 : P q1 := hA.clo hc Ta1 hq1
  obtain ⟨q2, hq2, hm⟩ := bd_some hm
  have Tq2 : P q2 := hA.clo hc Ta0 hq2
  obtain ⟨q3, hq3, hm⟩ := bd_some hm
  have Tq3 : P q3 := hA.clo hc Ta1 hq3
  obtain ⟨q4, hq4, hm⟩ := bd_some hm
  have Tq4 : P q4 := hA.clo hc Ta0 hq4
  obtain ⟨hc5, hm⟩ := ck_some hm
  have hA : Ag P S0 (sF (sI S0 1 a0 (pI S0 1 a1)) q2 (va_cpy (pA (sI S0 1 a0 (pI S0 1 a1)) q1) (pA (sI S0 1 a0 (pI S0 1 a1)) q2) (Int32.toNatClampNeg 0) (Int32.toNatClampNeg 0) (Int32.toNatClampNeg (if (Int32.ofNat (pN (sI S0 1 a0 (pI S0 1 a1)) q4)) < (Int32.ofNat (pN (sI S0 1 a0 (pI S0 1 a1)) q3)) then (Int32.ofNat (pN (sI S0 1 a0 (pI S0 1 a1)) q4)) else (Int32.ofNat (pN (sI S0 1 a0 (pI S0 1 a1)) q3)))))) := hA.sF Tq2
  obtain ⟨S_6, eS_6, hm⟩ := lt_some hm
  have hA : Ag P S0 S_6 := by rw [eS_6]; exact hA
  cases hm
  exact hA
set_option maxHeartbeats 1000000 in
set_option maxRecDepth 100000 in
theorem fr_X1_bitOf (P : Nat → Prop) (n : Nat) (S0 : pq_S) (hc : Clo P S0) (x0 : Int32) (x1 : Int32)  (r : Int32) (S1 : pq_S) (hm : m_X1_bitOf n x0 x1 S0 = some (r, S1)) : Ag P S0 S1 := by
  have hA : Ag P S0 S0 := Ag.rf _ _
  rw [m_X1_bitOf] at hm
  by_cases h1 : x1 < 0
  · rw [if_pos h1] at hm
    cases hm
    exact hA
  · rw [if_neg h1] at hm
    cases hm
    exact hA
set_option maxHeartbeats 1000000 in
set_option maxRecDepth 100000 in
theorem fr_X2_append (P : Nat → Prop) (n : Nat) (S0 : pq_S) (hc : Clo P S0) (a0 : Nat) (x1 : Int32) (Ta0 : P a0) (S1 : pq_S) (hm : m_X2_append n a0 x1 S0 = some S1) : Ag P S0 S1 := by
  have hA : Ag P S0 S0 := Ag.rf _ _
  rw [m_X2_append] at hm
  obtain ⟨q1, hq1, hm⟩ := bd_some hm
  have Tq1 : P q1 := hA.clo hc Ta0 hq1
  by_cases h2 : (Int32.ofNat (pN S0 q1)) ≤ (pI S0 203 a0)
  · rw [if_pos h2] at hm
    cases hm
    exact hA
  · rw [if_neg h2] at hm
    obtain ⟨q3, hq3, hm⟩ := bd_some hm
    have Tq3 : P q3 := hA.clo hc Ta0 hq3
    obtain ⟨hi4, hm⟩ := ck_some hm
    have hA : Ag P S0 (sA S0 q3 (Int32.toNatClampNeg (pI S0 203 a0)) x1) := hA.sA Tq3
    have hA : Ag P S0 (sI (sA S0 q3 (Int32.toNatClampNeg (pI S0 203 a0)) x1) 203 a0 ((pI (sA S0 q3 (Int32.toNatClampNeg (pI S0 203 a0)) x1) 203 a0) + (1 : Int32))) := hA.sI Ta0
    obtain ⟨S_5, eS_5, hm⟩ := lt_some hm
    have hA : Ag P S0 S_5 := by rw [eS_5]; exact hA
    cases hm
    exact hA
set_option maxHeartbeats 1000000 in
set_option maxRecDepth 100000 in
theorem fr_X2_copyFrom (P : Nat → Prop) (n : Nat) (S0 : pq_S) (hc : Clo P S0) (a0 : Nat) (a1 : Nat) (Ta0 : P a0) (Ta1 : P a1) (S1 : pq_S) (hm : m_X2_copyFrom n a0 a1 S0 = some S1) : Ag P S0 S1 := by
  have hA : Ag P S0 S0 := Ag.rf _ _
  rw [m_X2_copyFrom] at hm
  have hA : Ag P S0 (sI S0 203 a0 (pI S0 203 a1)) := hA.sI Ta0
  obtain ⟨q1, hq1, hm⟩ := bd_some hm
  have Tq1 : P q1 := hA.clo hc Ta1 hq1
  obtain ⟨q2, hq2, hm⟩ := bd_some hm
  have Tq2 : P q2 := hA.clo hc Ta0 hq2
  obtain ⟨q3, hq3, hm⟩ := bd_some hm
  have Tq3 : P q3 := hA.clo hc Ta1 hq3
  obtain ⟨q4, hq4, hm⟩ := bd_some hm
  have Tq4 : P q4 := hA.clo hc Ta0 hq4
  obtain ⟨hc5, hm⟩ := ck_some hm
  have hA : Ag P S0 (sF (sI S0 203 a0 (pI S0 203 a1)) q2 (va_cpy (pA (sI S0 203 a0 (pI S0 203 a1)) q1) (pA (sI S0 203 a0 (pI S0 203 a1)) q2) (Int32.toNatClampNeg 0) (Int32.toNatClampNeg 0) (Int32.toNatClampNeg (if (Int32.ofNat (pN (sI S0 203 a0 (pI S0 203 a1)) q4)) < (Int32.ofNat (pN (sI S0 203 a0 (pI S0 203 a1)) q3)) then (Int32.ofNat (pN (sI S0 203 a0 (pI S0 203 a1)) q4)) else (Int32.ofNat (pN (sI S0 203 a0 (pI S0 203 a1)) q3)))))) := hA.sF Tq2
  obtain ⟨S_6, eS_6, hm⟩ := lt_some hm
  have hA : Ag P S0 S_6 := by rw [eS_6]; exact hA
  cases hm
  exact hA
set_option maxHeartbeats 1000000 in
set_option maxRecDepth 100000 in
theorem fr_X2_isTold (P : Nat → Prop) (n : Nat) (S0 : pq_S) (hc : Clo P S0) (a0 : Nat) (Ta0 : P a0) (r : Int32) (S1 : pq_S) (hm : m_X2_isTold n a0 S0 = some (r, S1)) : Ag P S0 S1 := by
  have hA : Ag P S0 S0 := Ag.rf _ _
  rw [m_X2_isTold] at hm
  by_cases h1 : (pI S0 203 a0) ≤ 0
  · rw [if_pos h1] at hm
    cases hm
    exact hA
  · rw [if_neg h1] at hm
    cases hm
    exact hA
set_option maxHeartbeats 1000000 in
set_option maxRecDepth 100000 in
theorem fr_X2_joined (P : Nat → Prop) (n : Nat) (S0 : pq_S) (hc : Clo P S0) (x0 : Int32) (x1 : Int32) (x2 : Int32)  (r : Int32) (S1 : pq_S) (hm : m_X2_joined n x0 x1 x2 S0 = some (r, S1)) : Ag P S0 S1 := by
  have hA : Ag P S0 S0 := Ag.rf _ _
  rw [m_X2_joined] at hm
  by_cases h1 : x0 = 2000
  · rw [if_pos h1] at hm
    cases hm
    exact hA
  · rw [if_neg h1] at hm
    by_cases h2 : x0 = 2001
    · rw [if_pos h2] at hm
      cases hm
      exact hA
    · rw [if_neg h2] at hm
      by_cases h3 : x0 = 2002
      · rw [if_pos h3] at hm
        cases hm
        exact hA
      · rw [if_neg h3] at hm
        by_cases h4 : x0 = 2003
        · rw [if_pos h4] at hm
          by_cases h5 : x2 = 0
          · rw [if_pos h5] at hm
            cases hm
            exact hA
          · rw [if_neg h5] at hm
            obtain ⟨hn6, hm⟩ := ck_some hm
            cases hm
            exact hA
        · rw [if_neg h4] at hm
          by_cases h7 : x0 = 2004
          · rw [if_pos h7] at hm
            cases hm
            exact hA
          · rw [if_neg h7] at hm
            cases hm
            exact hA
set_option maxHeartbeats 1000000 in
set_option maxRecDepth 100000 in
theorem fr_X2_push (P : Nat → Prop) (n : Nat) (S0 : pq_S) (hc : Clo P S0) (a0 : Nat) (x1 : Int32) (Ta0 : P a0) (S1 : pq_S) (hm : m_X2_push n a0 x1 S0 = some S1) : Ag P S0 S1 := by
  have hA : Ag P S0 S0 := Ag.rf _ _
  rw [m_X2_push] at hm
  by_cases h1 : (pI S0 204 a0) < 0
  · rw [if_pos h1] at hm
    cases hm
    exact hA
  · rw [if_neg h1] at hm
    obtain ⟨q2, hq2, hm⟩ := bd_some hm
    have Tq2 : P q2 := hA.clo hc Ta0 hq2
    by_cases h3 : (Int32.ofNat (pN S0 q2)) ≤ (pI S0 204 a0)
    · rw [if_pos h3] at hm
      cases hm
      exact hA
    · rw [if_neg h3] at hm
      obtain ⟨q4, hq4, hm⟩ := bd_some hm
      have Tq4 : P q4 := hA.clo hc Ta0 hq4
      obtain ⟨hi5, hm⟩ := ck_some hm
      have hA : Ag P S0 (sA S0 q4 (Int32.toNatClampNeg (pI S0 204 a0)) x1) := hA.sA Tq4
      have hA : Ag P S0 (sI (sA S0 q4 (Int32.toNatClampNeg (pI S0 204 a0)) x1) 204 a0 ((pI (sA S0 q4 (Int32.toNatClampNeg (pI S0 204 a0)) x1) 204 a0) + (1 : Int32))) := hA.sI Ta0
      obtain ⟨S_6, eS_6, hm⟩ := lt_some hm
      have hA : Ag P S0 S_6 := by rw [eS_6]; exact hA
      cases hm
      exact hA
set_option maxHeartbeats 1000000 in
set_option maxRecDepth 100000 in
theorem fr_X2_pop (P : Nat → Prop) (n : Nat) (S0 : pq_S) (hc : Clo P S0) (a0 : Nat) (Ta0 : P a0) (r : Int32) (S1 : pq_S) (hm : m_X2_pop n a0 S0 = some (r, S1)) : Ag P S0 S1 := by
  have hA : Ag P S0 S0 := Ag.rf _ _
  rw [m_X2_pop] at hm
  by_cases h1 : (pI S0 204 a0) ≤ 0
  · rw [if_pos h1] at hm
    cases hm
    exact hA
  · rw [if_neg h1] at hm
    obtain ⟨q2, hq2, hm⟩ := bd_some hm
    have Tq2 : P q2 := hA.clo hc Ta0 hq2
    by_cases h3 : (pI S0 204 a0) ≤ (Int32.ofNat (pN S0 q2))
    · rw [if_pos h3] at hm
      have hA : Ag P S0 (sI S0 204 a0 ((pI S0 204 a0) - (1 : Int32))) := hA.sI Ta0
      obtain ⟨q4, hq4, hm⟩ := bd_some hm
      have Tq4 : P q4 := hA.clo hc Ta0 hq4
      obtain ⟨hi5, hm⟩ := ck_some hm
      cases hm
      exact hA
    · rw [if_neg h3] at hm
      cases hm
      exact hA
set_option maxHeartbeats 1000000 in
set_option maxRecDepth 100000 in
theorem fr_X3_worthOf (P : Nat → Prop) (n : Nat) (S0 : pq_S) (hc : Clo P S0) (x0 : Int32)  (r : Int32) (S1 : pq_S) (hm : m_X3_worthOf n x0 S0 = some (r, S1)) : Ag P S0 S1 := by
  have hA : Ag P S0 S0 := Ag.rf _ _
  rw [m_X3_worthOf] at hm
  cases hm
  exact hA
set_option maxHeartbeats 1000000 in
set_option maxRecDepth 100000 in
theorem fr_X3_bitsOf (P : Nat → Prop) (n : Nat) (S0 : pq_S) (hc : Clo P S0) (x0 : Int32)  (r : Int32) (S1 : pq_S) (hm : m_X3_bitsOf n x0 S0 = some (r, S1)) : Ag P S0 S1 := by
  have hA : Ag P S0 S0 := Ag.rf _ _
  rw [m_X3_bitsOf] at hm
  cases hm
  exact hA
set_option maxHeartbeats 1000000 in
set_option maxRecDepth 100000 in
theorem fr_X3_bestBy (P : Nat → Prop) (n : Nat) (S0 : pq_S) (hc : Clo P S0) (a0 : Nat) (x1 : Int32) (Ta0 : P a0) (r : Int32) (S1 : pq_S) (hm : m_X3_bestBy n a0 x1 S0 = some (r, S1)) : Ag P S0 S1 := by
  have hA : Ag P S0 S0 := Ag.rf _ _
  rw [m_X3_bestBy] at hm
  obtain ⟨v1, ev1, hm⟩ := lt_some hm
  by_cases h2 : v1 < 0
  · rw [if_pos h2] at hm
    cases hm
    exact hA
  · rw [if_neg h2] at hm
    obtain ⟨hi3, hm⟩ := ck_some hm
    cases hm
    exact hA
set_option maxHeartbeats 1000000 in
set_option maxRecDepth 100000 in
theorem fb_X4_nightOf_29 (P : Nat → Prop) (S0 : pq_S) (hc : Clo P S0) (n : Nat) (r : Int32) (S1 : pq_S) : ∀ (a0 : Nat) (x2 : Int32) (S : pq_S), Ag P S0 S → P a0 → b_X4_nightOf_29 n a0 x2 S = some (r, S1) → Ag P S0 S1 := by
  intro a0 x2 S hA Ta0 hm
  rw [b_X4_nightOf_29] at hm
  by_cases h7 : (pI S 406 a0) = (-1)
  · rw [if_pos h7] at hm
    cases hm
    exact hA
  · rw [if_neg h7] at hm
    obtain ⟨q8, hq8, hm⟩ := bd_some hm
    have Tq8 : P q8 := hA.clo hc Ta0 hq8
    obtain ⟨hi9, hm⟩ := ck_some hm
    cases hm
    exact hA
set_option maxHeartbeats 1000000 in
set_option maxRecDepth 100000 in
theorem fb_X4_nightOf_2 (P : Nat → Prop) (S0 : pq_S) (hc : Clo P S0) (n : Nat) (r : Int32) (S1 : pq_S) : ∀ (f : Nat) (a0 : Nat) (x1 : Int32) (x2 : Int32) (S : pq_S), Ag P S0 S → P a0 → b_X4_nightOf_2 n f a0 x1 x2 S = some (r, S1) → Ag P S0 S1 := by
  intro f
  induction f with
  | zero =>
    intro a0 x1 x2 S hA Ta0 hm
    cases hm
  | succ f ih =>
    intro a0 x1 x2 S hA Ta0 hm
    rw [b_X4_nightOf_2] at hm
    by_cases h1 : (pI S 405 a0) ≤ x2
    · rw [if_pos h1] at hm
      cases hm
      exact hA
    · rw [if_neg h1] at hm
      obtain ⟨q2, hq2, hm⟩ := bd_some hm
      have Tq2 : P q2 := hA.clo hc Ta0 hq2
      by_cases h3 : (Int32.ofNat (pN S q2)) ≤ x2
      · rw [if_pos h3] at hm
        cases hm
        exact hA
      · rw [if_neg h3] at hm
        obtain ⟨q4, hq4, hm⟩ := bd_some hm
        have Tq4 : P q4 := hA.clo hc Ta0 hq4
        obtain ⟨hi5, hm⟩ := ck_some hm
        by_cases h6 : (pA S q4 (Int32.toNatClampNeg x2)) = x1
        · rw [if_pos h6] at hm
          exact fb_X4_nightOf_29 P S0 hc n r S1 a0 x2 S hA (Ta0) hm
        · rw [if_neg h6] at hm
          exact ih a0 x1 (x2 + 1) S hA (Ta0) hm
set_option maxHeartbeats 1000000 in
set_option maxRecDepth 100000 in
theorem fr_X4_nightOf (P : Nat → Prop) (n : Nat) (S0 : pq_S) (hc : Clo P S0) (a0 : Nat) (x1 : Int32) (Ta0 : P a0) (r : Int32) (S1 : pq_S) (hm : m_X4_nightOf n a0 x1 S0 = some (r, S1)) : Ag P S0 S1 := by
  have hA : Ag P S0 S0 := Ag.rf _ _
  rw [m_X4_nightOf] at hm
  exact fb_X4_nightOf_2 P S0 hc n r S1 n a0 x1 0 S0 hA (Ta0) hm
set_option maxHeartbeats 1000000 in
set_option maxRecDepth 100000 in
theorem fr_X4_takenOf (P : Nat → Prop) (n : Nat) (S0 : pq_S) (hc : Clo P S0) (a0 : Nat) (x1 : Int32) (Ta0 : P a0) (r : Int32) (S1 : pq_S) (hm : m_X4_takenOf n a0 x1 S0 = some (r, S1)) : Ag P S0 S1 := by
  have hA : Ag P S0 S0 := Ag.rf _ _
  rw [m_X4_takenOf] at hm
  by_cases h1 : x1 < 0
  · rw [if_pos h1] at hm
    cases hm
    exact hA
  · rw [if_neg h1] at hm
    obtain ⟨q2, hq2, hm⟩ := bd_some hm
    have Tq2 : P q2 := hA.clo hc Ta0 hq2
    by_cases h3 : (Int32.ofNat (pN S0 q2)) ≤ x1
    · rw [if_pos h3] at hm
      cases hm
      exact hA
    · rw [if_neg h3] at hm
      obtain ⟨q4, hq4, hm⟩ := bd_some hm
      have Tq4 : P q4 := hA.clo hc Ta0 hq4
      obtain ⟨hi5, hm⟩ := ck_some hm
      cases hm
      exact hA
set_option maxHeartbeats 1000000 in
set_option maxRecDepth 100000 in
theorem fr_X4_take (P : Nat → Prop) (n : Nat) (S0 : pq_S) (hc : Clo P S0) (a0 : Nat) (x1 : Int32) (x2 : Int32) (Ta0 : P a0) (S1 : pq_S) (hm : m_X4_take n a0 x1 x2 S0 = some S1) : Ag P S0 S1 := by
  have hA : Ag P S0 S0 := Ag.rf _ _
  rw [m_X4_take] at hm
  by_cases h1 : x1 < 0
  · rw [if_pos h1] at hm
    cases hm
    exact hA
  · rw [if_neg h1] at hm
    obtain ⟨q2, hq2, hm⟩ := bd_some hm
    have Tq2 : P q2 := hA.clo hc Ta0 hq2
    by_cases h3 : (Int32.ofNat (pN S0 q2)) ≤ x1
    · rw [if_pos h3] at hm
      cases hm
      exact hA
    · rw [if_neg h3] at hm
      obtain ⟨q4, hq4, hm⟩ := bd_some hm
      have Tq4 : P q4 := hA.clo hc Ta0 hq4
      obtain ⟨hi5, hm⟩ := ck_some hm
      obtain ⟨hi6, hm⟩ := ck_some hm
      have hA : Ag P S0 (sA S0 q4 (Int32.toNatClampNeg x1) ((pA S0 q4 (Int32.toNatClampNeg x1)) + x2)) := hA.sA Tq4
      obtain ⟨S_7, eS_7, hm⟩ := lt_some hm
      have hA : Ag P S0 S_7 := by rw [eS_7]; exact hA
      cases hm
      exact hA
set_option maxHeartbeats 1000000 in
set_option maxRecDepth 100000 in
theorem fb_X4_putIn_52 (P : Nat → Prop) (S0 : pq_S) (hc : Clo P S0) (n : Nat) (r : Int32) (S1 : pq_S) : ∀ (a0 : Nat) (x2 : Int32) (x5 : Int32) (S : pq_S), Ag P S0 S → P a0 → b_X4_putIn_52 n a0 x2 x5 S = some (r, S1) → Ag P S0 S1 := by
  intro a0 x2 x5 S hA Ta0 hm
  rw [b_X4_putIn_52] at hm
  obtain ⟨r10, S_8, hq9, hm⟩ := cb_some hm
  have hA : Ag P S0 S_8 := hA.tr (fr_X4_takenOf P n S (hA.cl hc) a0 x5 (Ta0) r10 S_8 hq9)
  cases hm
  exact hA
set_option maxHeartbeats 1000000 in
set_option maxRecDepth 100000 in
theorem fb_X4_putIn_33 (P : Nat → Prop) (S0 : pq_S) (hc : Clo P S0) (n : Nat) (r : Int32) (S1 : pq_S) : ∀ (f : Nat) (a0 : Nat) (x2 : Int32) (x3 : Int32) (x4 : Int32) (x5 : Int32) (S : pq_S), Ag P S0 S → P a0 → b_X4_putIn_33 n f a0 x2 x3 x4 x5 S = some (r, S1) → Ag P S0 S1 := by
  intro f
  induction f with
  | zero =>
    intro a0 x2 x3 x4 x5 S hA Ta0 hm
    cases hm
  | succ f ih =>
    intro a0 x2 x3 x4 x5 S hA Ta0 hm
    rw [b_X4_putIn_33] at hm
    by_cases h3 : x4 ≤ x5
    · rw [if_pos h3] at hm
      cases hm
      exact hA
    · rw [if_neg h3] at hm
      obtain ⟨r6, S_4, hq5, hm⟩ := cb_some hm
      have hA : Ag P S0 S_4 := hA.tr (fr_X4_takenOf P n S (hA.cl hc) a0 x5 (Ta0) r6 S_4 hq5)
      by_cases h7 : x3 < (r6 + x2)
      · rw [if_pos h7] at hm
        exact ih a0 x2 x3 x4 (x5 + 1) S_4 hA (Ta0) hm
      · rw [if_neg h7] at hm
        exact fb_X4_putIn_52 P S0 hc n r S1 a0 x2 x5 S_4 hA (Ta0) hm
set_option maxHeartbeats 1000000 in
set_option maxRecDepth 100000 in
theorem fr_X4_putIn (P : Nat → Prop) (n : Nat) (S0 : pq_S) (hc : Clo P S0) (a0 : Nat) (x1 : Int32) (x2 : Int32) (x3 : Int32) (x4 : Int32) (Ta0 : P a0) (r : Int32) (S1 : pq_S) (hm : m_X4_putIn n a0 x1 x2 x3 x4 S0 = some (r, S1)) : Ag P S0 S1 := by
  have hA : Ag P S0 S0 := Ag.rf _ _
  rw [m_X4_putIn] at hm
  by_cases h1 : x1 < 1024
  · rw [if_pos h1] at hm
    by_cases h2 : x3 < ((x1 - x1 / 32 * 32) + x2)
    · rw [if_pos h2] at hm
      exact fb_X4_putIn_33 P S0 hc n r S1 n a0 x2 x3 x4 ((x1 / 32) + (1 : Int32)) S0 hA (Ta0) hm
    · rw [if_neg h2] at hm
      cases hm
      exact hA
  · rw [if_neg h1] at hm
    cases hm
    exact hA
set_option maxHeartbeats 1000000 in
set_option maxRecDepth 100000 in
theorem fr_X6_keepAnswer (P : Nat → Prop) (n : Nat) (S0 : pq_S) (hc : Clo P S0) (a0 : Nat) (x1 : Int32) (Ta0 : P a0) (S1 : pq_S) (hm : m_X6_keepAnswer n a0 x1 S0 = some S1) : Ag P S0 S1 := by
  have hA : Ag P S0 S0 := Ag.rf _ _
  rw [m_X6_keepAnswer] at hm
  by_cases h1 : x1 = 0
  · rw [if_pos h1] at hm
    have hA : Ag P S0 (sI S0 603 a0 ((pI S0 603 a0) + (1 : Int32))) := hA.sI Ta0
    cases hm
    exact hA
  · rw [if_neg h1] at hm
    have hA : Ag P S0 (sI S0 602 a0 ((pI S0 602 a0) + (1 : Int32))) := hA.sI Ta0
    cases hm
    exact hA
set_option maxHeartbeats 1000000 in
set_option maxRecDepth 100000 in
theorem fr_X7_leaking (P : Nat → Prop) (n : Nat) (S0 : pq_S) (hc : Clo P S0) (a0 : Nat) (x1 : Int32) (Ta0 : P a0) (r : Int32) (S1 : pq_S) (hm : m_X7_leaking n a0 x1 S0 = some (r, S1)) : Ag P S0 S1 := by
  have hA : Ag P S0 S0 := Ag.rf _ _
  rw [m_X7_leaking] at hm
  obtain ⟨q1, hq1, hm⟩ := bd_some hm
  have Tq1 : P q1 := hA.clo hc Ta0 hq1
  cases hm
  exact hA
set_option maxHeartbeats 1000000 in
set_option maxRecDepth 100000 in
theorem fr_X9_has (P : Nat → Prop) (n : Nat) (S0 : pq_S) (hc : Clo P S0) (a0 : Nat) (x1 : Int32) (Ta0 : P a0) (r : Int32) (S1 : pq_S) (hm : m_X9_has n a0 x1 S0 = some (r, S1)) : Ag P S0 S1 := by
  have hA : Ag P S0 S0 := Ag.rf _ _
  rw [m_X9_has] at hm
  by_cases h1 : x1 < 0
  · rw [if_pos h1] at hm
    cases hm
    exact hA
  · rw [if_neg h1] at hm
    by_cases h2 : (pI S0 902 a0) ≤ x1
    · rw [if_pos h2] at hm
      cases hm
      exact hA
    · rw [if_neg h2] at hm
      cases hm
      exact hA
set_option maxHeartbeats 1000000 in
set_option maxRecDepth 100000 in
theorem fr_X9_isFull (P : Nat → Prop) (n : Nat) (S0 : pq_S) (hc : Clo P S0) (a0 : Nat) (Ta0 : P a0) (r : Int32) (S1 : pq_S) (hm : m_X9_isFull n a0 S0 = some (r, S1)) : Ag P S0 S1 := by
  have hA : Ag P S0 S0 := Ag.rf _ _
  rw [m_X9_isFull] at hm
  obtain ⟨q1, hq1, hm⟩ := bd_some hm
  have Tq1 : P q1 := hA.clo hc Ta0 hq1
  by_cases h2 : (((pI S0 902 a0) + (1 : Int32)) * (pI S0 901 a0)) ≤ (Int32.ofNat (pN S0 q1))
  · rw [if_pos h2] at hm
    cases hm
    exact hA
  · rw [if_neg h2] at hm
    cases hm
    exact hA
