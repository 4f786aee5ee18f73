/-- S1 is S but for what lies at the addresses P: same things, same references -/
def Ag (P : Nat → Prop) (S T : pq_S) : Prop := (pL T = pL S ∧ pK T = pK S ∧ pN T = pN S ∧ pR T = pR S ∧ pQ T = pQ S) ∧ (∀ f a, ¬ P a → pI T f a = pI S f a) ∧ ∀ a i, ¬ P a → pA T a i = pA S a i
def Clo (P : Nat → Prop) (S : pq_S) : Prop := (∀ f a b, P a → pR S f a = some b → P b) ∧ ∀ a i b, P a → pQ S a i = some b → P b
theorem Ag.rf (P : Nat → Prop) (S : pq_S) : Ag P S S := ⟨⟨rfl, rfl, rfl, rfl, rfl⟩, fun _ _ _ => rfl, fun _ _ _ => rfl⟩
theorem Ag.tr {P : Nat → Prop} {S T U : pq_S} (h : Ag P S T) (k : Ag P T U) : Ag P S U := ⟨⟨k.1.1.trans h.1.1, k.1.2.1.trans h.1.2.1, k.1.2.2.1.trans h.1.2.2.1, k.1.2.2.2.1.trans h.1.2.2.2.1, k.1.2.2.2.2.trans h.1.2.2.2.2⟩, fun f a ha => (k.2.1 f a ha).trans (h.2.1 f a ha), fun a i ha => (k.2.2 a i ha).trans (h.2.2 a i ha)⟩
theorem Ag.sI {P : Nat → Prop} {S T : pq_S} (h : Ag P S T) {f a : Nat} {v : Int32} (ha : P a) : Ag P S (sI T f a v) := h.tr ⟨⟨rfl, rfl, rfl, rfl, rfl⟩, fun f1 a1 h1 => by
  show (if f1 = f ∧ a1 = a then v else pI T f1 a1) = _
  rw [if_neg (fun q => h1 (by rw [q.2]; exact ha))], fun _ _ _ => rfl⟩
theorem Ag.sA {P : Nat → Prop} {S T : pq_S} (h : Ag P S T) {a i : Nat} {v : Int32} (ha : P a) : Ag P S (sA T a i v) := h.tr ⟨⟨rfl, rfl, rfl, rfl, rfl⟩, fun _ _ _ => rfl, fun a1 i1 h1 => by
  show (if a1 = a ∧ i1 = i then v else pA T a1 i1) = _
  rw [if_neg (fun q => h1 (by rw [q.1]; exact ha))]⟩
theorem Ag.sF {P : Nat → Prop} {S T : pq_S} (h : Ag P S T) {a : Nat} {g : Nat → Int32} (ha : P a) : Ag P S (sF T a g) := h.tr ⟨⟨rfl, rfl, rfl, rfl, rfl⟩, fun _ _ _ => rfl, fun a1 i1 h1 => by
  show (if a1 = a then g i1 else pA T a1 i1) = _
  rw [if_neg (fun q => h1 (by rw [q]; exact ha))]⟩
theorem Ag.clo {P : Nat → Prop} {S T : pq_S} (h : Ag P S T) (hc : Clo P S) {f a b : Nat} (ha : P a) (hq : pR T f a = some b) : P b := hc.1 f a b ha (by rw [← h.1.2.2.2.1]; exact hq)
theorem Ag.cloQ {P : Nat → Prop} {S T : pq_S} (h : Ag P S T) (hc : Clo P S) {a i b : Nat} (ha : P a) (hq : pQ T a i = some b) : P b := hc.2 a i b ha (by rw [← h.1.2.2.2.2]; exact hq)
theorem Ag.cl {P : Nat → Prop} {S T : pq_S} (h : Ag P S T) (hc : Clo P S) : Clo P T := ⟨fun f a b ha hq => h.clo hc ha hq, fun a i b ha hq => h.cloQ hc ha hq⟩
set_option maxHeartbeats 1000000 in
set_option maxRecDepth 100000 in
theorem fb_J7_fill_53178_5 (P : Nat → Prop) (S0 : pq_S) (hc : Clo P S0) (n : Nat) (S1 : pq_S) : ∀ (f : Nat) (a0 : Nat) (x1 : Int32) (x2 : Int32) (x3 : Int32) (S : pq_S), Ag P S0 S → P a0 → b_J7_fill_53178_5 n f a0 x1 x2 x3 S = some S1 → Ag P S0 S1 := by
  intro f
  induction f with
  | zero =>
    intro a0 x1 x2 x3 S hA Ta0 hm
    cases hm
  | succ f ih =>
    intro a0 x1 x2 x3 S hA Ta0 hm
    rw [b_J7_fill_53178_5] at hm
    by_cases h1 : x3 ≤ x2
    · rw [if_pos h1] at hm
      cases hm
      exact hA
    · rw [if_neg h1] at hm
      obtain ⟨hi2, hm⟩ := ck_some hm
      have hA : Ag P S0 (sA S a0 (Int32.toNatClampNeg x2) x1) := hA.sA Ta0
      exact ih a0 x1 (x2 + 1) x3 (sA S a0 (Int32.toNatClampNeg x2) x1) hA (Ta0) hm
set_option maxHeartbeats 1000000 in
set_option maxRecDepth 100000 in
theorem fr_J7_fill_53178 (P : Nat → Prop) (n : Nat) (S0 : pq_S) (hc : Clo P S0) (a0 : Nat) (x1 : Int32) (Ta0 : P a0) (S1 : pq_S) (hm : m_J7_fill_53178 n a0 x1 S0 = some S1) : Ag P S0 S1 := by
  have hA : Ag P S0 S0 := Ag.rf _ _
  rw [m_J7_fill_53178] at hm
  exact fb_J7_fill_53178_5 P S0 hc n S1 n a0 x1 0 (Int32.ofNat (pN S0 a0)) S0 hA (Ta0) hm
set_option maxHeartbeats 1000000 in
set_option maxRecDepth 100000 in
theorem fr_X11_fault (P : Nat → Prop) (n : Nat) (S0 : pq_S) (hc : Clo P S0) (a0 : Nat) (Ta0 : P a0) (r : Int32) (S1 : pq_S) (hm : m_X11_fault n a0 S0 = some (r, S1)) : Ag P S0 S1 := by
  have hA : Ag P S0 S0 := Ag.rf _ _
  rw [m_X11_fault] at hm
  cases hm
  exact hA
set_option maxHeartbeats 1000000 in
set_option maxRecDepth 100000 in
theorem fr_X11_status (P : Nat → Prop) (n : Nat) (S0 : pq_S) (hc : Clo P S0) (a0 : Nat) (x1 : Int32) (Ta0 : P a0) (r : Int32) (S1 : pq_S) (hm : m_X11_status n a0 x1 S0 = some (r, S1)) : Ag P S0 S1 := by
  have hA : Ag P S0 S0 := Ag.rf _ _
  rw [m_X11_status] at hm
  by_cases h1 : x1 = 0
  · rw [if_pos h1] at hm
    cases hm
    exact hA
  · rw [if_neg h1] at hm
    by_cases h2 : x1 = 1
    · rw [if_pos h2] at hm
      cases hm
      exact hA
    · rw [if_neg h2] at hm
      cases hm
      exact hA
set_option maxHeartbeats 1000000 in
set_option maxRecDepth 100000 in
theorem fr_X11_count (P : Nat → Prop) (n : Nat) (S0 : pq_S) (hc : Clo P S0) (a0 : Nat) (x1 : Int32) (Ta0 : P a0) (r : Int32) (S1 : pq_S) (hm : m_X11_count n a0 x1 S0 = some (r, S1)) : Ag P S0 S1 := by
  have hA : Ag P S0 S0 := Ag.rf _ _
  rw [m_X11_count] at hm
  by_cases h1 : x1 = 0
  · rw [if_pos h1] at hm
    cases hm
    exact hA
  · rw [if_neg h1] at hm
    by_cases h2 : x1 = 1
    · rw [if_pos h2] at hm
      obtain ⟨q3, hq3, hm⟩ := bd_some hm
      have Tq3 : P q3 := hA.clo hc Ta0 hq3
      cases hm
      exact hA
    · rw [if_neg h2] at hm
      by_cases h4 : x1 = 2
      · rw [if_pos h4] at hm
        obtain ⟨q5, hq5, hm⟩ := bd_some hm
        have Tq5 : P q5 := hA.clo hc Ta0 hq5
        cases hm
        exact hA
      · rw [if_neg h4] at hm
        cases hm
        exact hA
set_option maxHeartbeats 1000000 in
set_option maxRecDepth 100000 in
theorem fr_X11_isWithin (P : Nat → Prop) (n : Nat) (S0 : pq_S) (hc : Clo P S0) (x0 : Int32) (x1 : Int32) (x2 : Int32)  (r : Int32) (S1 : pq_S) (hm : m_X11_isWithin n x0 x1 x2 S0 = some (r, S1)) : Ag P S0 S1 := by
  have hA : Ag P S0 S0 := Ag.rf _ _
  rw [m_X11_isWithin] at hm
  by_cases h1 : x0 < x1
  · rw [if_pos h1] at hm
    cases hm
    exact hA
  · rw [if_neg h1] at hm
    by_cases h2 : x2 < x0
    · rw [if_pos h2] at hm
      cases hm
      exact hA
    · rw [if_neg h2] at hm
      cases hm
      exact hA
set_option maxHeartbeats 1000000 in
set_option maxRecDepth 100000 in
theorem fr_X11_isDay (P : Nat → Prop) (n : Nat) (S0 : pq_S) (hc : Clo P S0) (x0 : Int32)  (r : Int32) (S1 : pq_S) (hm : m_X11_isDay n x0 S0 = some (r, S1)) : Ag P S0 S1 := by
  have hA : Ag P S0 S0 := Ag.rf _ _
  rw [m_X11_isDay] at hm
  obtain ⟨r3, S_1, hq2, hm⟩ := cb_some hm
  have hA : Ag P S0 S_1 := hA.tr (fr_X11_isWithin P n S0 (hA.cl hc) x0 0 9999  r3 S_1 hq2)
  cases hm
  exact hA
set_option maxHeartbeats 1000000 in
set_option maxRecDepth 100000 in
theorem fr_X11_isCloudSpan (P : Nat → Prop) (n : Nat) (S0 : pq_S) (hc : Clo P S0) (x0 : Int32) (x1 : Int32) (x2 : Int32)  (r : Int32) (S1 : pq_S) (hm : m_X11_isCloudSpan n x0 x1 x2 S0 = some (r, S1)) : Ag P S0 S1 := by
  have hA : Ag P S0 S0 := Ag.rf _ _
  rw [m_X11_isCloudSpan] at hm
  obtain ⟨r3, S_1, hq2, hm⟩ := cb_some hm
  have hA : Ag P S0 S_1 := hA.tr (fr_X11_isWithin P n S0 (hA.cl hc) x0 0 16  r3 S_1 hq2)
  by_cases h4 : r3 = 0
  · rw [if_pos h4] at hm
    cases hm
    exact hA
  · rw [if_neg h4] at hm
    obtain ⟨r7, S_5, hq6, hm⟩ := cb_some hm
    have hA : Ag P S0 S_5 := hA.tr (fr_X11_isDay P n S_1 (hA.cl hc) x1  r7 S_5 hq6)
    by_cases h8 : r7 = 0
    · rw [if_pos h8] at hm
      cases hm
      exact hA
    · rw [if_neg h8] at hm
      obtain ⟨r11, S_9, hq10, hm⟩ := cb_some hm
      have hA : Ag P S0 S_9 := hA.tr (fr_X11_isWithin P n S_5 (hA.cl hc) x2 1 60  r11 S_9 hq10)
      by_cases h12 : r11 = 0
      · rw [if_pos h12] at hm
        cases hm
        exact hA
      · rw [if_neg h12] at hm
        cases hm
        exact hA
set_option maxHeartbeats 1000000 in
set_option maxRecDepth 100000 in
theorem fr_X11_isText (P : Nat → Prop) (n : Nat) (S0 : pq_S) (hc : Clo P S0) (a0 : Nat) (x1 : Int32) (x2 : Int32) (Ta0 : P a0) (r : Int32) (S1 : pq_S) (hm : m_X11_isText n a0 x1 x2 S0 = some (r, S1)) : Ag P S0 S1 := by
  have hA : Ag P S0 S0 := Ag.rf _ _
  rw [m_X11_isText] at hm
  obtain ⟨r3, S_1, hq2, hm⟩ := cb_some hm
  have hA : Ag P S0 S_1 := hA.tr (fr_X11_isWithin P n S0 (hA.cl hc) x1 0 x2  r3 S_1 hq2)
  by_cases h4 : r3 = 0
  · rw [if_pos h4] at hm
    cases hm
    exact hA
  · rw [if_neg h4] at hm
    obtain ⟨q5, hq5, hm⟩ := bd_some hm
    have Tq5 : P q5 := hA.clo hc Ta0 hq5
    by_cases h6 : (pI S_1 1001 q5) < x1
    · rw [if_pos h6] at hm
      cases hm
      exact hA
    · rw [if_neg h6] at hm
      cases hm
      exact hA
set_option maxHeartbeats 1000000 in
set_option maxRecDepth 100000 in
theorem fb_X11_endText_22 (P : Nat → Prop) (S0 : pq_S) (hc : Clo P S0) (n : Nat) (r : Int32) (S1 : pq_S) : ∀ (a0 : Nat) (b0 : Nat) (z1 : Int32) (S : pq_S), Ag P S0 S → P a0 → P b0 → b_X11_endText_22 n a0 b0 z1 S = some (r, S1) → Ag P S0 S1 := by
  intro a0 b0 z1 S hA Ta0 Tb0 hm
  rw [b_X11_endText_22] at hm
  have hA : Ag P S0 (sI S 1113 b0 z1) := hA.sI Tb0
  obtain ⟨q4, hq4, hm⟩ := bd_some hm
  have Tq4 : P q4 := hA.clo hc Ta0 hq4
  have hA : Ag P S0 (sI (sI S 1113 b0 z1) 1001 q4 0) := hA.sI Tq4
  obtain ⟨q5, hq5, hm⟩ := bd_some hm
  have Tq5 : P q5 := hA.clo hc Ta0 hq5
  by_cases h6 : (pI (sI (sI S 1113 b0 z1) 1001 q4 0) 1005 q5) = 0
  · rw [if_pos h6] at hm
    cases hm
    exact hA
  · rw [if_neg h6] at hm
    obtain ⟨q7, hq7, hm⟩ := bd_some hm
    have Tq7 : P q7 := hA.clo hc Ta0 hq7
    cases hm
    exact hA
set_option maxHeartbeats 1000000 in
set_option maxRecDepth 100000 in
theorem fr_X11_endText (P : Nat → Prop) (n : Nat) (S0 : pq_S) (hc : Clo P S0) (a0 : Nat) (Ta0 : P a0) (r : Int32) (S1 : pq_S) (hm : m_X11_endText n a0 S0 = some (r, S1)) : Ag P S0 S1 := by
  have hA : Ag P S0 S0 := Ag.rf _ _
  rw [m_X11_endText] at hm
  obtain ⟨q1, hq1, hm⟩ := bd_some hm
  have Tq1 : P q1 := hA.clo hc Ta0 hq1
  by_cases h2 : (pI S0 1005 q1) = 0
  · rw [if_pos h2] at hm
    exact fb_X11_endText_22 P S0 hc n r S1 a0 a0 (-1) S0 hA (Ta0) (Ta0) hm
  · rw [if_neg h2] at hm
    obtain ⟨q3, hq3, hm⟩ := bd_some hm
    have Tq3 : P q3 := hA.clo hc Ta0 hq3
    exact fb_X11_endText_22 P S0 hc n r S1 a0 a0 (pI S0 1006 q3) S0 hA (Ta0) (Ta0) hm
set_option maxHeartbeats 1000000 in
set_option maxRecDepth 100000 in
theorem fr_X11_isOption (P : Nat → Prop) (n : Nat) (S0 : pq_S) (hc : Clo P S0) (x0 : Int32) (x1 : Int32) (x2 : Int32) (x3 : Int32) (x4 : Int32) (x5 : Int32)  (r : Int32) (S1 : pq_S) (hm : m_X11_isOption n x0 x1 x2 x3 x4 x5 S0 = some (r, S1)) : Ag P S0 S1 := by
  have hA : Ag P S0 S0 := Ag.rf _ _
  rw [m_X11_isOption] at hm
  obtain ⟨r3, S_1, hq2, hm⟩ := cb_some hm
  have hA : Ag P S0 S_1 := hA.tr (fr_X11_isWithin P n S0 (hA.cl hc) x0 0 999  r3 S_1 hq2)
  by_cases h4 : r3 = 0
  · rw [if_pos h4] at hm
    cases hm
    exact hA
  · rw [if_neg h4] at hm
    obtain ⟨r7, S_5, hq6, hm⟩ := cb_some hm
    have hA : Ag P S0 S_5 := hA.tr (fr_X11_isWithin P n S_1 (hA.cl hc) x1 0 99  r7 S_5 hq6)
    by_cases h8 : r7 = 0
    · rw [if_pos h8] at hm
      cases hm
      exact hA
    · rw [if_neg h8] at hm
      obtain ⟨r11, S_9, hq10, hm⟩ := cb_some hm
      have hA : Ag P S0 S_9 := hA.tr (fr_X11_isWithin P n S_5 (hA.cl hc) x2 0 99  r11 S_9 hq10)
      by_cases h12 : r11 = 0
      · rw [if_pos h12] at hm
        cases hm
        exact hA
      · rw [if_neg h12] at hm
        obtain ⟨r15, S_13, hq14, hm⟩ := cb_some hm
        have hA : Ag P S0 S_13 := hA.tr (fr_X11_isWithin P n S_9 (hA.cl hc) x3 0 16  r15 S_13 hq14)
        by_cases h16 : r15 = 0
        · rw [if_pos h16] at hm
          cases hm
          exact hA
        · rw [if_neg h16] at hm
          obtain ⟨r19, S_17, hq18, hm⟩ := cb_some hm
          have hA : Ag P S0 S_17 := hA.tr (fr_X11_isWithin P n S_13 (hA.cl hc) x4 0 999  r19 S_17 hq18)
          by_cases h20 : r19 = 0
          · rw [if_pos h20] at hm
            cases hm
            exact hA
          · rw [if_neg h20] at hm
            obtain ⟨r23, S_21, hq22, hm⟩ := cb_some hm
            have hA : Ag P S0 S_21 := hA.tr (fr_X11_isWithin P n S_17 (hA.cl hc) x5 0 6  r23 S_21 hq22)
            by_cases h24 : r23 = 0
            · rw [if_pos h24] at hm
              cases hm
              exact hA
            · rw [if_neg h24] at hm
              cases hm
              exact hA
set_option maxHeartbeats 1000000 in
set_option maxRecDepth 100000 in
theorem fr_X11_scale (P : Nat → Prop) (n : Nat) (S0 : pq_S) (hc : Clo P S0) (x0 : Int32)  (r : Int64) (S1 : pq_S) (hm : m_X11_scale n x0 S0 = some (r, S1)) : Ag P S0 S1 := by
  have hA : Ag P S0 S0 := Ag.rf _ _
  rw [m_X11_scale] at hm
  cases hm
  exact hA
set_option maxHeartbeats 1000000 in
set_option maxRecDepth 100000 in
theorem fb_X11_partOfFraction_53 (P : Nat → Prop) (S0 : pq_S) (hc : Clo P S0) (n : Nat) (r : Int64) (S1 : pq_S) : ∀ (x3 : Int32) (x4 : Int64) (x6 : Int64) (S : pq_S), Ag P S0 S → b_X11_partOfFraction_53 n x3 x4 x6 S = some (r, S1) → Ag P S0 S1 := by
  intro x3 x4 x6 S hA hm
  rw [b_X11_partOfFraction_53] at hm
  by_cases h6 : x3 = 0
  · rw [if_pos h6] at hm
    cases hm
    exact hA
  · rw [if_neg h6] at hm
    cases hm
    exact hA
set_option maxHeartbeats 1000000 in
set_option maxRecDepth 100000 in
theorem fb_X11_partOfFraction_12 (P : Nat → Prop) (S0 : pq_S) (hc : Clo P S0) (n : Nat) (r : Int64) (S1 : pq_S) : ∀ (f : Nat) (x2 : Int32) (x3 : Int32) (x4 : Int64) (x6 : Int64) (x8 : Int32) (S : pq_S), Ag P S0 S → b_X11_partOfFraction_12 n f x2 x3 x4 x6 x8 S = some (r, S1) → Ag P S0 S1 := by
  intro f
  induction f with
  | zero =>
    intro x2 x3 x4 x6 x8 S hA hm
    cases hm
  | succ f ih =>
    intro x2 x3 x4 x6 x8 S hA hm
    rw [b_X11_partOfFraction_12] at hm
    by_cases h4 : ((4 : Int32) * x2) ≤ x8
    · rw [if_pos h4] at hm
      exact fb_X11_partOfFraction_53 P S0 hc n r S1 x3 x4 x6 S hA  hm
    · rw [if_neg h4] at hm
      by_cases h5 : (lg_cmp (x4 - x4 / 2 * 2) 0) = 0
      · rw [if_pos h5] at hm
        exact ih x2 x3 (x4 / 2) (x6 / 2) (x8 + 1) S hA  hm
      · rw [if_neg h5] at hm
        exact fb_X11_partOfFraction_53 P S0 hc n r S1 x3 x4 x6 S hA  hm
set_option maxHeartbeats 1000000 in
set_option maxRecDepth 100000 in
theorem fr_X11_partOfFraction (P : Nat → Prop) (n : Nat) (S0 : pq_S) (hc : Clo P S0) (x0 : Int64) (x2 : Int32) (x3 : Int32)  (r : Int64) (S1 : pq_S) (hm : m_X11_partOfFraction n x0 x2 x3 S0 = some (r, S1)) : Ag P S0 S1 := by
  have hA : Ag P S0 S0 := Ag.rf _ _
  rw [m_X11_partOfFraction] at hm
  obtain ⟨r3, S_1, hq2, hm⟩ := cb_some hm
  have hA : Ag P S0 S_1 := hA.tr (fr_X11_scale P n S0 (hA.cl hc) x2  r3 S_1 hq2)
  exact fb_X11_partOfFraction_12 P S0 hc n r S1 n x2 x3 x0 r3 0 S_1 hA  hm
set_option maxHeartbeats 1000000 in
set_option maxRecDepth 100000 in
theorem fr_X11_looksBehind (P : Nat → Prop) (n : Nat) (S0 : pq_S) (hc : Clo P S0) (a0 : Nat) (x1 : Int32) (x2 : Int32) (Ta0 : P a0) (r : Int32) (S1 : pq_S) (hm : m_X11_looksBehind n a0 x1 x2 S0 = some (r, S1)) : Ag P S0 S1 := by
  have hA : Ag P S0 S0 := Ag.rf _ _
  rw [m_X11_looksBehind] at hm
  by_cases h1 : x2 ≤ 0
  · rw [if_pos h1] at hm
    cases hm
    exact hA
  · rw [if_neg h1] at hm
    by_cases h2 : x1 ≤ x2
    · rw [if_pos h2] at hm
      cases hm
      exact hA
    · rw [if_neg h2] at hm
      obtain ⟨q3, hq3, hm⟩ := bd_some hm
      have Tq3 : P q3 := hA.clo hc Ta0 hq3
      by_cases h4 : (Int32.ofNat (pN S0 q3)) ≤ x1
      · rw [if_pos h4] at hm
        cases hm
        exact hA
      · rw [if_neg h4] at hm
        obtain ⟨q5, hq5, hm⟩ := bd_some hm
        have Tq5 : P q5 := hA.clo hc Ta0 hq5
        obtain ⟨hi6, hm⟩ := ck_some hm
        obtain ⟨q7, hq7, hm⟩ := bd_some hm
        have Tq7 : P q7 := hA.clo hc Ta0 hq7
        obtain ⟨hi8, hm⟩ := ck_some hm
        cases hm
        exact hA
set_option maxHeartbeats 1000000 in
set_option maxRecDepth 100000 in
theorem fr_X12_thrown (P : Nat → Prop) (n : Nat) (S0 : pq_S) (hc : Clo P S0) (a0 : Nat) (Ta0 : P a0) (r : Int32) (S1 : pq_S) (hm : m_X12_thrown n a0 S0 = some (r, S1)) : Ag P S0 S1 := by
  have hA : Ag P S0 S0 := Ag.rf _ _
  rw [m_X12_thrown] at hm
  cases hm
  exact hA
set_option maxHeartbeats 1000000 in
set_option maxRecDepth 100000 in
theorem fb_X12_may_26 (P : Nat → Prop) (S0 : pq_S) (hc : Clo P S0) (n : Nat) (r : Int32) (S1 : pq_S) : ∀ (a0 : Nat) (S : pq_S), Ag P S0 S → P a0 → b_X12_may_26 n a0 S = some (r, S1) → Ag P S0 S1 := by
  intro a0 S hA Ta0 hm
  rw [b_X12_may_26] at hm
  by_cases h7 : (pI S 1200 a0) = 0
  · rw [if_pos h7] at hm
    cases hm
    exact hA
  · rw [if_neg h7] at hm
    cases hm
    exact hA
set_option maxHeartbeats 1000000 in
set_option maxRecDepth 100000 in
theorem fr_X12_may (P : Nat → Prop) (n : Nat) (S0 : pq_S) (hc : Clo P S0) (a0 : Nat) (x1 : Int32) (x2 : Int32) (x3 : Int32) (Ta0 : P a0) (r : Int32) (S1 : pq_S) (hm : m_X12_may n a0 x1 x2 x3 S0 = some (r, S1)) : Ag P S0 S1 := by
  have hA : Ag P S0 S0 := Ag.rf _ _
  rw [m_X12_may] at hm
  by_cases h1 : x1 = 0
  · rw [if_pos h1] at hm
    by_cases h2 : (pI S0 1200 a0) = 0
    · rw [if_pos h2] at hm
      have hA : Ag P S0 (sI S0 1200 a0 x2) := hA.sI Ta0
      obtain ⟨q3, hq3, hm⟩ := bd_some hm
      have Tq3 : P q3 := hA.clo hc Ta0 hq3
      obtain ⟨hi4, hm⟩ := ck_some hm
      obtain ⟨hi5, hm⟩ := ck_some hm
      have hA : Ag P S0 (sA (sI S0 1200 a0 x2) q3 (Int32.toNatClampNeg x3) ((pA (sI S0 1200 a0 x2) q3 (Int32.toNatClampNeg x3)) + (1 : Int32))) := hA.sA Tq3
      obtain ⟨S_6, eS_6, hm⟩ := lt_some hm
      have hA : Ag P S0 S_6 := by rw [eS_6]; exact hA
      exact fb_X12_may_26 P S0 hc n r S1 a0 S_6 hA (Ta0) hm
    · rw [if_neg h2] at hm
      exact fb_X12_may_26 P S0 hc n r S1 a0 S0 hA (Ta0) hm
  · rw [if_neg h1] at hm
    exact fb_X12_may_26 P S0 hc n r S1 a0 S0 hA (Ta0) hm
set_option maxHeartbeats 1000000 in
set_option maxRecDepth 100000 in
theorem fr_X12_within (P : Nat → Prop) (n : Nat) (S0 : pq_S) (hc : Clo P S0) (x0 : Int32) (x1 : Int32) (x2 : Int32)  (r : Int32) (S1 : pq_S) (hm : m_X12_within n x0 x1 x2 S0 = some (r, S1)) : Ag P S0 S1 := by
  have hA : Ag P S0 S0 := Ag.rf _ _
  rw [m_X12_within] at hm
  by_cases h1 : x0 < x1
  · rw [if_pos h1] at hm
    cases hm
    exact hA
  · rw [if_neg h1] at hm
    by_cases h2 : x2 < x0
    · rw [if_pos h2] at hm
      cases hm
      exact hA
    · rw [if_neg h2] at hm
      cases hm
      exact hA
set_option maxHeartbeats 1000000 in
set_option maxRecDepth 100000 in
theorem fb_X12_feed_76 (P : Nat → Prop) (S0 : pq_S) (hc : Clo P S0) (n : Nat) (r : Int32) (S1 : pq_S) (k13 : Nat → Int32 → Int32 → Int32 → Int32 → Int32 → Int32 → pq_S → Option (Int32 × pq_S)) (hk13 : ∀ (a0 : Nat) (x1 : Int32) (x2 : Int32) (x3 : Int32) (x4 : Int32) (x5 : Int32) (x6 : Int32) (S : pq_S), Ag P S0 S → P a0 → k13 a0 x1 x2 x3 x4 x5 x6 S = some (r, S1) → Ag P S0 S1) : ∀ (a0 : Nat) (x1 : Int32) (x2 : Int32) (x3 : Int32) (x4 : Int32) (x5 : Int32) (x6 : Int32) (z0 : Int32) (S : pq_S), Ag P S0 S → P a0 → b_X12_feed_76 n k13 a0 x1 x2 x3 x4 x5 x6 z0 S = some (r, S1) → Ag P S0 S1 := by
  intro a0 x1 x2 x3 x4 x5 x6 z0 S hA Ta0 hm
  rw [b_X12_feed_76] at hm
  obtain ⟨q7, hq7, hm⟩ := bd_some hm
  have Tq7 : P q7 := hA.clo hc Ta0 hq7
  obtain ⟨hi8, hm⟩ := ck_some hm
  have hA : Ag P S0 (sA S q7 (Int32.toNatClampNeg (pI S 1202 a0)) ((z0 >>> (((24 : Int32) - ((8 : Int32) * (x6 - x6 / 4 * 4))) &&& (31 : Int32))) &&& (255 : Int32))) := hA.sA Tq7
  obtain ⟨S_9, eS_9, hm⟩ := lt_some hm
  have hA : Ag P S0 S_9 := by rw [eS_9]; exact hA
  have hA : Ag P S0 (sI S_9 1202 a0 ((pI S_9 1202 a0) + (1 : Int32))) := hA.sI Ta0
  exact hk13 a0 x1 x2 x3 x4 x5 (x6 + 1) (sI S_9 1202 a0 ((pI S_9 1202 a0) + (1 : Int32))) hA (Ta0) hm
set_option maxHeartbeats 1000000 in
set_option maxRecDepth 100000 in
theorem fb_X12_feed_23 (P : Nat → Prop) (S0 : pq_S) (hc : Clo P S0) (n : Nat) (r : Int32) (S1 : pq_S) : ∀ (f : Nat) (a0 : Nat) (x1 : Int32) (x2 : Int32) (x3 : Int32) (x4 : Int32) (x5 : Int32) (x6 : Int32) (S : pq_S), Ag P S0 S → P a0 → b_X12_feed_23 n f a0 x1 x2 x3 x4 x5 x6 S = some (r, S1) → Ag P S0 S1 := by
  intro f
  induction f with
  | zero =>
    intro a0 x1 x2 x3 x4 x5 x6 S hA Ta0 hm
    cases hm
  | succ f ih =>
    intro a0 x1 x2 x3 x4 x5 x6 S hA Ta0 hm
    rw [b_X12_feed_23] at hm
    by_cases h2 : 20 ≤ x6
    · rw [if_pos h2] at hm
      cases hm
      exact hA
    · rw [if_neg h2] at hm
      by_cases h3 : 4 ≤ x6
      · rw [if_pos h3] at hm
        by_cases h4 : 8 ≤ x6
        · rw [if_pos h4] at hm
          by_cases h5 : 12 ≤ x6
          · rw [if_pos h5] at hm
            by_cases h6 : 16 ≤ x6
            · rw [if_pos h6] at hm
              exact fb_X12_feed_76 P S0 hc n r S1 _ ih a0 x1 x2 x3 x4 x5 x6 x5 S hA (Ta0) hm
            · rw [if_neg h6] at hm
              exact fb_X12_feed_76 P S0 hc n r S1 _ ih a0 x1 x2 x3 x4 x5 x6 x4 S hA (Ta0) hm
          · rw [if_neg h5] at hm
            exact fb_X12_feed_76 P S0 hc n r S1 _ ih a0 x1 x2 x3 x4 x5 x6 x3 S hA (Ta0) hm
        · rw [if_neg h4] at hm
          exact fb_X12_feed_76 P S0 hc n r S1 _ ih a0 x1 x2 x3 x4 x5 x6 x2 S hA (Ta0) hm
      · rw [if_neg h3] at hm
        exact fb_X12_feed_76 P S0 hc n r S1 _ ih a0 x1 x2 x3 x4 x5 x6 x1 S hA (Ta0) hm
set_option maxHeartbeats 1000000 in
set_option maxRecDepth 100000 in
theorem fr_X12_feed (P : Nat → Prop) (n : Nat) (S0 : pq_S) (hc : Clo P S0) (a0 : Nat) (x1 : Int32) (x2 : Int32) (x3 : Int32) (x4 : Int32) (x5 : Int32) (Ta0 : P a0) (r : Int32) (S1 : pq_S) (hm : m_X12_feed n a0 x1 x2 x3 x4 x5 S0 = some (r, S1)) : Ag P S0 S1 := by
  have hA : Ag P S0 S0 := Ag.rf _ _
  rw [m_X12_feed] at hm
  have hA : Ag P S0 (sI S0 1200 a0 0) := hA.sI Ta0
  by_cases h1 : ((pI (sI S0 1200 a0 0) 1202 a0) + (20 : Int32)) ≤ 600
  · rw [if_pos h1] at hm
    exact fb_X12_feed_23 P S0 hc n r S1 n a0 x1 x2 x3 x4 x5 0 (sI S0 1200 a0 0) hA (Ta0) hm
  · rw [if_neg h1] at hm
    cases hm
    exact hA
set_option maxHeartbeats 1000000 in
set_option maxRecDepth 100000 in
theorem fr_X12_fine (P : Nat → Prop) (n : Nat) (S0 : pq_S) (hc : Clo P S0) (a0 : Nat) (Ta0 : P a0) (r : Int32) (S1 : pq_S) (hm : m_X12_fine n a0 S0 = some (r, S1)) : Ag P S0 S1 := by
  have hA : Ag P S0 S0 := Ag.rf _ _
  rw [m_X12_fine] at hm
  by_cases h1 : (pI S0 1205 a0) = (-1)
  · rw [if_pos h1] at hm
    cases hm
    exact hA
  · rw [if_neg h1] at hm
    cases hm
    exact hA
set_option maxHeartbeats 1000000 in
set_option maxRecDepth 100000 in
theorem fr_X12_wrong (P : Nat → Prop) (n : Nat) (S0 : pq_S) (hc : Clo P S0) (a0 : Nat) (x1 : Int32) (x2 : Int32) (Ta0 : P a0) (S1 : pq_S) (hm : m_X12_wrong n a0 x1 x2 S0 = some S1) : Ag P S0 S1 := by
  have hA : Ag P S0 S0 := Ag.rf _ _
  rw [m_X12_wrong] at hm
  by_cases h1 : (pI S0 1205 a0) = (-1)
  · rw [if_pos h1] at hm
    have hA : Ag P S0 (sI S0 1205 a0 x2) := hA.sI Ta0
    have hA : Ag P S0 (sI (sI S0 1205 a0 x2) 1206 a0 x1) := hA.sI Ta0
    cases hm
    exact hA
  · rw [if_neg h1] at hm
    cases hm
    exact hA
set_option maxHeartbeats 1000000 in
set_option maxRecDepth 100000 in
theorem fb_X12_here_38 (P : Nat → Prop) (S0 : pq_S) (hc : Clo P S0) (n : Nat) (r : Int32) (S1 : pq_S) : ∀ (a0 : Nat) (S : pq_S), Ag P S0 S → P a0 → b_X12_here_38 n a0 S = some (r, S1) → Ag P S0 S1 := by
  intro a0 S hA Ta0 hm
  rw [b_X12_here_38] at hm
  by_cases h5 : (pI S 1203 a0) ≤ (pI S 1204 a0)
  · rw [if_pos h5] at hm
    cases hm
    exact hA
  · rw [if_neg h5] at hm
    obtain ⟨q6, hq6, hm⟩ := bd_some hm
    have Tq6 : P q6 := hA.clo hc Ta0 hq6
    obtain ⟨hi7, hm⟩ := ck_some hm
    cases hm
    exact hA
set_option maxHeartbeats 1000000 in
set_option maxRecDepth 100000 in
theorem fb_X12_here_0 (P : Nat → Prop) (S0 : pq_S) (hc : Clo P S0) (n : Nat) (r : Int32) (S1 : pq_S) : ∀ (f : Nat) (a0 : Nat) (S : pq_S), Ag P S0 S → P a0 → b_X12_here_0 n f a0 S = some (r, S1) → Ag P S0 S1 := by
  intro f
  induction f with
  | zero =>
    intro a0 S hA Ta0 hm
    cases hm
  | succ f ih =>
    intro a0 S hA Ta0 hm
    rw [b_X12_here_0] at hm
    by_cases h1 : (pI S 1203 a0) ≤ (pI S 1204 a0)
    · rw [if_pos h1] at hm
      exact fb_X12_here_38 P S0 hc n r S1 a0 S hA (Ta0) hm
    · rw [if_neg h1] at hm
      obtain ⟨q2, hq2, hm⟩ := bd_some hm
      have Tq2 : P q2 := hA.clo hc Ta0 hq2
      obtain ⟨hi3, hm⟩ := ck_some hm
      by_cases h4 : (pA S q2 (Int32.toNatClampNeg (pI S 1204 a0))) = 32
      · rw [if_pos h4] at hm
        have hA : Ag P S0 (sI S 1204 a0 ((pI S 1204 a0) + (1 : Int32))) := hA.sI Ta0
        exact ih a0 (sI S 1204 a0 ((pI S 1204 a0) + (1 : Int32))) hA (Ta0) hm
      · rw [if_neg h4] at hm
        exact fb_X12_here_38 P S0 hc n r S1 a0 S hA (Ta0) hm
set_option maxHeartbeats 1000000 in
set_option maxRecDepth 100000 in
theorem fr_X12_here (P : Nat → Prop) (n : Nat) (S0 : pq_S) (hc : Clo P S0) (a0 : Nat) (Ta0 : P a0) (r : Int32) (S1 : pq_S) (hm : m_X12_here n a0 S0 = some (r, S1)) : Ag P S0 S1 := by
  have hA : Ag P S0 S0 := Ag.rf _ _
  rw [m_X12_here] at hm
  exact fb_X12_here_0 P S0 hc n r S1 n a0 S0 hA Ta0 hm
set_option maxHeartbeats 1000000 in
set_option maxRecDepth 100000 in
theorem fr_X12_isSmall (P : Nat → Prop) (n : Nat) (S0 : pq_S) (hc : Clo P S0) (x0 : Int32)  (r : Int32) (S1 : pq_S) (hm : m_X12_isSmall n x0 S0 = some (r, S1)) : Ag P S0 S1 := by
  have hA : Ag P S0 S0 := Ag.rf _ _
  rw [m_X12_isSmall] at hm
  by_cases h1 : x0 < 97
  · rw [if_pos h1] at hm
    cases hm
    exact hA
  · rw [if_neg h1] at hm
    by_cases h2 : 122 < x0
    · rw [if_pos h2] at hm
      cases hm
      exact hA
    · rw [if_neg h2] at hm
      cases hm
      exact hA
set_option maxHeartbeats 1000000 in
set_option maxRecDepth 100000 in
theorem fr_X12_isDigit (P : Nat → Prop) (n : Nat) (S0 : pq_S) (hc : Clo P S0) (x0 : Int32)  (r : Int32) (S1 : pq_S) (hm : m_X12_isDigit n x0 S0 = some (r, S1)) : Ag P S0 S1 := by
  have hA : Ag P S0 S0 := Ag.rf _ _
  rw [m_X12_isDigit] at hm
  by_cases h1 : x0 < 48
  · rw [if_pos h1] at hm
    cases hm
    exact hA
  · rw [if_neg h1] at hm
    by_cases h2 : 57 < x0
    · rw [if_pos h2] at hm
      cases hm
      exact hA
    · rw [if_neg h2] at hm
      cases hm
      exact hA
set_option maxHeartbeats 1000000 in
set_option maxRecDepth 100000 in
theorem fb_X12_word_57 (P : Nat → Prop) (S0 : pq_S) (hc : Clo P S0) (n : Nat) (r : Int32) (S1 : pq_S) (k10 : Nat → Int32 → Int32 → Int32 → pq_S → Option (Int32 × pq_S)) (hk10 : ∀ (a0 : Nat) (x1 : Int32) (x2 : Int32) (x3 : Int32) (S : pq_S), Ag P S0 S → P a0 → k10 a0 x1 x2 x3 S = some (r, S1) → Ag P S0 S1) : ∀ (a0 : Nat) (x2 : Int32) (x3 : Int32) (z0 : Int32) (S : pq_S), Ag P S0 S → P a0 → b_X12_word_57 n k10 a0 x2 x3 z0 S = some (r, S1) → Ag P S0 S1 := by
  intro a0 x2 x3 z0 S hA Ta0 hm
  rw [b_X12_word_57] at hm
  exact hk10 a0 z0 (x2 + 1) (x3 + 1) S hA (Ta0) hm
set_option maxHeartbeats 1000000 in
set_option maxRecDepth 100000 in
theorem fb_X12_word_67 (P : Nat → Prop) (S0 : pq_S) (hc : Clo P S0) (n : Nat) (r : Int32) (S1 : pq_S) : ∀ (x1 : Int32) (x2 : Int32) (S : pq_S), Ag P S0 S → b_X12_word_67 n x1 x2 S = some (r, S1) → Ag P S0 S1 := by
  intro x1 x2 S hA hm
  rw [b_X12_word_67] at hm
  by_cases h14 : x2 ≤ 6
  · rw [if_pos h14] at hm
    cases hm
    exact hA
  · rw [if_neg h14] at hm
    cases hm
    exact hA
set_option maxHeartbeats 1000000 in
set_option maxRecDepth 100000 in
theorem fb_X12_word_14 (P : Nat → Prop) (S0 : pq_S) (hc : Clo P S0) (n : Nat) (r : Int32) (S1 : pq_S) : ∀ (f : Nat) (a0 : Nat) (x1 : Int32) (x2 : Int32) (x3 : Int32) (S : pq_S), Ag P S0 S → P a0 → b_X12_word_14 n f a0 x1 x2 x3 S = some (r, S1) → Ag P S0 S1 := by
  intro f
  induction f with
  | zero =>
    intro a0 x1 x2 x3 S hA Ta0 hm
    cases hm
  | succ f ih =>
    intro a0 x1 x2 x3 S hA Ta0 hm
    rw [b_X12_word_14] at hm
    by_cases h4 : (pI S 1203 a0) ≤ x3
    · rw [if_pos h4] at hm
      exact fb_X12_word_67 P S0 hc n r S1 x1 x2 S hA  hm
    · rw [if_neg h4] at hm
      obtain ⟨q5, hq5, hm⟩ := bd_some hm
      have Tq5 : P q5 := hA.clo hc Ta0 hq5
      obtain ⟨hi6, hm⟩ := ck_some hm
      obtain ⟨r9, S_7, hq8, hm⟩ := cb_some hm
      have hA : Ag P S0 S_7 := hA.tr (fr_X12_isSmall P n S (hA.cl hc) (pA S q5 (Int32.toNatClampNeg x3))  r9 S_7 hq8)
      by_cases h10 : r9 = 0
      · rw [if_pos h10] at hm
        exact fb_X12_word_67 P S0 hc n r S1 x1 x2 S_7 hA  hm
      · rw [if_neg h10] at hm
        by_cases h11 : 6 ≤ x2
        · rw [if_pos h11] at hm
          exact fb_X12_word_57 P S0 hc n r S1 _ ih a0 x2 x3 0 S_7 hA (Ta0) hm
        · rw [if_neg h11] at hm
          obtain ⟨q12, hq12, hm⟩ := bd_some hm
          have Tq12 : P q12 := hA.clo hc Ta0 hq12
          obtain ⟨hi13, hm⟩ := ck_some hm
          exact fb_X12_word_57 P S0 hc n r S1 _ ih a0 x2 x3 ((x1 <<< ((5 : Int32) &&& (31 : Int32))) ||| ((pA S_7 q12 (Int32.toNatClampNeg x3)) - (96 : Int32))) S_7 hA (Ta0) hm
set_option maxHeartbeats 1000000 in
set_option maxRecDepth 100000 in
theorem fr_X12_word (P : Nat → Prop) (n : Nat) (S0 : pq_S) (hc : Clo P S0) (a0 : Nat) (Ta0 : P a0) (r : Int32) (S1 : pq_S) (hm : m_X12_word n a0 S0 = some (r, S1)) : Ag P S0 S1 := by
  have hA : Ag P S0 S0 := Ag.rf _ _
  rw [m_X12_word] at hm
  obtain ⟨r3, S_1, hq2, hm⟩ := cb_some hm
  have hA : Ag P S0 S_1 := hA.tr (fr_X12_here P n S0 (hA.cl hc) a0 (Ta0) r3 S_1 hq2)
  exact fb_X12_word_14 P S0 hc n r S1 n a0 0 0 (pI S_1 1204 a0) S_1 hA (Ta0) hm
set_option maxHeartbeats 1000000 in
set_option maxRecDepth 100000 in
theorem fb_X12_of_4 (P : Nat → Prop) (S0 : pq_S) (hc : Clo P S0) (n : Nat) (r : Int32) (S1 : pq_S) : ∀ (f : Nat) (a0 : Nat) (x1 : Int32) (x2 : Int32) (S : pq_S), Ag P S0 S → b_X12_of_4 n f a0 x1 x2 S = some (r, S1) → Ag P S0 S1 := by
  intro f
  induction f with
  | zero =>
    intro a0 x1 x2 S hA hm
    cases hm
  | succ f ih =>
    intro a0 x1 x2 S hA hm
    rw [b_X12_of_4] at hm
    by_cases h1 : (tx_len a0) ≤ x2
    · rw [if_pos h1] at hm
      cases hm
      exact hA
    · rw [if_neg h1] at hm
      obtain ⟨hi2, hm⟩ := ck_some hm
      obtain ⟨v3, ev3, hm⟩ := lt_some hm
      exact ih a0 v3 (x2 + 1) S hA  hm
set_option maxHeartbeats 1000000 in
set_option maxRecDepth 100000 in
theorem fr_X12_of (P : Nat → Prop) (n : Nat) (S0 : pq_S) (hc : Clo P S0) (a0 : Nat)  (r : Int32) (S1 : pq_S) (hm : m_X12_of n a0 S0 = some (r, S1)) : Ag P S0 S1 := by
  have hA : Ag P S0 S0 := Ag.rf _ _
  rw [m_X12_of] at hm
  exact fb_X12_of_4 P S0 hc n r S1 n a0 0 0 S0 hA  hm
set_option maxHeartbeats 1000000 in
set_option maxRecDepth 100000 in
theorem fb_X12_pass_0 (P : Nat → Prop) (S0 : pq_S) (hc : Clo P S0) (n : Nat) (S1 : pq_S) : ∀ (f : Nat) (a0 : Nat) (S : pq_S), Ag P S0 S → P a0 → b_X12_pass_0 n f a0 S = some S1 → Ag P S0 S1 := by
  intro f
  induction f with
  | zero =>
    intro a0 S hA Ta0 hm
    cases hm
  | succ f ih =>
    intro a0 S hA Ta0 hm
    rw [b_X12_pass_0] at hm
    by_cases h1 : (pI S 1203 a0) ≤ (pI S 1204 a0)
    · rw [if_pos h1] at hm
      cases hm
      exact hA
    · rw [if_neg h1] at hm
      obtain ⟨q2, hq2, hm⟩ := bd_some hm
      have Tq2 : P q2 := hA.clo hc Ta0 hq2
      obtain ⟨hi3, hm⟩ := ck_some hm
      obtain ⟨r6, S_4, hq5, hm⟩ := cb_some hm
      have hA : Ag P S0 S_4 := hA.tr (fr_X12_isSmall P n S (hA.cl hc) (pA S q2 (Int32.toNatClampNeg (pI S 1204 a0)))  r6 S_4 hq5)
      by_cases h7 : r6 = 0
      · rw [if_pos h7] at hm
        cases hm
        exact hA
      · rw [if_neg h7] at hm
        have hA : Ag P S0 (sI S_4 1204 a0 ((pI S_4 1204 a0) + (1 : Int32))) := hA.sI Ta0
        exact ih a0 (sI S_4 1204 a0 ((pI S_4 1204 a0) + (1 : Int32))) hA (Ta0) hm
set_option maxHeartbeats 1000000 in
set_option maxRecDepth 100000 in
theorem fr_X12_pass (P : Nat → Prop) (n : Nat) (S0 : pq_S) (hc : Clo P S0) (a0 : Nat) (Ta0 : P a0) (S1 : pq_S) (hm : m_X12_pass n a0 S0 = some S1) : Ag P S0 S1 := by
  have hA : Ag P S0 S0 := Ag.rf _ _
  rw [m_X12_pass] at hm
  exact fb_X12_pass_0 P S0 hc n S1 n a0 S0 hA Ta0 hm
set_option maxHeartbeats 1000000 in
set_option maxRecDepth 100000 in
theorem fb_X12_readNumber_99 (P : Nat → Prop) (S0 : pq_S) (hc : Clo P S0) (n : Nat) (r : Int32) (S1 : pq_S) (k23 : Nat → Int32 → Int32 → Int32 → Int32 → pq_S → Option (Int32 × pq_S)) (hk23 : ∀ (a0 : Nat) (x1 : Int32) (x2 : Int32) (x4 : Int32) (x5 : Int32) (S : pq_S), Ag P S0 S → P a0 → k23 a0 x1 x2 x4 x5 S = some (r, S1) → Ag P S0 S1) : ∀ (a0 : Nat) (x1 : Int32) (x2 : Int32) (x4 : Int32) (z0 : Int32) (S : pq_S), Ag P S0 S → P a0 → b_X12_readNumber_99 n k23 a0 x1 x2 x4 z0 S = some (r, S1) → Ag P S0 S1 := by
  intro a0 x1 x2 x4 z0 S hA Ta0 hm
  rw [b_X12_readNumber_99] at hm
  have hA : Ag P S0 (sI S 1204 a0 ((pI S 1204 a0) + (1 : Int32))) := hA.sI Ta0
  exact hk23 a0 x1 x2 x4 z0 (sI S 1204 a0 ((pI S 1204 a0) + (1 : Int32))) hA (Ta0) hm
set_option maxHeartbeats 1000000 in
set_option maxRecDepth 100000 in
theorem fb_X12_readNumber_126 (P : Nat → Prop) (S0 : pq_S) (hc : Clo P S0) (n : Nat) (r : Int32) (S1 : pq_S) : ∀ (a0 : Nat) (x4 : Int32) (S : pq_S), Ag P S0 S → P a0 → b_X12_readNumber_126 n a0 x4 S = some (r, S1) → Ag P S0 S1 := by
  intro a0 x4 S hA Ta0 hm
  rw [b_X12_readNumber_126] at hm
  obtain ⟨S_26, hq27, hm⟩ := bd_some hm
  have hA : Ag P S0 S_26 := hA.tr (fr_X12_wrong P n S (hA.cl hc) a0 2 x4 (Ta0)  S_26 hq27)
  cases hm
  exact hA
set_option maxHeartbeats 1000000 in
set_option maxRecDepth 100000 in
theorem fb_X12_readNumber_114 (P : Nat → Prop) (S0 : pq_S) (hc : Clo P S0) (n : Nat) (r : Int32) (S1 : pq_S) : ∀ (a0 : Nat) (x1 : Int32) (x2 : Int32) (x4 : Int32) (x5 : Int32) (S : pq_S), Ag P S0 S → P a0 → b_X12_readNumber_114 n a0 x1 x2 x4 x5 S = some (r, S1) → Ag P S0 S1 := by
  intro a0 x1 x2 x4 x5 S hA Ta0 hm
  rw [b_X12_readNumber_114] at hm
  by_cases h24 : x5 < x1
  · rw [if_pos h24] at hm
    exact fb_X12_readNumber_126 P S0 hc n r S1 a0 x4 S hA (Ta0) hm
  · rw [if_neg h24] at hm
    by_cases h25 : x5 ≤ x2
    · rw [if_pos h25] at hm
      cases hm
      exact hA
    · rw [if_neg h25] at hm
      exact fb_X12_readNumber_126 P S0 hc n r S1 a0 x4 S hA (Ta0) hm
set_option maxHeartbeats 1000000 in
set_option maxRecDepth 100000 in
theorem fb_X12_readNumber_41 (P : Nat → Prop) (S0 : pq_S) (hc : Clo P S0) (n : Nat) (r : Int32) (S1 : pq_S) : ∀ (f : Nat) (a0 : Nat) (x1 : Int32) (x2 : Int32) (x4 : Int32) (x5 : Int32) (S : pq_S), Ag P S0 S → P a0 → b_X12_readNumber_41 n f a0 x1 x2 x4 x5 S = some (r, S1) → Ag P S0 S1 := by
  intro f
  induction f with
  | zero =>
    intro a0 x1 x2 x4 x5 S hA Ta0 hm
    cases hm
  | succ f ih =>
    intro a0 x1 x2 x4 x5 S hA Ta0 hm
    rw [b_X12_readNumber_41] at hm
    by_cases h14 : (pI S 1203 a0) ≤ (pI S 1204 a0)
    · rw [if_pos h14] at hm
      exact fb_X12_readNumber_114 P S0 hc n r S1 a0 x1 x2 x4 x5 S hA (Ta0) hm
    · rw [if_neg h14] at hm
      obtain ⟨q15, hq15, hm⟩ := bd_some hm
      have Tq15 : P q15 := hA.clo hc Ta0 hq15
      obtain ⟨hi16, hm⟩ := ck_some hm
      obtain ⟨r19, S_17, hq18, hm⟩ := cb_some hm
      have hA : Ag P S0 S_17 := hA.tr (fr_X12_isDigit P n S (hA.cl hc) (pA S q15 (Int32.toNatClampNeg (pI S 1204 a0)))  r19 S_17 hq18)
      by_cases h20 : r19 = 0
      · rw [if_pos h20] at hm
        exact fb_X12_readNumber_114 P S0 hc n r S1 a0 x1 x2 x4 x5 S_17 hA (Ta0) hm
      · rw [if_neg h20] at hm
        by_cases h21 : x5 ≤ 9999
        · rw [if_pos h21] at hm
          obtain ⟨q22, hq22, hm⟩ := bd_some hm
          have Tq22 : P q22 := hA.clo hc Ta0 hq22
          obtain ⟨hi23, hm⟩ := ck_some hm
          exact fb_X12_readNumber_99 P S0 hc n r S1 _ ih a0 x1 x2 x4 ((((10 : Int32) * x5) + (pA S_17 q22 (Int32.toNatClampNeg (pI S_17 1204 a0)))) - (48 : Int32)) S_17 hA (Ta0) hm
        · rw [if_neg h21] at hm
          exact fb_X12_readNumber_99 P S0 hc n r S1 _ ih a0 x1 x2 x4 10000 S_17 hA (Ta0) hm
set_option maxHeartbeats 1000000 in
set_option maxRecDepth 100000 in
theorem fr_X12_readNumber (P : Nat → Prop) (n : Nat) (S0 : pq_S) (hc : Clo P S0) (a0 : Nat) (x1 : Int32) (x2 : Int32) (Ta0 : P a0) (r : Int32) (S1 : pq_S) (hm : m_X12_readNumber n a0 x1 x2 S0 = some (r, S1)) : Ag P S0 S1 := by
  have hA : Ag P S0 S0 := Ag.rf _ _
  rw [m_X12_readNumber] at hm
  obtain ⟨r3, S_1, hq2, hm⟩ := cb_some hm
  have hA : Ag P S0 S_1 := hA.tr (fr_X12_fine P n S0 (hA.cl hc) a0 (Ta0) r3 S_1 hq2)
  by_cases h4 : r3 = 0
  · rw [if_pos h4] at hm
    cases hm
    exact hA
  · rw [if_neg h4] at hm
    obtain ⟨r7, S_5, hq6, hm⟩ := cb_some hm
    have hA : Ag P S0 S_5 := hA.tr (fr_X12_here P n S_1 (hA.cl hc) a0 (Ta0) r7 S_5 hq6)
    obtain ⟨r10, S_8, hq9, hm⟩ := cb_some hm
    have hA : Ag P S0 S_8 := hA.tr (fr_X12_isDigit P n S_5 (hA.cl hc) r7  r10 S_8 hq9)
    by_cases h11 : r10 = 0
    · rw [if_pos h11] at hm
      obtain ⟨S_12, hq13, hm⟩ := bd_some hm
      have hA : Ag P S0 S_12 := hA.tr (fr_X12_wrong P n S_8 (hA.cl hc) a0 1 (pI S_8 1204 a0) (Ta0)  S_12 hq13)
      cases hm
      exact hA
    · rw [if_neg h11] at hm
      exact fb_X12_readNumber_41 P S0 hc n r S1 n a0 x1 x2 (pI S_5 1204 a0) 0 S_8 hA (Ta0) hm
set_option maxHeartbeats 1000000 in
set_option maxRecDepth 100000 in
theorem fb_X12_sign_24 (P : Nat → Prop) (S0 : pq_S) (hc : Clo P S0) (n : Nat) (S1 : pq_S) : ∀ (a0 : Nat) (S : pq_S), Ag P S0 S → P a0 → b_X12_sign_24 n a0 S = some S1 → Ag P S0 S1 := by
  intro a0 S hA Ta0 hm
  rw [b_X12_sign_24] at hm
  obtain ⟨r13, S_11, hq12, hm⟩ := cb_some hm
  have hA : Ag P S0 S_11 := hA.tr (fr_X12_fine P n S (hA.cl hc) a0 (Ta0) r13 S_11 hq12)
  by_cases h14 : r13 = 0
  · rw [if_pos h14] at hm
    cases hm
    exact hA
  · rw [if_neg h14] at hm
    have hA : Ag P S0 (sI S_11 1204 a0 ((pI S_11 1204 a0) + (1 : Int32))) := hA.sI Ta0
    cases hm
    exact hA
set_option maxHeartbeats 1000000 in
set_option maxRecDepth 100000 in
theorem fr_X12_sign (P : Nat → Prop) (n : Nat) (S0 : pq_S) (hc : Clo P S0) (a0 : Nat) (x1 : Int32) (Ta0 : P a0) (S1 : pq_S) (hm : m_X12_sign n a0 x1 S0 = some S1) : Ag P S0 S1 := by
  have hA : Ag P S0 S0 := Ag.rf _ _
  rw [m_X12_sign] at hm
  obtain ⟨r3, S_1, hq2, hm⟩ := cb_some hm
  have hA : Ag P S0 S_1 := hA.tr (fr_X12_fine P n S0 (hA.cl hc) a0 (Ta0) r3 S_1 hq2)
  by_cases h4 : r3 = 0
  · rw [if_pos h4] at hm
    exact fb_X12_sign_24 P S0 hc n S1 a0 S_1 hA (Ta0) hm
  · rw [if_neg h4] at hm
    obtain ⟨r7, S_5, hq6, hm⟩ := cb_some hm
    have hA : Ag P S0 S_5 := hA.tr (fr_X12_here P n S_1 (hA.cl hc) a0 (Ta0) r7 S_5 hq6)
    by_cases h8 : r7 = x1
    · rw [if_pos h8] at hm
      exact fb_X12_sign_24 P S0 hc n S1 a0 S_5 hA (Ta0) hm
    · rw [if_neg h8] at hm
      obtain ⟨S_9, hq10, hm⟩ := bd_some hm
      have hA : Ag P S0 S_9 := hA.tr (fr_X12_wrong P n S_5 (hA.cl hc) a0 1 (pI S_5 1204 a0) (Ta0)  S_9 hq10)
      exact fb_X12_sign_24 P S0 hc n S1 a0 S_9 hA (Ta0) hm
set_option maxHeartbeats 1000000 in
set_option maxRecDepth 100000 in
theorem fr_X12_isMore (P : Nat → Prop) (n : Nat) (S0 : pq_S) (hc : Clo P S0) (a0 : Nat) (Ta0 : P a0) (r : Int32) (S1 : pq_S) (hm : m_X12_isMore n a0 S0 = some (r, S1)) : Ag P S0 S1 := by
  have hA : Ag P S0 S0 := Ag.rf _ _
  rw [m_X12_isMore] at hm
  obtain ⟨r3, S_1, hq2, hm⟩ := cb_some hm
  have hA : Ag P S0 S_1 := hA.tr (fr_X12_here P n S0 (hA.cl hc) a0 (Ta0) r3 S_1 hq2)
  by_cases h4 : (pI S_1 1203 a0) ≤ (pI S_1 1204 a0)
  · rw [if_pos h4] at hm
    cases hm
    exact hA
  · rw [if_neg h4] at hm
    cases hm
    exact hA
set_option maxHeartbeats 1000000 in
set_option maxRecDepth 100000 in
theorem fr_X12_begins (P : Nat → Prop) (n : Nat) (S0 : pq_S) (hc : Clo P S0) (a0 : Nat) (x1 : Int32) (Ta0 : P a0) (S1 : pq_S) (hm : m_X12_begins n a0 x1 S0 = some S1) : Ag P S0 S1 := by
  have hA : Ag P S0 S0 := Ag.rf _ _
  rw [m_X12_begins] at hm
  have hA : Ag P S0 (sI S0 1202 a0 0) := hA.sI Ta0
  have hA : Ag P S0 (sI (sI S0 1202 a0 0) 1208 a0 (-1)) := hA.sI Ta0
  have hA : Ag P S0 (sI (sI (sI S0 1202 a0 0) 1208 a0 (-1)) 1203 a0 x1) := hA.sI Ta0
  have hA : Ag P S0 (sI (sI (sI (sI S0 1202 a0 0) 1208 a0 (-1)) 1203 a0 x1) 1204 a0 0) := hA.sI Ta0
  have hA : Ag P S0 (sI (sI (sI (sI (sI S0 1202 a0 0) 1208 a0 (-1)) 1203 a0 x1) 1204 a0 0) 1205 a0 (-1)) := hA.sI Ta0
  obtain ⟨S_1, eS_1, hm⟩ := lt_some hm
  have hA : Ag P S0 S_1 := by rw [eS_1]; exact hA
  have hA : Ag P S0 (sI S_1 1207 a0 0) := hA.sI Ta0
  cases hm
  exact hA
set_option maxHeartbeats 1000000 in
set_option maxRecDepth 100000 in
theorem fr_X12_result (P : Nat → Prop) (n : Nat) (S0 : pq_S) (hc : Clo P S0) (a0 : Nat) (x1 : Int32) (Ta0 : P a0) (r : Int32) (S1 : pq_S) (hm : m_X12_result n a0 x1 S0 = some (r, S1)) : Ag P S0 S1 := by
  have hA : Ag P S0 S0 := Ag.rf _ _
  rw [m_X12_result] at hm
  have hA : Ag P S0 (sI S0 1208 a0 (pI S0 1205 a0)) := hA.sI Ta0
  obtain ⟨r3, S_1, hq2, hm⟩ := cb_some hm
  have hA : Ag P S0 S_1 := hA.tr (fr_X12_fine P n (sI S0 1208 a0 (pI S0 1205 a0)) (hA.cl hc) a0 (Ta0) r3 S_1 hq2)
  by_cases h4 : r3 = 0
  · rw [if_pos h4] at hm
    cases hm
    exact hA
  · rw [if_neg h4] at hm
    cases hm
    exact hA
set_option maxHeartbeats 1000000 in
set_option maxRecDepth 100000 in
theorem fr_X12_fault (P : Nat → Prop) (n : Nat) (S0 : pq_S) (hc : Clo P S0) (a0 : Nat) (Ta0 : P a0) (r : Int32) (S1 : pq_S) (hm : m_X12_fault n a0 S0 = some (r, S1)) : Ag P S0 S1 := by
  have hA : Ag P S0 S0 := Ag.rf _ _
  rw [m_X12_fault] at hm
  have hA : Ag P S0 (sI S0 1200 a0 0) := hA.sI Ta0
  cases hm
  exact hA
set_option maxHeartbeats 1000000 in
set_option maxRecDepth 100000 in
theorem fr_X12_clears (P : Nat → Prop) (n : Nat) (S0 : pq_S) (hc : Clo P S0) (a0 : Nat) (Ta0 : P a0) (S1 : pq_S) (hm : m_X12_clears n a0 S0 = some S1) : Ag P S0 S1 := by
  have hA : Ag P S0 S0 := Ag.rf _ _
  rw [m_X12_clears] at hm
  have hA : Ag P S0 (sI S0 1218 a0 0) := hA.sI Ta0
  have hA : Ag P S0 (sI (sI S0 1218 a0 0) 1219 a0 0) := hA.sI Ta0
  have hA : Ag P S0 (sI (sI (sI S0 1218 a0 0) 1219 a0 0) 1220 a0 0) := hA.sI Ta0
  have hA : Ag P S0 (sI (sI (sI (sI S0 1218 a0 0) 1219 a0 0) 1220 a0 0) 1221 a0 0) := hA.sI Ta0
  have hA : Ag P S0 (sI (sI (sI (sI (sI S0 1218 a0 0) 1219 a0 0) 1220 a0 0) 1221 a0 0) 1222 a0 1) := hA.sI Ta0
  obtain ⟨S_1, eS_1, hm⟩ := lt_some hm
  have hA : Ag P S0 S_1 := by rw [eS_1]; exact hA
  have hA : Ag P S0 (sI S_1 1223 a0 3) := hA.sI Ta0
  cases hm
  exact hA
set_option maxHeartbeats 1000000 in
set_option maxRecDepth 100000 in
theorem fb_X12_copies_3 (P : Nat → Prop) (S0 : pq_S) (hc : Clo P S0) (n : Nat) (S1 : pq_S) : ∀ (f : Nat) (a1 : Nat) (a2 : Nat) (x3 : Int32) (x4 : Int32) (S : pq_S), Ag P S0 S → P a1 → P a2 → b_X12_copies_3 n f a1 a2 x3 x4 S = some S1 → Ag P S0 S1 := by
  intro f
  induction f with
  | zero =>
    intro a1 a2 x3 x4 S hA Ta1 Ta2 hm
    cases hm
  | succ f ih =>
    intro a1 a2 x3 x4 S hA Ta1 Ta2 hm
    rw [b_X12_copies_3] at hm
    by_cases h1 : x3 ≤ x4
    · rw [if_pos h1] at hm
      cases hm
      exact hA
    · rw [if_neg h1] at hm
      obtain ⟨hi2, hm⟩ := ck_some hm
      obtain ⟨hi3, hm⟩ := ck_some hm
      have hA : Ag P S0 (sA S a2 (Int32.toNatClampNeg x4) (pA S a1 (Int32.toNatClampNeg x4))) := hA.sA Ta2
      exact ih a1 a2 x3 (x4 + 1) (sA S a2 (Int32.toNatClampNeg x4) (pA S a1 (Int32.toNatClampNeg x4))) hA (Ta1) (Ta2) hm
set_option maxHeartbeats 1000000 in
set_option maxRecDepth 100000 in
theorem fr_X12_copies (P : Nat → Prop) (n : Nat) (S0 : pq_S) (hc : Clo P S0) (a0 : Nat) (a1 : Nat) (a2 : Nat) (x3 : Int32) (Ta0 : P a0) (Ta1 : P a1) (Ta2 : P a2) (S1 : pq_S) (hm : m_X12_copies n a0 a1 a2 x3 S0 = some S1) : Ag P S0 S1 := by
  have hA : Ag P S0 S0 := Ag.rf _ _
  rw [m_X12_copies] at hm
  exact fb_X12_copies_3 P S0 hc n S1 n a1 a2 x3 0 S0 hA (Ta1) (Ta2) hm
set_option maxHeartbeats 1000000 in
set_option maxRecDepth 100000 in
theorem fb_X12_sets_241 (P : Nat → Prop) (S0 : pq_S) (hc : Clo P S0) (n : Nat) (S1 : pq_S) (k124 : Nat → Int32 → pq_S → Option pq_S) (hk124 : ∀ (a0 : Nat) (x1 : Int32) (S : pq_S), Ag P S0 S → P a0 → k124 a0 x1 S = some S1 → Ag P S0 S1) : ∀ (a0 : Nat) (x1 : Int32) (b0 : Nat) (z1 : Int32) (z2 : Int32) (S : pq_S), Ag P S0 S → P a0 → P b0 → b_X12_sets_241 n k124 a0 x1 b0 z1 z2 S = some S1 → Ag P S0 S1 := by
  intro a0 x1 b0 z1 z2 S hA Ta0 Tb0 hm
  rw [b_X12_sets_241] at hm
  obtain ⟨hi42, hm⟩ := ck_some hm
  have hA : Ag P S0 (sA S b0 (Int32.toNatClampNeg z1) z2) := hA.sA Tb0
  exact hk124 a0 (x1 + 1) (sA S b0 (Int32.toNatClampNeg z1) z2) hA (Ta0) hm
set_option maxHeartbeats 1000000 in
set_option maxRecDepth 100000 in
theorem fb_X12_sets_283 (P : Nat → Prop) (S0 : pq_S) (hc : Clo P S0) (n : Nat) (S1 : pq_S) : ∀ (a0 : Nat) (S : pq_S), Ag P S0 S → P a0 → b_X12_sets_283 n a0 S = some S1 → Ag P S0 S1 := by
  intro a0 S hA Ta0 hm
  rw [b_X12_sets_283] at hm
  obtain ⟨q49, hq49, hm⟩ := bd_some hm
  have Tq49 : P q49 := hA.clo hc Ta0 hq49
  obtain ⟨q50, hq50, hm⟩ := bd_some hm
  have Tq50 : P q50 := hA.clo hc Ta0 hq50
  obtain ⟨S_51, hq52, hm⟩ := bd_some hm
  have hA : Ag P S0 S_51 := hA.tr (fr_X12_copies P n S (hA.cl hc) a0 q49 q50 50 (Ta0) (Tq49) (Tq50)  S_51 hq52)
  cases hm
  exact hA
set_option maxHeartbeats 1000000 in
set_option maxRecDepth 100000 in
theorem fb_X12_sets_250 (P : Nat → Prop) (S0 : pq_S) (hc : Clo P S0) (n : Nat) (S1 : pq_S) : ∀ (f : Nat) (a0 : Nat) (x1 : Int32) (S : pq_S), Ag P S0 S → P a0 → b_X12_sets_250 n f a0 x1 S = some S1 → Ag P S0 S1 := by
  intro f
  induction f with
  | zero =>
    intro a0 x1 S hA Ta0 hm
    cases hm
  | succ f ih =>
    intro a0 x1 S hA Ta0 hm
    rw [b_X12_sets_250] at hm
    by_cases h43 : (pI S 1226 a0) ≤ x1
    · rw [if_pos h43] at hm
      exact fb_X12_sets_283 P S0 hc n S1 a0 S hA (Ta0) hm
    · rw [if_neg h43] at hm
      obtain ⟨q44, hq44, hm⟩ := bd_some hm
      have Tq44 : P q44 := hA.clo hc Ta0 hq44
      obtain ⟨q45, hq45, hm⟩ := bd_some hm
      have Tq45 : P q45 := hA.clo hc Ta0 hq45
      obtain ⟨hi46, hm⟩ := ck_some hm
      obtain ⟨hi47, hm⟩ := ck_some hm
      have hA : Ag P S0 (sA S q44 (Int32.toNatClampNeg ((42 : Int32) + x1)) (pA S q45 (Int32.toNatClampNeg (((3 : Int32) * x1) + (1 : Int32))))) := hA.sA Tq44
      obtain ⟨S_48, eS_48, hm⟩ := lt_some hm
      have hA : Ag P S0 S_48 := by rw [eS_48]; exact hA
      exact ih a0 (x1 + 1) S_48 hA (Ta0) hm
set_option maxHeartbeats 1000000 in
set_option maxRecDepth 100000 in
theorem fb_X12_sets_248 (P : Nat → Prop) (S0 : pq_S) (hc : Clo P S0) (n : Nat) (S1 : pq_S) : ∀ (a0 : Nat) (S : pq_S), Ag P S0 S → P a0 → b_X12_sets_248 n a0 S = some S1 → Ag P S0 S1 := by
  intro a0 S hA Ta0 hm
  rw [b_X12_sets_248] at hm
  exact fb_X12_sets_250 P S0 hc n S1 n a0 0 S hA (Ta0) hm
set_option maxHeartbeats 1000000 in
set_option maxRecDepth 100000 in
theorem fb_X12_sets_214 (P : Nat → Prop) (S0 : pq_S) (hc : Clo P S0) (n : Nat) (S1 : pq_S) : ∀ (f : Nat) (a0 : Nat) (x1 : Int32) (S : pq_S), Ag P S0 S → P a0 → b_X12_sets_214 n f a0 x1 S = some S1 → Ag P S0 S1 := by
  intro f
  induction f with
  | zero =>
    intro a0 x1 S hA Ta0 hm
    cases hm
  | succ f ih =>
    intro a0 x1 S hA Ta0 hm
    rw [b_X12_sets_214] at hm
    by_cases h39 : 12 ≤ x1
    · rw [if_pos h39] at hm
      exact fb_X12_sets_248 P S0 hc n S1 a0 S hA (Ta0) hm
    · rw [if_neg h39] at hm
      obtain ⟨q40, hq40, hm⟩ := bd_some hm
      have Tq40 : P q40 := hA.clo hc Ta0 hq40
      by_cases h41 : (pI S 1225 a0) ≤ x1
      · rw [if_pos h41] at hm
        exact fb_X12_sets_241 P S0 hc n S1 _ ih a0 x1 q40 ((18 : Int32) + x1) 0 S hA (Ta0) (Tq40) hm
      · rw [if_neg h41] at hm
        exact fb_X12_sets_241 P S0 hc n S1 _ ih a0 x1 q40 ((18 : Int32) + x1) 1 S hA (Ta0) (Tq40) hm
set_option maxHeartbeats 1000000 in
set_option maxRecDepth 100000 in
theorem fb_X12_sets_212 (P : Nat → Prop) (S0 : pq_S) (hc : Clo P S0) (n : Nat) (S1 : pq_S) : ∀ (a0 : Nat) (S : pq_S), Ag P S0 S → P a0 → b_X12_sets_212 n a0 S = some S1 → Ag P S0 S1 := by
  intro a0 S hA Ta0 hm
  rw [b_X12_sets_212] at hm
  exact fb_X12_sets_214 P S0 hc n S1 n a0 0 S hA (Ta0) hm
set_option maxHeartbeats 1000000 in
set_option maxRecDepth 100000 in
theorem fb_X12_sets_161 (P : Nat → Prop) (S0 : pq_S) (hc : Clo P S0) (n : Nat) (S1 : pq_S) : ∀ (f : Nat) (a0 : Nat) (x1 : Int32) (S : pq_S), Ag P S0 S → P a0 → b_X12_sets_161 n f a0 x1 S = some S1 → Ag P S0 S1 := by
  intro f
  induction f with
  | zero =>
    intro a0 x1 S hA Ta0 hm
    cases hm
  | succ f ih =>
    intro a0 x1 S hA Ta0 hm
    rw [b_X12_sets_161] at hm
    by_cases h28 : (pI S 1224 a0) ≤ x1
    · rw [if_pos h28] at hm
      exact fb_X12_sets_212 P S0 hc n S1 a0 S hA (Ta0) hm
    · rw [if_neg h28] at hm
      obtain ⟨q29, hq29, hm⟩ := bd_some hm
      have Tq29 : P q29 := hA.clo hc Ta0 hq29
      obtain ⟨q30, hq30, hm⟩ := bd_some hm
      have Tq30 : P q30 := hA.clo hc Ta0 hq30
      obtain ⟨hi31, hm⟩ := ck_some hm
      obtain ⟨hi32, hm⟩ := ck_some hm
      have hA : Ag P S0 (sA S q29 (Int32.toNatClampNeg ((0 : Int32) + x1)) (pA S q30 (Int32.toNatClampNeg (((4 : Int32) * x1) + (1 : Int32))))) := hA.sA Tq29
      obtain ⟨S_33, eS_33, hm⟩ := lt_some hm
      have hA : Ag P S0 S_33 := by rw [eS_33]; exact hA
      obtain ⟨q34, hq34, hm⟩ := bd_some hm
      have Tq34 : P q34 := hA.clo hc Ta0 hq34
      obtain ⟨q35, hq35, hm⟩ := bd_some hm
      have Tq35 : P q35 := hA.clo hc Ta0 hq35
      obtain ⟨hi36, hm⟩ := ck_some hm
      obtain ⟨hi37, hm⟩ := ck_some hm
      have hA : Ag P S0 (sA S_33 q34 (Int32.toNatClampNeg ((6 : Int32) + x1)) (pA S_33 q35 (Int32.toNatClampNeg (((4 : Int32) * x1) + (2 : Int32))))) := hA.sA Tq34
      obtain ⟨S_38, eS_38, hm⟩ := lt_some hm
      have hA : Ag P S0 S_38 := by rw [eS_38]; exact hA
      exact ih a0 (x1 + 1) S_38 hA (Ta0) hm
set_option maxHeartbeats 1000000 in
set_option maxRecDepth 100000 in
theorem fb_X12_sets_159 (P : Nat → Prop) (S0 : pq_S) (hc : Clo P S0) (n : Nat) (S1 : pq_S) : ∀ (a0 : Nat) (S : pq_S), Ag P S0 S → P a0 → b_X12_sets_159 n a0 S = some S1 → Ag P S0 S1 := by
  intro a0 S hA Ta0 hm
  rw [b_X12_sets_159] at hm
  exact fb_X12_sets_161 P S0 hc n S1 n a0 0 S hA (Ta0) hm
set_option maxHeartbeats 1000000 in
set_option maxRecDepth 100000 in
theorem fb_X12_sets_140 (P : Nat → Prop) (S0 : pq_S) (hc : Clo P S0) (n : Nat) (S1 : pq_S) : ∀ (f : Nat) (a0 : Nat) (x1 : Int32) (S : pq_S), Ag P S0 S → P a0 → b_X12_sets_140 n f a0 x1 S = some S1 → Ag P S0 S1 := by
  intro f
  induction f with
  | zero =>
    intro a0 x1 S hA Ta0 hm
    cases hm
  | succ f ih =>
    intro a0 x1 S hA Ta0 hm
    rw [b_X12_sets_140] at hm
    by_cases h25 : 50 ≤ x1
    · rw [if_pos h25] at hm
      exact fb_X12_sets_159 P S0 hc n S1 a0 S hA (Ta0) hm
    · rw [if_neg h25] at hm
      obtain ⟨q26, hq26, hm⟩ := bd_some hm
      have Tq26 : P q26 := hA.clo hc Ta0 hq26
      obtain ⟨hi27, hm⟩ := ck_some hm
      have hA : Ag P S0 (sA S q26 (Int32.toNatClampNeg x1) 0) := hA.sA Tq26
      exact ih a0 (x1 + 1) (sA S q26 (Int32.toNatClampNeg x1) 0) hA (Ta0) hm
set_option maxHeartbeats 1000000 in
set_option maxRecDepth 100000 in
theorem fr_X12_sets (P : Nat → Prop) (n : Nat) (S0 : pq_S) (hc : Clo P S0) (a0 : Nat) (Ta0 : P a0) (S1 : pq_S) (hm : m_X12_sets n a0 S0 = some S1) : Ag P S0 S1 := by
  have hA : Ag P S0 S0 := Ag.rf _ _
  rw [m_X12_sets] at hm
  have hA : Ag P S0 (sI S0 1224 a0 (pI S0 1218 a0)) := hA.sI Ta0
  have hA : Ag P S0 (sI (sI S0 1224 a0 (pI S0 1218 a0)) 1225 a0 (pI (sI S0 1224 a0 (pI S0 1218 a0)) 1219 a0)) := hA.sI Ta0
  obtain ⟨S_1, eS_1, hm⟩ := lt_some hm
  have hA : Ag P S0 S_1 := by rw [eS_1]; exact hA
  have hA : Ag P S0 (sI S_1 1226 a0 (pI S_1 1220 a0)) := hA.sI Ta0
  have hA : Ag P S0 (sI (sI S_1 1226 a0 (pI S_1 1220 a0)) 1227 a0 (pI (sI S_1 1226 a0 (pI S_1 1220 a0)) 1221 a0)) := hA.sI Ta0
  obtain ⟨S_2, eS_2, hm⟩ := lt_some hm
  have hA : Ag P S0 S_2 := by rw [eS_2]; exact hA
  have hA : Ag P S0 (sI S_2 1228 a0 (pI S_2 1222 a0)) := hA.sI Ta0
  have hA : Ag P S0 (sI (sI S_2 1228 a0 (pI S_2 1222 a0)) 1229 a0 (pI (sI S_2 1228 a0 (pI S_2 1222 a0)) 1223 a0)) := hA.sI Ta0
  obtain ⟨S_3, eS_3, hm⟩ := lt_some hm
  have hA : Ag P S0 S_3 := by rw [eS_3]; exact hA
  obtain ⟨q4, hq4, hm⟩ := bd_some hm
  have Tq4 : P q4 := hA.clo hc Ta0 hq4
  obtain ⟨q5, hq5, hm⟩ := bd_some hm
  have Tq5 : P q5 := hA.clo hc Ta0 hq5
  obtain ⟨S_6, hq7, hm⟩ := bd_some hm
  have hA : Ag P S0 S_6 := hA.tr (fr_X12_copies P n S_3 (hA.cl hc) a0 q4 q5 24 (Ta0) (Tq4) (Tq5)  S_6 hq7)
  obtain ⟨q8, hq8, hm⟩ := bd_some hm
  have Tq8 : P q8 := hA.clo hc Ta0 hq8
  obtain ⟨q9, hq9, hm⟩ := bd_some hm
  have Tq9 : P q9 := hA.clo hc Ta0 hq9
  obtain ⟨S_10, hq11, hm⟩ := bd_some hm
  have hA : Ag P S0 S_10 := hA.tr (fr_X12_copies P n S_6 (hA.cl hc) a0 q8 q9 48 (Ta0) (Tq8) (Tq9)  S_10 hq11)
  obtain ⟨q12, hq12, hm⟩ := bd_some hm
  have Tq12 : P q12 := hA.clo hc Ta0 hq12
  obtain ⟨q13, hq13, hm⟩ := bd_some hm
  have Tq13 : P q13 := hA.clo hc Ta0 hq13
  obtain ⟨S_14, hq15, hm⟩ := bd_some hm
  have hA : Ag P S0 S_14 := hA.tr (fr_X12_copies P n S_10 (hA.cl hc) a0 q12 q13 9 (Ta0) (Tq12) (Tq13)  S_14 hq15)
  obtain ⟨q16, hq16, hm⟩ := bd_some hm
  have Tq16 : P q16 := hA.clo hc Ta0 hq16
  obtain ⟨q17, hq17, hm⟩ := bd_some hm
  have Tq17 : P q17 := hA.clo hc Ta0 hq17
  obtain ⟨S_18, hq19, hm⟩ := bd_some hm
  have hA : Ag P S0 S_18 := hA.tr (fr_X12_copies P n S_14 (hA.cl hc) a0 q16 q17 6 (Ta0) (Tq16) (Tq17)  S_18 hq19)
  obtain ⟨q20, hq20, hm⟩ := bd_some hm
  have Tq20 : P q20 := hA.clo hc Ta0 hq20
  obtain ⟨hi21, hm⟩ := ck_some hm
  have hA : Ag P S0 (sA S_18 q20 (Int32.toNatClampNeg 0) 0) := hA.sA Tq20
  obtain ⟨q22, hq22, hm⟩ := bd_some hm
  have Tq22 : P q22 := hA.clo hc Ta0 hq22
  obtain ⟨hi23, hm⟩ := ck_some hm
  have hA : Ag P S0 (sA (sA S_18 q20 (Int32.toNatClampNeg 0) 0) q22 (Int32.toNatClampNeg 1) 0) := hA.sA Tq22
  obtain ⟨S_24, eS_24, hm⟩ := lt_some hm
  have hA : Ag P S0 S_24 := by rw [eS_24]; exact hA
  have hA : Ag P S0 (sI S_24 1251 a0 0) := hA.sI Ta0
  have hA : Ag P S0 (sI (sI S_24 1251 a0 0) 1241 a0 0) := hA.sI Ta0
  have hA : Ag P S0 (sI (sI (sI S_24 1251 a0 0) 1241 a0 0) 1272 a0 0) := hA.sI Ta0
  have hA : Ag P S0 (sI (sI (sI (sI S_24 1251 a0 0) 1241 a0 0) 1272 a0 0) 1242 a0 0) := hA.sI Ta0
  exact fb_X12_sets_140 P S0 hc n S1 n a0 0 (sI (sI (sI (sI S_24 1251 a0 0) 1241 a0 0) 1272 a0 0) 1242 a0 0) hA (Ta0) hm
set_option maxHeartbeats 1000000 in
set_option maxRecDepth 100000 in
theorem fb_X12_readRow_57 (P : Nat → Prop) (S0 : pq_S) (hc : Clo P S0) (n : Nat) (S1 : pq_S) : ∀ (a0 : Nat) (S : pq_S), Ag P S0 S → P a0 → b_X12_readRow_57 n a0 S = some S1 → Ag P S0 S1 := by
  intro a0 S hA Ta0 hm
  rw [b_X12_readRow_57] at hm
  have hA : Ag P S0 (sI S 1218 a0 ((pI S 1218 a0) + (1 : Int32))) := hA.sI Ta0
  cases hm
  exact hA
set_option maxHeartbeats 1000000 in
set_option maxRecDepth 100000 in
theorem fb_X12_readRow_31 (P : Nat → Prop) (S0 : pq_S) (hc : Clo P S0) (n : Nat) (S1 : pq_S) : ∀ (f : Nat) (a0 : Nat) (x2 : Int32) (x3 : Int32) (S : pq_S), Ag P S0 S → P a0 → b_X12_readRow_31 n f a0 x2 x3 S = some S1 → Ag P S0 S1 := by
  intro f
  induction f with
  | zero =>
    intro a0 x2 x3 S hA Ta0 hm
    cases hm
  | succ f ih =>
    intro a0 x2 x3 S hA Ta0 hm
    rw [b_X12_readRow_31] at hm
    by_cases h75 : 4 ≤ x3
    · rw [if_pos h75] at hm
      exact fb_X12_readRow_57 P S0 hc n S1 a0 S hA (Ta0) hm
    · rw [if_neg h75] at hm
      obtain ⟨q76, hq76, hm⟩ := bd_some hm
      have Tq76 : P q76 := hA.clo hc Ta0 hq76
      obtain ⟨r79, S_77, hq78, hm⟩ := cb_some hm
      have hA : Ag P S0 S_77 := hA.tr (fr_X12_readNumber P n S (hA.cl hc) a0 0 99 (Ta0) r79 S_77 hq78)
      obtain ⟨hi80, hm⟩ := ck_some hm
      have hA : Ag P S0 (sA S_77 q76 (Int32.toNatClampNeg (x2 + x3)) r79) := hA.sA Tq76
      exact ih a0 x2 (x3 + 1) (sA S_77 q76 (Int32.toNatClampNeg (x2 + x3)) r79) hA (Ta0) hm
set_option maxHeartbeats 1000000 in
set_option maxRecDepth 100000 in
theorem fr_X12_readRow (P : Nat → Prop) (n : Nat) (S0 : pq_S) (hc : Clo P S0) (a0 : Nat) (x1 : Int32) (Ta0 : P a0) (S1 : pq_S) (hm : m_X12_readRow n a0 x1 S0 = some S1) : Ag P S0 S1 := by
  have hA : Ag P S0 S0 := Ag.rf _ _
  rw [m_X12_readRow] at hm
  obtain ⟨r3, S_1, hq2, hm⟩ := cb_some hm
  have hA : Ag P S0 S_1 := hA.tr (fr_X12_of P n S0 (hA.cl hc) 0  r3 S_1 hq2)
  by_cases h4 : x1 = r3
  · rw [if_pos h4] at hm
    obtain ⟨q69, hq69, hm⟩ := bd_some hm
    have Tq69 : P q69 := hA.clo hc Ta0 hq69
    obtain ⟨r72, S_70, hq71, hm⟩ := cb_some hm
    have hA : Ag P S0 S_70 := hA.tr (fr_X12_readNumber P n S_1 (hA.cl hc) a0 0 40 (Ta0) r72 S_70 hq71)
    obtain ⟨hi73, hm⟩ := ck_some hm
    have hA : Ag P S0 (sA S_70 q69 (Int32.toNatClampNeg ((4 : Int32) * (pI S_1 1218 a0))) r72) := hA.sA Tq69
    obtain ⟨S_74, eS_74, hm⟩ := lt_some hm
    have hA : Ag P S0 S_74 := by rw [eS_74]; exact hA
    exact fb_X12_readRow_31 P S0 hc n S1 n a0 ((4 : Int32) * (pI S_1 1218 a0)) 1 S_74 hA (Ta0) hm
  · rw [if_neg h4] at hm
    obtain ⟨r7, S_5, hq6, hm⟩ := cb_some hm
    have hA : Ag P S0 S_5 := hA.tr (fr_X12_of P n S_1 (hA.cl hc) 1  r7 S_5 hq6)
    by_cases h8 : x1 = r7
    · rw [if_pos h8] at hm
      obtain ⟨q45, hq45, hm⟩ := bd_some hm
      have Tq45 : P q45 := hA.clo hc Ta0 hq45
      obtain ⟨r48, S_46, hq47, hm⟩ := cb_some hm
      have hA : Ag P S0 S_46 := hA.tr (fr_X12_readNumber P n S_5 (hA.cl hc) a0 0 ((pI S_5 1218 a0) - (1 : Int32)) (Ta0) r48 S_46 hq47)
      obtain ⟨hi49, hm⟩ := ck_some hm
      have hA : Ag P S0 (sA S_46 q45 (Int32.toNatClampNeg ((4 : Int32) * (pI S_5 1219 a0))) r48) := hA.sA Tq45
      obtain ⟨S_50, eS_50, hm⟩ := lt_some hm
      have hA : Ag P S0 S_50 := by rw [eS_50]; exact hA
      obtain ⟨q51, hq51, hm⟩ := bd_some hm
      have Tq51 : P q51 := hA.clo hc Ta0 hq51
      obtain ⟨r54, S_52, hq53, hm⟩ := cb_some hm
      have hA : Ag P S0 S_52 := hA.tr (fr_X12_readNumber P n S_50 (hA.cl hc) a0 1 12 (Ta0) r54 S_52 hq53)
      obtain ⟨hi55, hm⟩ := ck_some hm
      have hA : Ag P S0 (sA S_52 q51 (Int32.toNatClampNeg (((4 : Int32) * (pI S_5 1219 a0)) + (1 : Int32))) r54) := hA.sA Tq51
      obtain ⟨S_56, eS_56, hm⟩ := lt_some hm
      have hA : Ag P S0 S_56 := by rw [eS_56]; exact hA
      obtain ⟨q57, hq57, hm⟩ := bd_some hm
      have Tq57 : P q57 := hA.clo hc Ta0 hq57
      obtain ⟨r60, S_58, hq59, hm⟩ := cb_some hm
      have hA : Ag P S0 S_58 := hA.tr (fr_X12_readNumber P n S_56 (hA.cl hc) a0 0 1 (Ta0) r60 S_58 hq59)
      obtain ⟨hi61, hm⟩ := ck_some hm
      have hA : Ag P S0 (sA S_58 q57 (Int32.toNatClampNeg (((4 : Int32) * (pI S_5 1219 a0)) + (2 : Int32))) r60) := hA.sA Tq57
      obtain ⟨S_62, eS_62, hm⟩ := lt_some hm
      have hA : Ag P S0 S_62 := by rw [eS_62]; exact hA
      obtain ⟨q63, hq63, hm⟩ := bd_some hm
      have Tq63 : P q63 := hA.clo hc Ta0 hq63
      obtain ⟨r66, S_64, hq65, hm⟩ := cb_some hm
      have hA : Ag P S0 S_64 := hA.tr (fr_X12_readNumber P n S_62 (hA.cl hc) a0 0 99 (Ta0) r66 S_64 hq65)
      obtain ⟨hi67, hm⟩ := ck_some hm
      have hA : Ag P S0 (sA S_64 q63 (Int32.toNatClampNeg (((4 : Int32) * (pI S_5 1219 a0)) + (3 : Int32))) r66) := hA.sA Tq63
      obtain ⟨S_68, eS_68, hm⟩ := lt_some hm
      have hA : Ag P S0 S_68 := by rw [eS_68]; exact hA
      have hA : Ag P S0 (sI S_68 1219 a0 ((pI S_68 1219 a0) + (1 : Int32))) := hA.sI Ta0
      cases hm
      exact hA
    · rw [if_neg h8] at hm
      obtain ⟨r11, S_9, hq10, hm⟩ := cb_some hm
      have hA : Ag P S0 S_9 := hA.tr (fr_X12_of P n S_5 (hA.cl hc) 2  r11 S_9 hq10)
      by_cases h12 : x1 = r11
      · rw [if_pos h12] at hm
        obtain ⟨q27, hq27, hm⟩ := bd_some hm
        have Tq27 : P q27 := hA.clo hc Ta0 hq27
        obtain ⟨r30, S_28, hq29, hm⟩ := cb_some hm
        have hA : Ag P S0 S_28 := hA.tr (fr_X12_readNumber P n S_9 (hA.cl hc) a0 0 ((pI S_9 1218 a0) - (1 : Int32)) (Ta0) r30 S_28 hq29)
        obtain ⟨hi31, hm⟩ := ck_some hm
        have hA : Ag P S0 (sA S_28 q27 (Int32.toNatClampNeg ((3 : Int32) * (pI S_9 1220 a0))) r30) := hA.sA Tq27
        obtain ⟨S_32, eS_32, hm⟩ := lt_some hm
        have hA : Ag P S0 S_32 := by rw [eS_32]; exact hA
        obtain ⟨q33, hq33, hm⟩ := bd_some hm
        have Tq33 : P q33 := hA.clo hc Ta0 hq33
        obtain ⟨r36, S_34, hq35, hm⟩ := cb_some hm
        have hA : Ag P S0 S_34 := hA.tr (fr_X12_readNumber P n S_32 (hA.cl hc) a0 0 400 (Ta0) r36 S_34 hq35)
        obtain ⟨hi37, hm⟩ := ck_some hm
        have hA : Ag P S0 (sA S_34 q33 (Int32.toNatClampNeg (((3 : Int32) * (pI S_9 1220 a0)) + (1 : Int32))) r36) := hA.sA Tq33
        obtain ⟨S_38, eS_38, hm⟩ := lt_some hm
        have hA : Ag P S0 S_38 := by rw [eS_38]; exact hA
        obtain ⟨q39, hq39, hm⟩ := bd_some hm
        have Tq39 : P q39 := hA.clo hc Ta0 hq39
        obtain ⟨r42, S_40, hq41, hm⟩ := cb_some hm
        have hA : Ag P S0 S_40 := hA.tr (fr_X12_readNumber P n S_38 (hA.cl hc) a0 0 11 (Ta0) r42 S_40 hq41)
        obtain ⟨hi43, hm⟩ := ck_some hm
        have hA : Ag P S0 (sA S_40 q39 (Int32.toNatClampNeg (((3 : Int32) * (pI S_9 1220 a0)) + (2 : Int32))) r42) := hA.sA Tq39
        obtain ⟨S_44, eS_44, hm⟩ := lt_some hm
        have hA : Ag P S0 S_44 := by rw [eS_44]; exact hA
        have hA : Ag P S0 (sI S_44 1220 a0 ((pI S_44 1220 a0) + (1 : Int32))) := hA.sI Ta0
        cases hm
        exact hA
      · rw [if_neg h12] at hm
        obtain ⟨q13, hq13, hm⟩ := bd_some hm
        have Tq13 : P q13 := hA.clo hc Ta0 hq13
        obtain ⟨r16, S_14, hq15, hm⟩ := cb_some hm
        have hA : Ag P S0 S_14 := hA.tr (fr_X12_readNumber P n S_9 (hA.cl hc) a0 1 30 (Ta0) r16 S_14 hq15)
        obtain ⟨hi17, hm⟩ := ck_some hm
        have hA : Ag P S0 (sA S_14 q13 (Int32.toNatClampNeg ((2 : Int32) * (pI S_9 1221 a0))) r16) := hA.sA Tq13
        obtain ⟨S_18, eS_18, hm⟩ := lt_some hm
        have hA : Ag P S0 S_18 := by rw [eS_18]; exact hA
        obtain ⟨q19, hq19, hm⟩ := bd_some hm
        have Tq19 : P q19 := hA.clo hc Ta0 hq19
        obtain ⟨q20, hq20, hm⟩ := bd_some hm
        have Tq20 : P q20 := hA.clo hc Ta0 hq20
        obtain ⟨hi21, hm⟩ := ck_some hm
        obtain ⟨r24, S_22, hq23, hm⟩ := cb_some hm
        have hA : Ag P S0 S_22 := hA.tr (fr_X12_readNumber P n S_18 (hA.cl hc) a0 0 ((pA S_18 q20 (Int32.toNatClampNeg ((2 : Int32) * (pI S_9 1221 a0)))) - (1 : Int32)) (Ta0) r24 S_22 hq23)
        obtain ⟨hi25, hm⟩ := ck_some hm
        have hA : Ag P S0 (sA S_22 q19 (Int32.toNatClampNeg (((2 : Int32) * (pI S_9 1221 a0)) + (1 : Int32))) r24) := hA.sA Tq19
        obtain ⟨S_26, eS_26, hm⟩ := lt_some hm
        have hA : Ag P S0 S_26 := by rw [eS_26]; exact hA
        have hA : Ag P S0 (sI S_26 1221 a0 ((pI S_26 1221 a0) + (1 : Int32))) := hA.sI Ta0
        cases hm
        exact hA
set_option maxHeartbeats 1000000 in
set_option maxRecDepth 100000 in
theorem fb_X12_isFull_70 (P : Nat → Prop) (S0 : pq_S) (hc : Clo P S0) (n : Nat) (r : Int32) (S1 : pq_S) : ∀  (S : pq_S), Ag P S0 S → b_X12_isFull_70 n  S = some (r, S1) → Ag P S0 S1 := by
  intro S hA hm
  rw [b_X12_isFull_70] at hm
  cases hm
  exact hA
set_option maxHeartbeats 1000000 in
set_option maxRecDepth 100000 in
theorem fb_X12_isFull_53 (P : Nat → Prop) (S0 : pq_S) (hc : Clo P S0) (n : Nat) (r : Int32) (S1 : pq_S) : ∀ (a0 : Nat) (x1 : Int32) (S : pq_S), Ag P S0 S → P a0 → b_X12_isFull_53 n a0 x1 S = some (r, S1) → Ag P S0 S1 := by
  intro a0 x1 S hA Ta0 hm
  rw [b_X12_isFull_53] at hm
  obtain ⟨r18, S_16, hq17, hm⟩ := cb_some hm
  have hA : Ag P S0 S_16 := hA.tr (fr_X12_of P n S (hA.cl hc) 3  r18 S_16 hq17)
  by_cases h19 : x1 = r18
  · rw [if_pos h19] at hm
    by_cases h20 : (pI S_16 1221 a0) = 3
    · rw [if_pos h20] at hm
      exact fb_X12_isFull_70 P S0 hc n r S1  S_16 hA  hm
    · rw [if_neg h20] at hm
      cases hm
      exact hA
  · rw [if_neg h19] at hm
    cases hm
    exact hA
set_option maxHeartbeats 1000000 in
set_option maxRecDepth 100000 in
theorem fb_X12_isFull_36 (P : Nat → Prop) (S0 : pq_S) (hc : Clo P S0) (n : Nat) (r : Int32) (S1 : pq_S) : ∀ (a0 : Nat) (x1 : Int32) (S : pq_S), Ag P S0 S → P a0 → b_X12_isFull_36 n a0 x1 S = some (r, S1) → Ag P S0 S1 := by
  intro a0 x1 S hA Ta0 hm
  rw [b_X12_isFull_36] at hm
  obtain ⟨r13, S_11, hq12, hm⟩ := cb_some hm
  have hA : Ag P S0 S_11 := hA.tr (fr_X12_of P n S (hA.cl hc) 2  r13 S_11 hq12)
  by_cases h14 : x1 = r13
  · rw [if_pos h14] at hm
    by_cases h15 : (pI S_11 1220 a0) = 3
    · rw [if_pos h15] at hm
      exact fb_X12_isFull_70 P S0 hc n r S1  S_11 hA  hm
    · rw [if_neg h15] at hm
      exact fb_X12_isFull_53 P S0 hc n r S1 a0 x1 S_11 hA (Ta0) hm
  · rw [if_neg h14] at hm
    exact fb_X12_isFull_53 P S0 hc n r S1 a0 x1 S_11 hA (Ta0) hm
set_option maxHeartbeats 1000000 in
set_option maxRecDepth 100000 in
theorem fb_X12_isFull_18 (P : Nat → Prop) (S0 : pq_S) (hc : Clo P S0) (n : Nat) (r : Int32) (S1 : pq_S) : ∀ (a0 : Nat) (x1 : Int32) (S : pq_S), Ag P S0 S → P a0 → b_X12_isFull_18 n a0 x1 S = some (r, S1) → Ag P S0 S1 := by
  intro a0 x1 S hA Ta0 hm
  rw [b_X12_isFull_18] at hm
  obtain ⟨r8, S_6, hq7, hm⟩ := cb_some hm
  have hA : Ag P S0 S_6 := hA.tr (fr_X12_of P n S (hA.cl hc) 1  r8 S_6 hq7)
  by_cases h9 : x1 = r8
  · rw [if_pos h9] at hm
    by_cases h10 : (pI S_6 1219 a0) = 12
    · rw [if_pos h10] at hm
      exact fb_X12_isFull_70 P S0 hc n r S1  S_6 hA  hm
    · rw [if_neg h10] at hm
      exact fb_X12_isFull_36 P S0 hc n r S1 a0 x1 S_6 hA (Ta0) hm
  · rw [if_neg h9] at hm
    exact fb_X12_isFull_36 P S0 hc n r S1 a0 x1 S_6 hA (Ta0) hm
set_option maxHeartbeats 1000000 in
set_option maxRecDepth 100000 in
theorem fr_X12_isFull (P : Nat → Prop) (n : Nat) (S0 : pq_S) (hc : Clo P S0) (a0 : Nat) (x1 : Int32) (Ta0 : P a0) (r : Int32) (S1 : pq_S) (hm : m_X12_isFull n a0 x1 S0 = some (r, S1)) : Ag P S0 S1 := by
  have hA : Ag P S0 S0 := Ag.rf _ _
  rw [m_X12_isFull] at hm
  obtain ⟨r3, S_1, hq2, hm⟩ := cb_some hm
  have hA : Ag P S0 S_1 := hA.tr (fr_X12_of P n S0 (hA.cl hc) 0  r3 S_1 hq2)
  by_cases h4 : x1 = r3
  · rw [if_pos h4] at hm
    by_cases h5 : (pI S_1 1218 a0) = 6
    · rw [if_pos h5] at hm
      exact fb_X12_isFull_70 P S0 hc n r S1  S_1 hA  hm
    · rw [if_neg h5] at hm
      exact fb_X12_isFull_18 P S0 hc n r S1 a0 x1 S_1 hA (Ta0) hm
  · rw [if_neg h4] at hm
    exact fb_X12_isFull_18 P S0 hc n r S1 a0 x1 S_1 hA (Ta0) hm
set_option maxHeartbeats 1000000 in
set_option maxRecDepth 100000 in
theorem fb_X12_coast_225 (P : Nat → Prop) (S0 : pq_S) (hc : Clo P S0) (n : Nat) (r : Int32) (S1 : pq_S) (k26 : Nat → Int32 → pq_S → Option (Int32 × pq_S)) (hk26 : ∀ (a0 : Nat) (x2 : Int32) (S : pq_S), Ag P S0 S → P a0 → k26 a0 x2 S = some (r, S1) → Ag P S0 S1) : ∀ (a0 : Nat) (x2 : Int32) (S : pq_S), Ag P S0 S → P a0 → b_X12_coast_225 n k26 a0 x2 S = some (r, S1) → Ag P S0 S1 := by
  intro a0 x2 S hA Ta0 hm
  rw [b_X12_coast_225] at hm
  obtain ⟨S_68, hq69, hm⟩ := bd_some hm
  have hA : Ag P S0 S_68 := hA.tr (fr_X12_sign P n S (hA.cl hc) a0 59 (Ta0)  S_68 hq69)
  exact hk26 a0 (x2 + 1) S_68 hA (Ta0) hm
set_option maxHeartbeats 1000000 in
set_option maxRecDepth 100000 in
theorem fb_X12_coast_237 (P : Nat → Prop) (S0 : pq_S) (hc : Clo P S0) (n : Nat) (r : Int32) (S1 : pq_S) : ∀ (a0 : Nat) (S : pq_S), Ag P S0 S → P a0 → b_X12_coast_237 n a0 S = some (r, S1) → Ag P S0 S1 := by
  intro a0 S hA Ta0 hm
  rw [b_X12_coast_237] at hm
  obtain ⟨r79, S_77, hq78, hm⟩ := cb_some hm
  have hA : Ag P S0 S_77 := hA.tr (fr_X12_result P n S (hA.cl hc) a0 (pI S 1218 a0) (Ta0) r79 S_77 hq78)
  by_cases h80 : (pI S_77 1205 a0) = (-1)
  · rw [if_pos h80] at hm
    obtain ⟨S_81, hq82, hm⟩ := bd_some hm
    have hA : Ag P S0 S_81 := hA.tr (fr_X12_sets P n S_77 (hA.cl hc) a0 (Ta0)  S_81 hq82)
    cases hm
    exact hA
  · rw [if_neg h80] at hm
    cases hm
    exact hA
set_option maxHeartbeats 1000000 in
set_option maxRecDepth 100000 in
theorem fb_X12_coast_171 (P : Nat → Prop) (S0 : pq_S) (hc : Clo P S0) (n : Nat) (r : Int32) (S1 : pq_S) : ∀ (a0 : Nat) (S : pq_S), Ag P S0 S → P a0 → b_X12_coast_171 n a0 S = some (r, S1) → Ag P S0 S1 := by
  intro a0 S hA Ta0 hm
  rw [b_X12_coast_171] at hm
  exact fb_X12_coast_237 P S0 hc n r S1 a0 S hA (Ta0) hm
set_option maxHeartbeats 1000000 in
set_option maxRecDepth 100000 in
theorem fb_X12_coast_164 (P : Nat → Prop) (S0 : pq_S) (hc : Clo P S0) (n : Nat) (r : Int32) (S1 : pq_S) (k26 : Nat → Int32 → pq_S → Option (Int32 × pq_S)) (hk26 : ∀ (a0 : Nat) (x2 : Int32) (S : pq_S), Ag P S0 S → P a0 → k26 a0 x2 S = some (r, S1) → Ag P S0 S1) : ∀ (a0 : Nat) (x2 : Int32) (x3 : Int32) (x4 : Int32) (S : pq_S), Ag P S0 S → P a0 → b_X12_coast_164 n k26 a0 x2 x3 x4 S = some (r, S1) → Ag P S0 S1 := by
  intro a0 x2 x3 x4 S hA Ta0 hm
  rw [b_X12_coast_164] at hm
  obtain ⟨r51, S_49, hq50, hm⟩ := cb_some hm
  have hA : Ag P S0 S_49 := hA.tr (fr_X12_fine P n S (hA.cl hc) a0 (Ta0) r51 S_49 hq50)
  by_cases h52 : r51 = 0
  · rw [if_pos h52] at hm
    exact fb_X12_coast_171 P S0 hc n r S1 a0 S_49 hA (Ta0) hm
  · rw [if_neg h52] at hm
    obtain ⟨S_53, hq54, hm⟩ := bd_some hm
    have hA : Ag P S0 S_53 := hA.tr (fr_X12_pass P n S_49 (hA.cl hc) a0 (Ta0)  S_53 hq54)
    by_cases h55 : x4 = 0
    · rw [if_pos h55] at hm
      obtain ⟨r58, S_56, hq57, hm⟩ := cb_some hm
      have hA : Ag P S0 S_56 := hA.tr (fr_X12_of P n S_53 (hA.cl hc) 4  r58 S_56 hq57)
      by_cases h59 : x3 = r58
      · rw [if_pos h59] at hm
        obtain ⟨r65, S_63, hq64, hm⟩ := cb_some hm
        have hA : Ag P S0 S_63 := hA.tr (fr_X12_readNumber P n S_56 (hA.cl hc) a0 0 8 (Ta0) r65 S_63 hq64)
        have hA : Ag P S0 (sI S_63 1222 a0 r65) := hA.sI Ta0
        exact fb_X12_coast_225 P S0 hc n r S1 _ hk26 a0 x2 (sI S_63 1222 a0 r65) hA (Ta0) hm
      · rw [if_neg h59] at hm
        obtain ⟨r62, S_60, hq61, hm⟩ := cb_some hm
        have hA : Ag P S0 S_60 := hA.tr (fr_X12_readNumber P n S_56 (hA.cl hc) a0 0 99 (Ta0) r62 S_60 hq61)
        have hA : Ag P S0 (sI S_60 1223 a0 r62) := hA.sI Ta0
        exact fb_X12_coast_225 P S0 hc n r S1 _ hk26 a0 x2 (sI S_60 1223 a0 r62) hA (Ta0) hm
    · rw [if_neg h55] at hm
      obtain ⟨S_66, hq67, hm⟩ := bd_some hm
      have hA : Ag P S0 S_66 := hA.tr (fr_X12_readRow P n S_53 (hA.cl hc) a0 x3 (Ta0)  S_66 hq67)
      exact fb_X12_coast_225 P S0 hc n r S1 _ hk26 a0 x2 S_66 hA (Ta0) hm
set_option maxHeartbeats 1000000 in
set_option maxRecDepth 100000 in
theorem fb_X12_coast_155 (P : Nat → Prop) (S0 : pq_S) (hc : Clo P S0) (n : Nat) (r : Int32) (S1 : pq_S) (k26 : Nat → Int32 → pq_S → Option (Int32 × pq_S)) (hk26 : ∀ (a0 : Nat) (x2 : Int32) (S : pq_S), Ag P S0 S → P a0 → k26 a0 x2 S = some (r, S1) → Ag P S0 S1) : ∀ (a0 : Nat) (x2 : Int32) (x3 : Int32) (x4 : Int32) (S : pq_S), Ag P S0 S → P a0 → b_X12_coast_155 n k26 a0 x2 x3 x4 S = some (r, S1) → Ag P S0 S1 := by
  intro a0 x2 x3 x4 S hA Ta0 hm
  rw [b_X12_coast_155] at hm
  obtain ⟨S_75, hq76, hm⟩ := bd_some hm
  have hA : Ag P S0 S_75 := hA.tr (fr_X12_wrong P n S (hA.cl hc) a0 3 (pI S 1204 a0) (Ta0)  S_75 hq76)
  exact fb_X12_coast_164 P S0 hc n r S1 _ hk26 a0 x2 x3 x4 S_75 hA (Ta0) hm
set_option maxHeartbeats 1000000 in
set_option maxRecDepth 100000 in
theorem fb_X12_coast_141 (P : Nat → Prop) (S0 : pq_S) (hc : Clo P S0) (n : Nat) (r : Int32) (S1 : pq_S) (k26 : Nat → Int32 → pq_S → Option (Int32 × pq_S)) (hk26 : ∀ (a0 : Nat) (x2 : Int32) (S : pq_S), Ag P S0 S → P a0 → k26 a0 x2 S = some (r, S1) → Ag P S0 S1) : ∀ (a0 : Nat) (x2 : Int32) (x3 : Int32) (x4 : Int32) (S : pq_S), Ag P S0 S → P a0 → b_X12_coast_141 n k26 a0 x2 x3 x4 S = some (r, S1) → Ag P S0 S1 := by
  intro a0 x2 x3 x4 S hA Ta0 hm
  rw [b_X12_coast_141] at hm
  by_cases h70 : x2 = 60
  · rw [if_pos h70] at hm
    exact fb_X12_coast_155 P S0 hc n r S1 _ hk26 a0 x2 x3 x4 S hA (Ta0) hm
  · rw [if_neg h70] at hm
    obtain ⟨r73, S_71, hq72, hm⟩ := cb_some hm
    have hA : Ag P S0 S_71 := hA.tr (fr_X12_isFull P n S (hA.cl hc) a0 x3 (Ta0) r73 S_71 hq72)
    by_cases h74 : r73 = 0
    · rw [if_pos h74] at hm
      exact fb_X12_coast_164 P S0 hc n r S1 _ hk26 a0 x2 x3 x4 S_71 hA (Ta0) hm
    · rw [if_neg h74] at hm
      exact fb_X12_coast_155 P S0 hc n r S1 _ hk26 a0 x2 x3 x4 S_71 hA (Ta0) hm
set_option maxHeartbeats 1000000 in
set_option maxRecDepth 100000 in
theorem fb_X12_coast_104 (P : Nat → Prop) (S0 : pq_S) (hc : Clo P S0) (n : Nat) (r : Int32) (S1 : pq_S) (k26 : Nat → Int32 → pq_S → Option (Int32 × pq_S)) (hk26 : ∀ (a0 : Nat) (x2 : Int32) (S : pq_S), Ag P S0 S → P a0 → k26 a0 x2 S = some (r, S1) → Ag P S0 S1) : ∀ (a0 : Nat) (x2 : Int32) (x3 : Int32) (z0 : Int32) (S : pq_S), Ag P S0 S → P a0 → b_X12_coast_104 n k26 a0 x2 x3 z0 S = some (r, S1) → Ag P S0 S1 := by
  intro a0 x2 x3 z0 S hA Ta0 hm
  rw [b_X12_coast_104] at hm
  by_cases h38 : z0 = 0
  · rw [if_pos h38] at hm
    obtain ⟨r41, S_39, hq40, hm⟩ := cb_some hm
    have hA : Ag P S0 S_39 := hA.tr (fr_X12_of P n S (hA.cl hc) 4  r41 S_39 hq40)
    by_cases h42 : x3 = r41
    · rw [if_pos h42] at hm
      exact fb_X12_coast_141 P S0 hc n r S1 _ hk26 a0 x2 x3 z0 S_39 hA (Ta0) hm
    · rw [if_neg h42] at hm
      obtain ⟨r45, S_43, hq44, hm⟩ := cb_some hm
      have hA : Ag P S0 S_43 := hA.tr (fr_X12_of P n S_39 (hA.cl hc) 5  r45 S_43 hq44)
      by_cases h46 : x3 = r45
      · rw [if_pos h46] at hm
        exact fb_X12_coast_141 P S0 hc n r S1 _ hk26 a0 x2 x3 z0 S_43 hA (Ta0) hm
      · rw [if_neg h46] at hm
        obtain ⟨S_47, hq48, hm⟩ := bd_some hm
        have hA : Ag P S0 S_47 := hA.tr (fr_X12_wrong P n S_43 (hA.cl hc) a0 1 (pI S_43 1204 a0) (Ta0)  S_47 hq48)
        exact fb_X12_coast_164 P S0 hc n r S1 _ hk26 a0 x2 x3 z0 S_47 hA (Ta0) hm
  · rw [if_neg h38] at hm
    exact fb_X12_coast_141 P S0 hc n r S1 _ hk26 a0 x2 x3 z0 S hA (Ta0) hm
set_option maxHeartbeats 1000000 in
set_option maxRecDepth 100000 in
theorem fb_X12_coast_99 (P : Nat → Prop) (S0 : pq_S) (hc : Clo P S0) (n : Nat) (r : Int32) (S1 : pq_S) (k26 : Nat → Int32 → pq_S → Option (Int32 × pq_S)) (hk26 : ∀ (a0 : Nat) (x2 : Int32) (S : pq_S), Ag P S0 S → P a0 → k26 a0 x2 S = some (r, S1) → Ag P S0 S1) : ∀ (a0 : Nat) (x2 : Int32) (x3 : Int32) (S : pq_S), Ag P S0 S → P a0 → b_X12_coast_99 n k26 a0 x2 x3 S = some (r, S1) → Ag P S0 S1 := by
  intro a0 x2 x3 S hA Ta0 hm
  rw [b_X12_coast_99] at hm
  exact fb_X12_coast_104 P S0 hc n r S1 _ hk26 a0 x2 x3 1 S hA (Ta0) hm
set_option maxHeartbeats 1000000 in
set_option maxRecDepth 100000 in
theorem fb_X12_coast_44 (P : Nat → Prop) (S0 : pq_S) (hc : Clo P S0) (n : Nat) (r : Int32) (S1 : pq_S) : ∀ (f : Nat) (a0 : Nat) (x2 : Int32) (S : pq_S), Ag P S0 S → P a0 → b_X12_coast_44 n f a0 x2 S = some (r, S1) → Ag P S0 S1 := by
  intro f
  induction f with
  | zero =>
    intro a0 x2 S hA Ta0 hm
    cases hm
  | succ f ih =>
    intro a0 x2 S hA Ta0 hm
    rw [b_X12_coast_44] at hm
    obtain ⟨r13, S_11, hq12, hm⟩ := cb_some hm
    have hA : Ag P S0 S_11 := hA.tr (fr_X12_fine P n S (hA.cl hc) a0 (Ta0) r13 S_11 hq12)
    by_cases h14 : r13 = 0
    · rw [if_pos h14] at hm
      exact fb_X12_coast_237 P S0 hc n r S1 a0 S_11 hA (Ta0) hm
    · rw [if_neg h14] at hm
      obtain ⟨r17, S_15, hq16, hm⟩ := cb_some hm
      have hA : Ag P S0 S_15 := hA.tr (fr_X12_isMore P n S_11 (hA.cl hc) a0 (Ta0) r17 S_15 hq16)
      by_cases h18 : r17 = 0
      · rw [if_pos h18] at hm
        exact fb_X12_coast_237 P S0 hc n r S1 a0 S_15 hA (Ta0) hm
      · rw [if_neg h18] at hm
        obtain ⟨r21, S_19, hq20, hm⟩ := cb_some hm
        have hA : Ag P S0 S_19 := hA.tr (fr_X12_word P n S_15 (hA.cl hc) a0 (Ta0) r21 S_19 hq20)
        obtain ⟨r24, S_22, hq23, hm⟩ := cb_some hm
        have hA : Ag P S0 S_22 := hA.tr (fr_X12_of P n S_19 (hA.cl hc) 0  r24 S_22 hq23)
        by_cases h25 : r21 = r24
        · rw [if_pos h25] at hm
          exact fb_X12_coast_99 P S0 hc n r S1 _ ih a0 x2 r21 S_22 hA (Ta0) hm
        · rw [if_neg h25] at hm
          obtain ⟨r28, S_26, hq27, hm⟩ := cb_some hm
          have hA : Ag P S0 S_26 := hA.tr (fr_X12_of P n S_22 (hA.cl hc) 1  r28 S_26 hq27)
          by_cases h29 : r21 = r28
          · rw [if_pos h29] at hm
            exact fb_X12_coast_99 P S0 hc n r S1 _ ih a0 x2 r21 S_26 hA (Ta0) hm
          · rw [if_neg h29] at hm
            obtain ⟨r32, S_30, hq31, hm⟩ := cb_some hm
            have hA : Ag P S0 S_30 := hA.tr (fr_X12_of P n S_26 (hA.cl hc) 2  r32 S_30 hq31)
            by_cases h33 : r21 = r32
            · rw [if_pos h33] at hm
              exact fb_X12_coast_99 P S0 hc n r S1 _ ih a0 x2 r21 S_30 hA (Ta0) hm
            · rw [if_neg h33] at hm
              obtain ⟨r36, S_34, hq35, hm⟩ := cb_some hm
              have hA : Ag P S0 S_34 := hA.tr (fr_X12_of P n S_30 (hA.cl hc) 3  r36 S_34 hq35)
              by_cases h37 : r21 = r36
              · rw [if_pos h37] at hm
                exact fb_X12_coast_99 P S0 hc n r S1 _ ih a0 x2 r21 S_34 hA (Ta0) hm
              · rw [if_neg h37] at hm
                exact fb_X12_coast_104 P S0 hc n r S1 _ ih a0 x2 r21 0 S_34 hA (Ta0) hm
set_option maxHeartbeats 1000000 in
set_option maxRecDepth 100000 in
theorem fb_X12_coast_23 (P : Nat → Prop) (S0 : pq_S) (hc : Clo P S0) (n : Nat) (r : Int32) (S1 : pq_S) : ∀ (a0 : Nat) (x1 : Int32) (b0 : Nat) (z1 : Int32) (S : pq_S), Ag P S0 S → P a0 → P b0 → b_X12_coast_23 n a0 x1 b0 z1 S = some (r, S1) → Ag P S0 S1 := by
  intro a0 x1 b0 z1 S hA Ta0 Tb0 hm
  rw [b_X12_coast_23] at hm
  obtain ⟨r5, S_3, hq4, hm⟩ := cb_some hm
  have hA : Ag P S0 S_3 := hA.tr (fr_X12_may P n S (hA.cl hc) b0 z1 1 1 (Tb0) r5 S_3 hq4)
  by_cases h6 : r5 = 0
  · rw [if_pos h6] at hm
    cases hm
    exact hA
  · rw [if_neg h6] at hm
    obtain ⟨S_7, hq8, hm⟩ := bd_some hm
    have hA : Ag P S0 S_7 := hA.tr (fr_X12_begins P n S_3 (hA.cl hc) a0 x1 (Ta0)  S_7 hq8)
    obtain ⟨S_9, hq10, hm⟩ := bd_some hm
    have hA : Ag P S0 S_9 := hA.tr (fr_X12_clears P n S_7 (hA.cl hc) a0 (Ta0)  S_9 hq10)
    exact fb_X12_coast_44 P S0 hc n r S1 n a0 0 S_9 hA (Ta0) hm
set_option maxHeartbeats 1000000 in
set_option maxRecDepth 100000 in
theorem fb_X12_coast_22 (P : Nat → Prop) (S0 : pq_S) (hc : Clo P S0) (n : Nat) (r : Int32) (S1 : pq_S) : ∀ (a0 : Nat) (x1 : Int32) (b0 : Nat) (S : pq_S), Ag P S0 S → P a0 → P b0 → b_X12_coast_22 n a0 x1 b0 S = some (r, S1) → Ag P S0 S1 := by
  intro a0 x1 b0 S hA Ta0 Tb0 hm
  rw [b_X12_coast_22] at hm
  exact fb_X12_coast_23 P S0 hc n r S1 a0 x1 b0 0 S hA (Ta0) (Tb0) hm
set_option maxHeartbeats 1000000 in
set_option maxRecDepth 100000 in
theorem fr_X12_coast (P : Nat → Prop) (n : Nat) (S0 : pq_S) (hc : Clo P S0) (a0 : Nat) (x1 : Int32) (Ta0 : P a0) (r : Int32) (S1 : pq_S) (hm : m_X12_coast n a0 x1 S0 = some (r, S1)) : Ag P S0 S1 := by
  have hA : Ag P S0 S0 := Ag.rf _ _
  rw [m_X12_coast] at hm
  have hA : Ag P S0 (sI S0 1200 a0 0) := hA.sI Ta0
  by_cases h1 : x1 < 0
  · rw [if_pos h1] at hm
    exact fb_X12_coast_22 P S0 hc n r S1 a0 x1 a0 (sI S0 1200 a0 0) hA (Ta0) (Ta0) hm
  · rw [if_neg h1] at hm
    by_cases h2 : (pI (sI S0 1200 a0 0) 1202 a0) < x1
    · rw [if_pos h2] at hm
      exact fb_X12_coast_22 P S0 hc n r S1 a0 x1 a0 (sI S0 1200 a0 0) hA (Ta0) (Ta0) hm
    · rw [if_neg h2] at hm
      exact fb_X12_coast_23 P S0 hc n r S1 a0 x1 a0 1 (sI S0 1200 a0 0) hA (Ta0) (Ta0) hm
set_option maxHeartbeats 1000000 in
set_option maxRecDepth 100000 in
theorem fr_X12_emit (P : Nat → Prop) (n : Nat) (S0 : pq_S) (hc : Clo P S0) (a0 : Nat) (x1 : Int32) (x2 : Int32) (Ta0 : P a0) (S1 : pq_S) (hm : m_X12_emit n a0 x1 x2 S0 = some S1) : Ag P S0 S1 := by
  have hA : Ag P S0 S0 := Ag.rf _ _
  rw [m_X12_emit] at hm
  obtain ⟨r3, S_1, hq2, hm⟩ := cb_some hm
  have hA : Ag P S0 S_1 := hA.tr (fr_X12_fine P n S0 (hA.cl hc) a0 (Ta0) r3 S_1 hq2)
  by_cases h4 : r3 = 0
  · rw [if_pos h4] at hm
    cases hm
    exact hA
  · rw [if_neg h4] at hm
    obtain ⟨q5, hq5, hm⟩ := bd_some hm
    have Tq5 : P q5 := hA.clo hc Ta0 hq5
    obtain ⟨hi6, hm⟩ := ck_some hm
    have hA : Ag P S0 (sA S_1 q5 (Int32.toNatClampNeg (pI S_1 1236 a0)) x1) := hA.sA Tq5
    obtain ⟨q7, hq7, hm⟩ := bd_some hm
    have Tq7 : P q7 := hA.clo hc Ta0 hq7
    obtain ⟨hi8, hm⟩ := ck_some hm
    have hA : Ag P S0 (sA (sA S_1 q5 (Int32.toNatClampNeg (pI S_1 1236 a0)) x1) q7 (Int32.toNatClampNeg (pI (sA S_1 q5 (Int32.toNatClampNeg (pI S_1 1236 a0)) x1) 1236 a0)) x2) := hA.sA Tq7
    obtain ⟨S_9, eS_9, hm⟩ := lt_some hm
    have hA : Ag P S0 S_9 := by rw [eS_9]; exact hA
    have hA : Ag P S0 (sI S_9 1236 a0 ((pI S_9 1236 a0) + (1 : Int32))) := hA.sI Ta0
    cases hm
    exact hA
set_option maxHeartbeats 1000000 in
set_option maxRecDepth 100000 in
theorem fb_X12_opensOne_42 (P : Nat → Prop) (S0 : pq_S) (hc : Clo P S0) (n : Nat) (S1 : pq_S) : ∀ (a0 : Nat) (S : pq_S), Ag P S0 S → P a0 → b_X12_opensOne_42 n a0 S = some S1 → Ag P S0 S1 := by
  intro a0 S hA Ta0 hm
  rw [b_X12_opensOne_42] at hm
  have hA : Ag P S0 (sI S 1207 a0 ((pI S 1207 a0) + (1 : Int32))) := hA.sI Ta0
  cases hm
  exact hA
set_option maxHeartbeats 1000000 in
set_option maxRecDepth 100000 in
theorem fb_X12_opensOne_25 (P : Nat → Prop) (S0 : pq_S) (hc : Clo P S0) (n : Nat) (S1 : pq_S) : ∀ (a0 : Nat) (x1 : Int32) (S : pq_S), Ag P S0 S → P a0 → b_X12_opensOne_25 n a0 x1 S = some S1 → Ag P S0 S1 := by
  intro a0 x1 S hA Ta0 hm
  rw [b_X12_opensOne_25] at hm
  obtain ⟨r10, S_8, hq9, hm⟩ := cb_some hm
  have hA : Ag P S0 S_8 := hA.tr (fr_X12_fine P n S (hA.cl hc) a0 (Ta0) r10 S_8 hq9)
  by_cases h11 : r10 = 0
  · rw [if_pos h11] at hm
    exact fb_X12_opensOne_42 P S0 hc n S1 a0 S_8 hA (Ta0) hm
  · rw [if_neg h11] at hm
    have hA : Ag P S0 (sI S_8 1204 a0 ((pI S_8 1204 a0) + x1)) := hA.sI Ta0
    exact fb_X12_opensOne_42 P S0 hc n S1 a0 (sI S_8 1204 a0 ((pI S_8 1204 a0) + x1)) hA (Ta0) hm
set_option maxHeartbeats 1000000 in
set_option maxRecDepth 100000 in
theorem fr_X12_opensOne (P : Nat → Prop) (n : Nat) (S0 : pq_S) (hc : Clo P S0) (a0 : Nat) (x1 : Int32) (Ta0 : P a0) (S1 : pq_S) (hm : m_X12_opensOne n a0 x1 S0 = some S1) : Ag P S0 S1 := by
  have hA : Ag P S0 S0 := Ag.rf _ _
  rw [m_X12_opensOne] at hm
  obtain ⟨r3, S_1, hq2, hm⟩ := cb_some hm
  have hA : Ag P S0 S_1 := hA.tr (fr_X12_fine P n S0 (hA.cl hc) a0 (Ta0) r3 S_1 hq2)
  by_cases h4 : r3 = 0
  · rw [if_pos h4] at hm
    exact fb_X12_opensOne_25 P S0 hc n S1 a0 x1 S_1 hA (Ta0) hm
  · rw [if_neg h4] at hm
    by_cases h5 : (pI S_1 1207 a0) = 6
    · rw [if_pos h5] at hm
      obtain ⟨S_6, hq7, hm⟩ := bd_some hm
      have hA : Ag P S0 S_6 := hA.tr (fr_X12_wrong P n S_1 (hA.cl hc) a0 3 (pI S_1 1204 a0) (Ta0)  S_6 hq7)
      exact fb_X12_opensOne_25 P S0 hc n S1 a0 x1 S_6 hA (Ta0) hm
    · rw [if_neg h5] at hm
      exact fb_X12_opensOne_25 P S0 hc n S1 a0 x1 S_1 hA (Ta0) hm
set_option maxHeartbeats 1000000 in
set_option maxRecDepth 100000 in
theorem fr_X12_factHere (P : Nat → Prop) (n : Nat) (S0 : pq_S) (hc : Clo P S0) (a0 : Nat) (Ta0 : P a0) (r : Int32) (S1 : pq_S) (hm : m_X12_factHere n a0 S0 = some (r, S1)) : Ag P S0 S1 := by
  have hA : Ag P S0 S0 := Ag.rf _ _
  rw [m_X12_factHere] at hm
  obtain ⟨r3, S_1, hq2, hm⟩ := cb_some hm
  have hA : Ag P S0 S_1 := hA.tr (fr_X12_word P n S0 (hA.cl hc) a0 (Ta0) r3 S_1 hq2)
  obtain ⟨r6, S_4, hq5, hm⟩ := cb_some hm
  have hA : Ag P S0 S_4 := hA.tr (fr_X12_of P n S_1 (hA.cl hc) 8  r6 S_4 hq5)
  by_cases h7 : r3 = r6
  · rw [if_pos h7] at hm
    cases hm
    exact hA
  · rw [if_neg h7] at hm
    obtain ⟨r10, S_8, hq9, hm⟩ := cb_some hm
    have hA : Ag P S0 S_8 := hA.tr (fr_X12_of P n S_4 (hA.cl hc) 9  r10 S_8 hq9)
    by_cases h11 : r3 = r10
    · rw [if_pos h11] at hm
      cases hm
      exact hA
    · rw [if_neg h11] at hm
      obtain ⟨r14, S_12, hq13, hm⟩ := cb_some hm
      have hA : Ag P S0 S_12 := hA.tr (fr_X12_of P n S_8 (hA.cl hc) 10  r14 S_12 hq13)
      by_cases h15 : r3 = r14
      · rw [if_pos h15] at hm
        cases hm
        exact hA
      · rw [if_neg h15] at hm
        obtain ⟨r18, S_16, hq17, hm⟩ := cb_some hm
        have hA : Ag P S0 S_16 := hA.tr (fr_X12_of P n S_12 (hA.cl hc) 11  r18 S_16 hq17)
        by_cases h19 : r3 = r18
        · rw [if_pos h19] at hm
          cases hm
          exact hA
        · rw [if_neg h19] at hm
          obtain ⟨r22, S_20, hq21, hm⟩ := cb_some hm
          have hA : Ag P S0 S_20 := hA.tr (fr_X12_of P n S_16 (hA.cl hc) 12  r22 S_20 hq21)
          by_cases h23 : r3 = r22
          · rw [if_pos h23] at hm
            cases hm
            exact hA
          · rw [if_neg h23] at hm
            obtain ⟨r26, S_24, hq25, hm⟩ := cb_some hm
            have hA : Ag P S0 S_24 := hA.tr (fr_X12_of P n S_20 (hA.cl hc) 13  r26 S_24 hq25)
            by_cases h27 : r3 = r26
            · rw [if_pos h27] at hm
              cases hm
              exact hA
            · rw [if_neg h27] at hm
              obtain ⟨r30, S_28, hq29, hm⟩ := cb_some hm
              have hA : Ag P S0 S_28 := hA.tr (fr_X12_of P n S_24 (hA.cl hc) 14  r30 S_28 hq29)
              by_cases h31 : r3 = r30
              · rw [if_pos h31] at hm
                cases hm
                exact hA
              · rw [if_neg h31] at hm
                cases hm
                exact hA
set_option maxHeartbeats 1000000 in
set_option maxRecDepth 100000 in
theorem fb_X12_both_65 (P : Nat → Prop) (S0 : pq_S) (hc : Clo P S0) (n : Nat) (r : Int32) (S1 : pq_S) : ∀ (x1 : Int32) (x2 : Int32) (z0 : Int32) (z1 : Int32) (S : pq_S), Ag P S0 S → b_X12_both_65 n x1 x2 z0 z1 S = some (r, S1) → Ag P S0 S1 := by
  intro x1 x2 z0 z1 S hA hm
  rw [b_X12_both_65] at hm
  by_cases h9 : z0 = z1
  · rw [if_pos h9] at hm
    cases hm
    exact hA
  · rw [if_neg h9] at hm
    cases hm
    exact hA
set_option maxHeartbeats 1000000 in
set_option maxRecDepth 100000 in
theorem fb_X12_both_54 (P : Nat → Prop) (S0 : pq_S) (hc : Clo P S0) (n : Nat) (r : Int32) (S1 : pq_S) : ∀ (x0 : Int32) (x1 : Int32) (x2 : Int32) (z0 : Int32) (S : pq_S), Ag P S0 S → b_X12_both_54 n x0 x1 x2 z0 S = some (r, S1) → Ag P S0 S1 := by
  intro x0 x1 x2 z0 S hA hm
  rw [b_X12_both_54] at hm
  by_cases h8 : x0 = 6
  · rw [if_pos h8] at hm
    exact fb_X12_both_65 P S0 hc n r S1 x1 x2 z0 1 S hA  hm
  · rw [if_neg h8] at hm
    exact fb_X12_both_65 P S0 hc n r S1 x1 x2 z0 0 S hA  hm
set_option maxHeartbeats 1000000 in
set_option maxRecDepth 100000 in
theorem fr_X12_both (P : Nat → Prop) (n : Nat) (S0 : pq_S) (hc : Clo P S0) (x0 : Int32) (x1 : Int32) (x2 : Int32)  (r : Int32) (S1 : pq_S) (hm : m_X12_both n x0 x1 x2 S0 = some (r, S1)) : Ag P S0 S1 := by
  have hA : Ag P S0 S0 := Ag.rf _ _
  rw [m_X12_both] at hm
  by_cases h1 : x0 = 2
  · rw [if_pos h1] at hm
    cases hm
    exact hA
  · rw [if_neg h1] at hm
    by_cases h2 : x0 = 3
    · rw [if_pos h2] at hm
      cases hm
      exact hA
    · rw [if_neg h2] at hm
      by_cases h3 : x0 = 4
      · rw [if_pos h3] at hm
        cases hm
        exact hA
      · rw [if_neg h3] at hm
        by_cases h4 : x0 = 5
        · rw [if_pos h4] at hm
          by_cases h6 : x2 = 0
          · rw [if_pos h6] at hm
            cases hm
            exact hA
          · rw [if_neg h6] at hm
            obtain ⟨hn7, hm⟩ := ck_some hm
            cases hm
            exact hA
        · rw [if_neg h4] at hm
          by_cases h5 : x2 ≤ x1
          · rw [if_pos h5] at hm
            exact fb_X12_both_54 P S0 hc n r S1 x0 x1 x2 0 S0 hA  hm
          · rw [if_neg h5] at hm
            exact fb_X12_both_54 P S0 hc n r S1 x0 x1 x2 1 S0 hA  hm
set_option maxHeartbeats 1000000 in
set_option maxRecDepth 100000 in
theorem fr_X12_clamp (P : Nat → Prop) (n : Nat) (S0 : pq_S) (hc : Clo P S0) (x0 : Int32) (x1 : Int32)  (r : Int32) (S1 : pq_S) (hm : m_X12_clamp n x0 x1 S0 = some (r, S1)) : Ag P S0 S1 := by
  have hA : Ag P S0 S0 := Ag.rf _ _
  rw [m_X12_clamp] at hm
  by_cases h1 : 0 ≤ x0
  · rw [if_pos h1] at hm
    by_cases h2 : x0 ≤ x1
    · rw [if_pos h2] at hm
      cases hm
      exact hA
    · rw [if_neg h2] at hm
      cases hm
      exact hA
  · rw [if_neg h1] at hm
    cases hm
    exact hA
set_option maxHeartbeats 1000000 in
set_option maxRecDepth 100000 in
theorem fb_X12_findFacts_20 (P : Nat → Prop) (S0 : pq_S) (hc : Clo P S0) (n : Nat) (S1 : pq_S) : ∀ (a0 : Nat) (S : pq_S), Ag P S0 S → P a0 → b_X12_findFacts_20 n a0 S = some S1 → Ag P S0 S1 := by
  intro a0 S hA Ta0 hm
  rw [b_X12_findFacts_20] at hm
  obtain ⟨q4, hq4, hm⟩ := bd_some hm
  have Tq4 : P q4 := hA.clo hc Ta0 hq4
  obtain ⟨q5, hq5, hm⟩ := bd_some hm
  have Tq5 : P q5 := hA.clo hc Ta0 hq5
  obtain ⟨hi6, hm⟩ := ck_some hm
  obtain ⟨hi7, hm⟩ := ck_some hm
  have hA : Ag P S0 (sA S q4 (Int32.toNatClampNeg 5) ((pA S q5 (Int32.toNatClampNeg 48)) - (pA S q5 (Int32.toNatClampNeg 48)) / 12 * 12)) := hA.sA Tq4
  obtain ⟨S_8, eS_8, hm⟩ := lt_some hm
  have hA : Ag P S0 S_8 := by rw [eS_8]; exact hA
  obtain ⟨q9, hq9, hm⟩ := bd_some hm
  have Tq9 : P q9 := hA.clo hc Ta0 hq9
  obtain ⟨q10, hq10, hm⟩ := bd_some hm
  have Tq10 : P q10 := hA.clo hc Ta0 hq10
  obtain ⟨hi11, hm⟩ := ck_some hm
  obtain ⟨hi12, hm⟩ := ck_some hm
  have hA : Ag P S0 (sA S_8 q9 (Int32.toNatClampNeg 6) ((pA S_8 q10 (Int32.toNatClampNeg 48)) / 12)) := hA.sA Tq9
  obtain ⟨S_13, eS_13, hm⟩ := lt_some hm
  have hA : Ag P S0 S_13 := by rw [eS_13]; exact hA
  cases hm
  exact hA
set_option maxHeartbeats 1000000 in
set_option maxRecDepth 100000 in
theorem fb_X12_findFacts_2 (P : Nat → Prop) (S0 : pq_S) (hc : Clo P S0) (n : Nat) (S1 : pq_S) : ∀ (f : Nat) (a0 : Nat) (x1 : Int32) (S : pq_S), Ag P S0 S → P a0 → b_X12_findFacts_2 n f a0 x1 S = some S1 → Ag P S0 S1 := by
  intro f
  induction f with
  | zero =>
    intro a0 x1 S hA Ta0 hm
    cases hm
  | succ f ih =>
    intro a0 x1 S hA Ta0 hm
    rw [b_X12_findFacts_2] at hm
    by_cases h1 : 5 ≤ x1
    · rw [if_pos h1] at hm
      exact fb_X12_findFacts_20 P S0 hc n S1 a0 S hA (Ta0) hm
    · rw [if_neg h1] at hm
      obtain ⟨q2, hq2, hm⟩ := bd_some hm
      have Tq2 : P q2 := hA.clo hc Ta0 hq2
      obtain ⟨hi3, hm⟩ := ck_some hm
      have hA : Ag P S0 (sA S q2 (Int32.toNatClampNeg x1) 0) := hA.sA Tq2
      exact ih a0 (x1 + 1) (sA S q2 (Int32.toNatClampNeg x1) 0) hA (Ta0) hm
set_option maxHeartbeats 1000000 in
set_option maxRecDepth 100000 in
theorem fr_X12_findFacts (P : Nat → Prop) (n : Nat) (S0 : pq_S) (hc : Clo P S0) (a0 : Nat) (Ta0 : P a0) (S1 : pq_S) (hm : m_X12_findFacts n a0 S0 = some S1) : Ag P S0 S1 := by
  have hA : Ag P S0 S0 := Ag.rf _ _
  rw [m_X12_findFacts] at hm
  exact fb_X12_findFacts_2 P S0 hc n S1 n a0 0 S0 hA (Ta0) hm
set_option maxHeartbeats 1000000 in
set_option maxRecDepth 100000 in
theorem fr_X12_apart (P : Nat → Prop) (n : Nat) (S0 : pq_S) (hc : Clo P S0) (x0 : Int32) (x1 : Int32)  (r : Int32) (S1 : pq_S) (hm : m_X12_apart n x0 x1 S0 = some (r, S1)) : Ag P S0 S1 := by
  have hA : Ag P S0 S0 := Ag.rf _ _
  rw [m_X12_apart] at hm
  by_cases h1 : x1 ≤ x0
  · rw [if_pos h1] at hm
    cases hm
    exact hA
  · rw [if_neg h1] at hm
    cases hm
    exact hA
set_option maxHeartbeats 1000000 in
set_option maxRecDepth 100000 in
theorem fr_X12_tellsStep (P : Nat → Prop) (n : Nat) (S0 : pq_S) (hc : Clo P S0) (a0 : Nat) (x1 : Int32) (x2 : Int32) (x3 : Int32) (x4 : Int32) (x5 : Int32) (Ta0 : P a0) (S1 : pq_S) (hm : m_X12_tellsStep n a0 x1 x2 x3 x4 x5 S0 = some S1) : Ag P S0 S1 := by
  have hA : Ag P S0 S0 := Ag.rf _ _
  rw [m_X12_tellsStep] at hm
  obtain ⟨r3, S_1, hq2, hm⟩ := cb_some hm
  have hA : Ag P S0 S_1 := hA.tr (fr_X12_fine P n S0 (hA.cl hc) a0 (Ta0) r3 S_1 hq2)
  by_cases h4 : r3 = 0
  · rw [if_pos h4] at hm
    cases hm
    exact hA
  · rw [if_neg h4] at hm
    obtain ⟨q5, hq5, hm⟩ := bd_some hm
    have Tq5 : P q5 := hA.clo hc Ta0 hq5
    obtain ⟨hi6, hm⟩ := ck_some hm
    have hA : Ag P S0 (sA S_1 q5 (Int32.toNatClampNeg (pI S_1 1240 a0)) x1) := hA.sA Tq5
    obtain ⟨q7, hq7, hm⟩ := bd_some hm
    have Tq7 : P q7 := hA.clo hc Ta0 hq7
    obtain ⟨hi8, hm⟩ := ck_some hm
    have hA : Ag P S0 (sA (sA S_1 q5 (Int32.toNatClampNeg (pI S_1 1240 a0)) x1) q7 (Int32.toNatClampNeg ((pI (sA S_1 q5 (Int32.toNatClampNeg (pI S_1 1240 a0)) x1) 1240 a0) + (1 : Int32))) x2) := hA.sA Tq7
    obtain ⟨S_9, eS_9, hm⟩ := lt_some hm
    have hA : Ag P S0 S_9 := by rw [eS_9]; exact hA
    obtain ⟨q10, hq10, hm⟩ := bd_some hm
    have Tq10 : P q10 := hA.clo hc Ta0 hq10
    obtain ⟨hi11, hm⟩ := ck_some hm
    have hA : Ag P S0 (sA S_9 q10 (Int32.toNatClampNeg ((pI S_9 1240 a0) + (2 : Int32))) x3) := hA.sA Tq10
    obtain ⟨q12, hq12, hm⟩ := bd_some hm
    have Tq12 : P q12 := hA.clo hc Ta0 hq12
    obtain ⟨hi13, hm⟩ := ck_some hm
    have hA : Ag P S0 (sA (sA S_9 q10 (Int32.toNatClampNeg ((pI S_9 1240 a0) + (2 : Int32))) x3) q12 (Int32.toNatClampNeg ((pI (sA S_9 q10 (Int32.toNatClampNeg ((pI S_9 1240 a0) + (2 : Int32))) x3) 1240 a0) + (3 : Int32))) x4) := hA.sA Tq12
    obtain ⟨S_14, eS_14, hm⟩ := lt_some hm
    have hA : Ag P S0 S_14 := by rw [eS_14]; exact hA
    obtain ⟨q15, hq15, hm⟩ := bd_some hm
    have Tq15 : P q15 := hA.clo hc Ta0 hq15
    obtain ⟨hi16, hm⟩ := ck_some hm
    have hA : Ag P S0 (sA S_14 q15 (Int32.toNatClampNeg ((pI S_14 1240 a0) + (4 : Int32))) x5) := hA.sA Tq15
    obtain ⟨S_17, eS_17, hm⟩ := lt_some hm
    have hA : Ag P S0 S_17 := by rw [eS_17]; exact hA
    have hA : Ag P S0 (sI S_17 1240 a0 ((pI S_17 1240 a0) + (5 : Int32))) := hA.sI Ta0
    cases hm
    exact hA
set_option maxHeartbeats 1000000 in
set_option maxRecDepth 100000 in
theorem fb_X12_readCarry_52 (P : Nat → Prop) (S0 : pq_S) (hc : Clo P S0) (n : Nat) (S1 : pq_S) : ∀ (a0 : Nat) (x1 : Int32) (x3 : Int32) (S : pq_S), Ag P S0 S → P a0 → b_X12_readCarry_52 n a0 x1 x3 S = some S1 → Ag P S0 S1 := by
  intro a0 x1 x3 S hA Ta0 hm
  rw [b_X12_readCarry_52] at hm
  obtain ⟨r19, S_17, hq18, hm⟩ := cb_some hm
  have hA : Ag P S0 S_17 := hA.tr (fr_X12_readNumber P n S (hA.cl hc) a0 1 99 (Ta0) r19 S_17 hq18)
  obtain ⟨r22, S_20, hq21, hm⟩ := cb_some hm
  have hA : Ag P S0 S_20 := hA.tr (fr_X12_readNumber P n S_17 (hA.cl hc) a0 0 1 (Ta0) r22 S_20 hq21)
  obtain ⟨S_23, hq24, hm⟩ := bd_some hm
  have hA : Ag P S0 S_23 := hA.tr (fr_X12_tellsStep P n S_20 (hA.cl hc) a0 0 x1 x3 r19 r22 (Ta0)  S_23 hq24)
  cases hm
  exact hA
set_option maxHeartbeats 1000000 in
set_option maxRecDepth 100000 in
theorem fr_X12_readCarry (P : Nat → Prop) (n : Nat) (S0 : pq_S) (hc : Clo P S0) (a0 : Nat) (Ta0 : P a0) (S1 : pq_S) (hm : m_X12_readCarry n a0 S0 = some S1) : Ag P S0 S1 := by
  have hA : Ag P S0 S0 := Ag.rf _ _
  rw [m_X12_readCarry] at hm
  obtain ⟨r3, S_1, hq2, hm⟩ := cb_some hm
  have hA : Ag P S0 S_1 := hA.tr (fr_X12_readNumber P n S0 (hA.cl hc) a0 0 ((pI S0 1224 a0) - (1 : Int32)) (Ta0) r3 S_1 hq2)
  obtain ⟨r6, S_4, hq5, hm⟩ := cb_some hm
  have hA : Ag P S0 S_4 := hA.tr (fr_X12_here P n S_1 (hA.cl hc) a0 (Ta0) r6 S_4 hq5)
  obtain ⟨r9, S_7, hq8, hm⟩ := cb_some hm
  have hA : Ag P S0 S_7 := hA.tr (fr_X12_readNumber P n S_4 (hA.cl hc) a0 0 ((pI S_4 1224 a0) - (1 : Int32)) (Ta0) r9 S_7 hq8)
  obtain ⟨r12, S_10, hq11, hm⟩ := cb_some hm
  have hA : Ag P S0 S_10 := hA.tr (fr_X12_fine P n S_7 (hA.cl hc) a0 (Ta0) r12 S_10 hq11)
  by_cases h13 : r12 = 0
  · rw [if_pos h13] at hm
    exact fb_X12_readCarry_52 P S0 hc n S1 a0 r3 r9 S_10 hA (Ta0) hm
  · rw [if_neg h13] at hm
    by_cases h14 : r3 = r9
    · rw [if_pos h14] at hm
      obtain ⟨S_15, hq16, hm⟩ := bd_some hm
      have hA : Ag P S0 S_15 := hA.tr (fr_X12_wrong P n S_10 (hA.cl hc) a0 2 (pI S_4 1204 a0) (Ta0)  S_15 hq16)
      exact fb_X12_readCarry_52 P S0 hc n S1 a0 r3 r9 S_15 hA (Ta0) hm
    · rw [if_neg h14] at hm
      exact fb_X12_readCarry_52 P S0 hc n S1 a0 r3 r9 S_10 hA (Ta0) hm
set_option maxHeartbeats 1000000 in
set_option maxRecDepth 100000 in
theorem fr_X12_adds (P : Nat → Prop) (n : Nat) (S0 : pq_S) (hc : Clo P S0) (a0 : Nat) (x1 : Int32) (x2 : Int32) (Ta0 : P a0) (S1 : pq_S) (hm : m_X12_adds n a0 x1 x2 S0 = some S1) : Ag P S0 S1 := by
  have hA : Ag P S0 S0 := Ag.rf _ _
  rw [m_X12_adds] at hm
  obtain ⟨q1, hq1, hm⟩ := bd_some hm
  have Tq1 : P q1 := hA.clo hc Ta0 hq1
  obtain ⟨q2, hq2, hm⟩ := bd_some hm
  have Tq2 : P q2 := hA.clo hc Ta0 hq2
  obtain ⟨hi3, hm⟩ := ck_some hm
  by_cases h4 : ((pA S0 q2 (Int32.toNatClampNeg x1)) + x2) ≤ 999
  · rw [if_pos h4] at hm
    obtain ⟨q5, hq5, hm⟩ := bd_some hm
    have Tq5 : P q5 := hA.clo hc Ta0 hq5
    obtain ⟨hi6, hm⟩ := ck_some hm
    obtain ⟨hi7, hm⟩ := ck_some hm
    have hA : Ag P S0 (sA S0 q1 (Int32.toNatClampNeg x1) ((pA S0 q5 (Int32.toNatClampNeg x1)) + x2)) := hA.sA Tq1
    obtain ⟨S_8, eS_8, hm⟩ := lt_some hm
    have hA : Ag P S0 S_8 := by rw [eS_8]; exact hA
    cases hm
    exact hA
  · rw [if_neg h4] at hm
    obtain ⟨hi9, hm⟩ := ck_some hm
    have hA : Ag P S0 (sA S0 q1 (Int32.toNatClampNeg x1) 999) := hA.sA Tq1
    cases hm
    exact hA
set_option maxHeartbeats 1000000 in
set_option maxRecDepth 100000 in
theorem fr_X12_isOpenMine (P : Nat → Prop) (n : Nat) (S0 : pq_S) (hc : Clo P S0) (a0 : Nat) (x1 : Int32) (Ta0 : P a0) (r : Int32) (S1 : pq_S) (hm : m_X12_isOpenMine n a0 x1 S0 = some (r, S1)) : Ag P S0 S1 := by
  have hA : Ag P S0 S0 := Ag.rf _ _
  rw [m_X12_isOpenMine] at hm
  obtain ⟨q1, hq1, hm⟩ := bd_some hm
  have Tq1 : P q1 := hA.clo hc Ta0 hq1
  obtain ⟨hi2, hm⟩ := ck_some hm
  obtain ⟨q3, hq3, hm⟩ := bd_some hm
  have Tq3 : P q3 := hA.clo hc Ta0 hq3
  obtain ⟨hi4, hm⟩ := ck_some hm
  by_cases h5 : ((pA S0 q1 (Int32.toNatClampNeg 48)) - (pA S0 q1 (Int32.toNatClampNeg 48)) / 12 * 12) < (pA S0 q3 (Int32.toNatClampNeg (((3 : Int32) * x1) + (2 : Int32))))
  · rw [if_pos h5] at hm
    cases hm
    exact hA
  · rw [if_neg h5] at hm
    cases hm
    exact hA
set_option maxHeartbeats 1000000 in
set_option maxRecDepth 100000 in
theorem fb_X12_canSell_58 (P : Nat → Prop) (S0 : pq_S) (hc : Clo P S0) (n : Nat) (r : Int32) (S1 : pq_S) : ∀ (a0 : Nat) (x1 : Int32) (z0 : Int32) (z1 : Int32) (S : pq_S), Ag P S0 S → P a0 → b_X12_canSell_58 n a0 x1 z0 z1 S = some (r, S1) → Ag P S0 S1 := by
  intro a0 x1 z0 z1 S hA Ta0 hm
  rw [b_X12_canSell_58] at hm
  obtain ⟨q14, hq14, hm⟩ := bd_some hm
  have Tq14 : P q14 := hA.clo hc Ta0 hq14
  obtain ⟨hi15, hm⟩ := ck_some hm
  by_cases h16 : (z0 + z1) < (pA S q14 (Int32.toNatClampNeg (((4 : Int32) * x1) + (1 : Int32))))
  · rw [if_pos h16] at hm
    cases hm
    exact hA
  · rw [if_neg h16] at hm
    cases hm
    exact hA
set_option maxHeartbeats 1000000 in
set_option maxRecDepth 100000 in
theorem fr_X12_canSell (P : Nat → Prop) (n : Nat) (S0 : pq_S) (hc : Clo P S0) (a0 : Nat) (x1 : Int32) (Ta0 : P a0) (r : Int32) (S1 : pq_S) (hm : m_X12_canSell n a0 x1 S0 = some (r, S1)) : Ag P S0 S1 := by
  have hA : Ag P S0 S0 := Ag.rf _ _
  rw [m_X12_canSell] at hm
  obtain ⟨q1, hq1, hm⟩ := bd_some hm
  have Tq1 : P q1 := hA.clo hc Ta0 hq1
  obtain ⟨hi2, hm⟩ := ck_some hm
  by_cases h3 : (pA S0 q1 (Int32.toNatClampNeg ((18 : Int32) + x1))) = 0
  · rw [if_pos h3] at hm
    cases hm
    exact hA
  · rw [if_neg h3] at hm
    obtain ⟨q4, hq4, hm⟩ := bd_some hm
    have Tq4 : P q4 := hA.clo hc Ta0 hq4
    obtain ⟨hi5, hm⟩ := ck_some hm
    obtain ⟨v6, ev6, hm⟩ := lt_some hm
    obtain ⟨q7, hq7, hm⟩ := bd_some hm
    have Tq7 : P q7 := hA.clo hc Ta0 hq7
    obtain ⟨hi8, hm⟩ := ck_some hm
    obtain ⟨q9, hq9, hm⟩ := bd_some hm
    have Tq9 : P q9 := hA.clo hc Ta0 hq9
    obtain ⟨hi10, hm⟩ := ck_some hm
    by_cases h11 : (pA S0 q9 (Int32.toNatClampNeg (((4 : Int32) * x1) + (2 : Int32)))) = 1
    · rw [if_pos h11] at hm
      exact fb_X12_canSell_58 P S0 hc n r S1 a0 x1 (pA S0 q7 (Int32.toNatClampNeg ((0 : Int32) + v6))) 0 S0 hA (Ta0) hm
    · rw [if_neg h11] at hm
      obtain ⟨q12, hq12, hm⟩ := bd_some hm
      have Tq12 : P q12 := hA.clo hc Ta0 hq12
      obtain ⟨hi13, hm⟩ := ck_some hm
      exact fb_X12_canSell_58 P S0 hc n r S1 a0 x1 (pA S0 q7 (Int32.toNatClampNeg ((0 : Int32) + v6))) (pA S0 q12 (Int32.toNatClampNeg ((6 : Int32) + v6))) S0 hA (Ta0) hm
set_option maxHeartbeats 1000000 in
set_option maxRecDepth 100000 in
theorem fb_X12_sells_74 (P : Nat → Prop) (S0 : pq_S) (hc : Clo P S0) (n : Nat) (r : Int32) (S1 : pq_S) : ∀ (a0 : Nat) (x1 : Int32) (x2 : Int32) (x3 : Int32) (z0 : Int32) (S : pq_S), Ag P S0 S → P a0 → b_X12_sells_74 n a0 x1 x2 x3 z0 S = some (r, S1) → Ag P S0 S1 := by
  intro a0 x1 x2 x3 z0 S hA Ta0 hm
  rw [b_X12_sells_74] at hm
  obtain ⟨q19, hq19, hm⟩ := bd_some hm
  have Tq19 : P q19 := hA.clo hc Ta0 hq19
  obtain ⟨hi20, hm⟩ := ck_some hm
  obtain ⟨hi21, hm⟩ := ck_some hm
  have hA : Ag P S0 (sA S q19 (Int32.toNatClampNeg ((6 : Int32) + x2)) ((pA S q19 (Int32.toNatClampNeg ((6 : Int32) + x2))) - z0)) := hA.sA Tq19
  obtain ⟨S_22, eS_22, hm⟩ := lt_some hm
  have hA : Ag P S0 S_22 := by rw [eS_22]; exact hA
  obtain ⟨q23, hq23, hm⟩ := bd_some hm
  have Tq23 : P q23 := hA.clo hc Ta0 hq23
  obtain ⟨hi24, hm⟩ := ck_some hm
  obtain ⟨hi25, hm⟩ := ck_some hm
  have hA : Ag P S0 (sA S_22 q23 (Int32.toNatClampNeg ((0 : Int32) + x2)) ((pA S_22 q23 (Int32.toNatClampNeg ((0 : Int32) + x2))) - (x3 - z0))) := hA.sA Tq23
  obtain ⟨S_26, eS_26, hm⟩ := lt_some hm
  have hA : Ag P S0 S_26 := by rw [eS_26]; exact hA
  obtain ⟨q27, hq27, hm⟩ := bd_some hm
  have Tq27 : P q27 := hA.clo hc Ta0 hq27
  obtain ⟨hi28, hm⟩ := ck_some hm
  obtain ⟨q29, hq29, hm⟩ := bd_some hm
  have Tq29 : P q29 := hA.clo hc Ta0 hq29
  obtain ⟨hi30, hm⟩ := ck_some hm
  obtain ⟨hi31, hm⟩ := ck_some hm
  have hA : Ag P S0 (sA S_26 q27 (Int32.toNatClampNeg 49) ((pA S_26 q27 (Int32.toNatClampNeg 49)) + (pA S_26 q29 (Int32.toNatClampNeg (((4 : Int32) * x1) + (3 : Int32)))))) := hA.sA Tq27
  obtain ⟨S_32, eS_32, hm⟩ := lt_some hm
  have hA : Ag P S0 S_32 := by rw [eS_32]; exact hA
  obtain ⟨q33, hq33, hm⟩ := bd_some hm
  have Tq33 : P q33 := hA.clo hc Ta0 hq33
  obtain ⟨hi34, hm⟩ := ck_some hm
  have hA : Ag P S0 (sA S_32 q33 (Int32.toNatClampNeg ((18 : Int32) + x1)) 0) := hA.sA Tq33
  obtain ⟨q35, hq35, hm⟩ := bd_some hm
  have Tq35 : P q35 := hA.clo hc Ta0 hq35
  obtain ⟨hi36, hm⟩ := ck_some hm
  obtain ⟨hi37, hm⟩ := ck_some hm
  have hA : Ag P S0 (sA (sA S_32 q33 (Int32.toNatClampNeg ((18 : Int32) + x1)) 0) q35 (Int32.toNatClampNeg ((30 : Int32) + x1)) ((pA (sA S_32 q33 (Int32.toNatClampNeg ((18 : Int32) + x1)) 0) q35 (Int32.toNatClampNeg ((30 : Int32) + x1))) + (1 : Int32))) := hA.sA Tq35
  obtain ⟨S_38, eS_38, hm⟩ := lt_some hm
  have hA : Ag P S0 S_38 := by rw [eS_38]; exact hA
  cases hm
  exact hA
set_option maxHeartbeats 1000000 in
set_option maxRecDepth 100000 in
theorem fr_X12_sells (P : Nat → Prop) (n : Nat) (S0 : pq_S) (hc : Clo P S0) (a0 : Nat) (x1 : Int32) (Ta0 : P a0) (r : Int32) (S1 : pq_S) (hm : m_X12_sells n a0 x1 S0 = some (r, S1)) : Ag P S0 S1 := by
  have hA : Ag P S0 S0 := Ag.rf _ _
  rw [m_X12_sells] at hm
  obtain ⟨r3, S_1, hq2, hm⟩ := cb_some hm
  have hA : Ag P S0 S_1 := hA.tr (fr_X12_canSell P n S0 (hA.cl hc) a0 x1 (Ta0) r3 S_1 hq2)
  by_cases h4 : r3 = 0
  · rw [if_pos h4] at hm
    cases hm
    exact hA
  · rw [if_neg h4] at hm
    obtain ⟨q5, hq5, hm⟩ := bd_some hm
    have Tq5 : P q5 := hA.clo hc Ta0 hq5
    obtain ⟨hi6, hm⟩ := ck_some hm
    obtain ⟨v7, ev7, hm⟩ := lt_some hm
    obtain ⟨q8, hq8, hm⟩ := bd_some hm
    have Tq8 : P q8 := hA.clo hc Ta0 hq8
    obtain ⟨hi9, hm⟩ := ck_some hm
    obtain ⟨v10, ev10, hm⟩ := lt_some hm
    obtain ⟨q11, hq11, hm⟩ := bd_some hm
    have Tq11 : P q11 := hA.clo hc Ta0 hq11
    obtain ⟨hi12, hm⟩ := ck_some hm
    by_cases h13 : (pA S_1 q11 (Int32.toNatClampNeg (((4 : Int32) * x1) + (2 : Int32)))) = 1
    · rw [if_pos h13] at hm
      exact fb_X12_sells_74 P S0 hc n r S1 a0 x1 v7 v10 0 S_1 hA (Ta0) hm
    · rw [if_neg h13] at hm
      obtain ⟨q14, hq14, hm⟩ := bd_some hm
      have Tq14 : P q14 := hA.clo hc Ta0 hq14
      obtain ⟨hi15, hm⟩ := ck_some hm
      by_cases h16 : (pA S_1 q14 (Int32.toNatClampNeg ((6 : Int32) + v7))) ≤ v10
      · rw [if_pos h16] at hm
        obtain ⟨q17, hq17, hm⟩ := bd_some hm
        have Tq17 : P q17 := hA.clo hc Ta0 hq17
        obtain ⟨hi18, hm⟩ := ck_some hm
        exact fb_X12_sells_74 P S0 hc n r S1 a0 x1 v7 v10 (pA S_1 q17 (Int32.toNatClampNeg ((6 : Int32) + v7))) S_1 hA (Ta0) hm
      · rw [if_neg h16] at hm
        exact fb_X12_sells_74 P S0 hc n r S1 a0 x1 v7 v10 v10 S_1 hA (Ta0) hm
set_option maxHeartbeats 1000000 in
set_option maxRecDepth 100000 in
theorem fb_X12_month_134 (P : Nat → Prop) (S0 : pq_S) (hc : Clo P S0) (n : Nat) (S1 : pq_S) : ∀ (a0 : Nat) (S : pq_S), Ag P S0 S → P a0 → b_X12_month_134 n a0 S = some S1 → Ag P S0 S1 := by
  intro a0 S hA Ta0 hm
  rw [b_X12_month_134] at hm
  obtain ⟨q27, hq27, hm⟩ := bd_some hm
  have Tq27 : P q27 := hA.clo hc Ta0 hq27
  obtain ⟨hi28, hm⟩ := ck_some hm
  obtain ⟨hi29, hm⟩ := ck_some hm
  have hA : Ag P S0 (sA S q27 (Int32.toNatClampNeg 48) ((pA S q27 (Int32.toNatClampNeg 48)) + (1 : Int32))) := hA.sA Tq27
  obtain ⟨S_30, eS_30, hm⟩ := lt_some hm
  have hA : Ag P S0 S_30 := by rw [eS_30]; exact hA
  cases hm
  exact hA
set_option maxHeartbeats 1000000 in
set_option maxRecDepth 100000 in
theorem fb_X12_month_110 (P : Nat → Prop) (S0 : pq_S) (hc : Clo P S0) (n : Nat) (S1 : pq_S) : ∀ (f : Nat) (a0 : Nat) (x1 : Int32) (S : pq_S), Ag P S0 S → P a0 → b_X12_month_110 n f a0 x1 S = some S1 → Ag P S0 S1 := by
  intro f
  induction f with
  | zero =>
    intro a0 x1 S hA Ta0 hm
    cases hm
  | succ f ih =>
    intro a0 x1 S hA Ta0 hm
    rw [b_X12_month_110] at hm
    by_cases h24 : (pI S 1225 a0) ≤ x1
    · rw [if_pos h24] at hm
      exact fb_X12_month_134 P S0 hc n S1 a0 S hA (Ta0) hm
    · rw [if_neg h24] at hm
      obtain ⟨q25, hq25, hm⟩ := bd_some hm
      have Tq25 : P q25 := hA.clo hc Ta0 hq25
      obtain ⟨hi26, hm⟩ := ck_some hm
      have hA : Ag P S0 (sA S q25 (Int32.toNatClampNeg ((18 : Int32) + x1)) 1) := hA.sA Tq25
      exact ih a0 (x1 + 1) (sA S q25 (Int32.toNatClampNeg ((18 : Int32) + x1)) 1) hA (Ta0) hm
set_option maxHeartbeats 1000000 in
set_option maxRecDepth 100000 in
theorem fb_X12_month_108 (P : Nat → Prop) (S0 : pq_S) (hc : Clo P S0) (n : Nat) (S1 : pq_S) : ∀ (a0 : Nat) (S : pq_S), Ag P S0 S → P a0 → b_X12_month_108 n a0 S = some S1 → Ag P S0 S1 := by
  intro a0 S hA Ta0 hm
  rw [b_X12_month_108] at hm
  exact fb_X12_month_110 P S0 hc n S1 n a0 0 S hA (Ta0) hm
set_option maxHeartbeats 1000000 in
set_option maxRecDepth 100000 in
theorem fb_X12_month_2 (P : Nat → Prop) (S0 : pq_S) (hc : Clo P S0) (n : Nat) (S1 : pq_S) : ∀ (f : Nat) (a0 : Nat) (x1 : Int32) (S : pq_S), Ag P S0 S → P a0 → b_X12_month_2 n f a0 x1 S = some S1 → Ag P S0 S1 := by
  intro f
  induction f with
  | zero =>
    intro a0 x1 S hA Ta0 hm
    cases hm
  | succ f ih =>
    intro a0 x1 S hA Ta0 hm
    rw [b_X12_month_2] at hm
    by_cases h1 : (pI S 1224 a0) ≤ x1
    · rw [if_pos h1] at hm
      exact fb_X12_month_108 P S0 hc n S1 a0 S hA (Ta0) hm
    · rw [if_neg h1] at hm
      obtain ⟨q2, hq2, hm⟩ := bd_some hm
      have Tq2 : P q2 := hA.clo hc Ta0 hq2
      obtain ⟨hi3, hm⟩ := ck_some hm
      obtain ⟨v4, ev4, hm⟩ := lt_some hm
      obtain ⟨q5, hq5, hm⟩ := bd_some hm
      have Tq5 : P q5 := hA.clo hc Ta0 hq5
      obtain ⟨hi6, hm⟩ := ck_some hm
      obtain ⟨v7, ev7, hm⟩ := lt_some hm
      obtain ⟨q8, hq8, hm⟩ := bd_some hm
      have Tq8 : P q8 := hA.clo hc Ta0 hq8
      obtain ⟨hi9, hm⟩ := ck_some hm
      obtain ⟨hi10, hm⟩ := ck_some hm
      have hA : Ag P S0 (sA S q8 (Int32.toNatClampNeg ((0 : Int32) + x1)) ((pA S q8 (Int32.toNatClampNeg ((0 : Int32) + x1))) - v4)) := hA.sA Tq8
      obtain ⟨S_11, eS_11, hm⟩ := lt_some hm
      have hA : Ag P S0 S_11 := by rw [eS_11]; exact hA
      obtain ⟨q12, hq12, hm⟩ := bd_some hm
      have Tq12 : P q12 := hA.clo hc Ta0 hq12
      obtain ⟨hi13, hm⟩ := ck_some hm
      obtain ⟨hi14, hm⟩ := ck_some hm
      have hA : Ag P S0 (sA S_11 q12 (Int32.toNatClampNeg ((6 : Int32) + x1)) ((pA S_11 q12 (Int32.toNatClampNeg ((6 : Int32) + x1))) - v7)) := hA.sA Tq12
      obtain ⟨S_15, eS_15, hm⟩ := lt_some hm
      have hA : Ag P S0 S_15 := by rw [eS_15]; exact hA
      obtain ⟨q16, hq16, hm⟩ := bd_some hm
      have Tq16 : P q16 := hA.clo hc Ta0 hq16
      obtain ⟨hi17, hm⟩ := ck_some hm
      obtain ⟨hi18, hm⟩ := ck_some hm
      have hA : Ag P S0 (sA S_15 q16 (Int32.toNatClampNeg ((12 : Int32) + x1)) ((pA S_15 q16 (Int32.toNatClampNeg ((12 : Int32) + x1))) + (v4 + v7))) := hA.sA Tq16
      obtain ⟨S_19, eS_19, hm⟩ := lt_some hm
      have hA : Ag P S0 S_19 := by rw [eS_19]; exact hA
      obtain ⟨q20, hq20, hm⟩ := bd_some hm
      have Tq20 : P q20 := hA.clo hc Ta0 hq20
      obtain ⟨hi21, hm⟩ := ck_some hm
      obtain ⟨S_22, hq23, hm⟩ := bd_some hm
      have hA : Ag P S0 S_22 := hA.tr (fr_X12_adds P n S_19 (hA.cl hc) a0 ((0 : Int32) + x1) (pA S_19 q20 (Int32.toNatClampNeg (((4 : Int32) * x1) + (3 : Int32)))) (Ta0)  S_22 hq23)
      exact ih a0 (x1 + 1) S_22 hA (Ta0) hm
set_option maxHeartbeats 1000000 in
set_option maxRecDepth 100000 in
theorem fr_X12_month (P : Nat → Prop) (n : Nat) (S0 : pq_S) (hc : Clo P S0) (a0 : Nat) (Ta0 : P a0) (S1 : pq_S) (hm : m_X12_month n a0 S0 = some S1) : Ag P S0 S1 := by
  have hA : Ag P S0 S0 := Ag.rf _ _
  rw [m_X12_month] at hm
  exact fb_X12_month_2 P S0 hc n S1 n a0 0 S0 hA (Ta0) hm
set_option maxHeartbeats 1000000 in
set_option maxRecDepth 100000 in
theorem fr_X12_take (P : Nat → Prop) (n : Nat) (S0 : pq_S) (hc : Clo P S0) (a0 : Nat) (Ta0 : P a0) (S1 : pq_S) (hm : m_X12_take n a0 S0 = some S1) : Ag P S0 S1 := by
  have hA : Ag P S0 S0 := Ag.rf _ _
  rw [m_X12_take] at hm
  obtain ⟨q1, hq1, hm⟩ := bd_some hm
  have Tq1 : P q1 := hA.clo hc Ta0 hq1
  obtain ⟨q2, hq2, hm⟩ := bd_some hm
  have Tq2 : P q2 := hA.clo hc Ta0 hq2
  obtain ⟨S_3, hq4, hm⟩ := bd_some hm
  have hA : Ag P S0 S_3 := hA.tr (fr_X12_copies P n S0 (hA.cl hc) a0 q1 q2 50 (Ta0) (Tq1) (Tq2)  S_3 hq4)
  cases hm
  exact hA
set_option maxHeartbeats 1000000 in
set_option maxRecDepth 100000 in
theorem fb_X12_book_185 (P : Nat → Prop) (S0 : pq_S) (hc : Clo P S0) (n : Nat) (r : Int32) (S1 : pq_S) : ∀ (a0 : Nat) (x2 : Int32) (S : pq_S), Ag P S0 S → P a0 → b_X12_book_185 n a0 x2 S = some (r, S1) → Ag P S0 S1 := by
  intro a0 x2 S hA Ta0 hm
  rw [b_X12_book_185] at hm
  obtain ⟨r52, S_50, hq51, hm⟩ := cb_some hm
  have hA : Ag P S0 S_50 := hA.tr (fr_X12_result P n S (hA.cl hc) a0 x2 (Ta0) r52 S_50 hq51)
  by_cases h53 : (pI S_50 1205 a0) = (-1)
  · rw [if_pos h53] at hm
    have hA : Ag P S0 (sI S_50 1251 a0 x2) := hA.sI Ta0
    obtain ⟨q54, hq54, hm⟩ := bd_some hm
    have Tq54 : P q54 := hA.clo hc Ta0 hq54
    obtain ⟨q55, hq55, hm⟩ := bd_some hm
    have Tq55 : P q55 := hA.clo hc Ta0 hq55
    obtain ⟨S_56, hq57, hm⟩ := bd_some hm
    have hA : Ag P S0 S_56 := hA.tr (fr_X12_copies P n (sI S_50 1251 a0 x2) (hA.cl hc) a0 q54 q55 ((2 : Int32) * x2) (Ta0) (Tq54) (Tq55)  S_56 hq57)
    cases hm
    exact hA
  · rw [if_neg h53] at hm
    cases hm
    exact hA
set_option maxHeartbeats 1000000 in
set_option maxRecDepth 100000 in
theorem fb_X12_book_147 (P : Nat → Prop) (S0 : pq_S) (hc : Clo P S0) (n : Nat) (r : Int32) (S1 : pq_S) : ∀ (a0 : Nat) (x2 : Int32) (S : pq_S), Ag P S0 S → P a0 → b_X12_book_147 n a0 x2 S = some (r, S1) → Ag P S0 S1 := by
  intro a0 x2 S hA Ta0 hm
  rw [b_X12_book_147] at hm
  exact fb_X12_book_185 P S0 hc n r S1 a0 x2 S hA (Ta0) hm
set_option maxHeartbeats 1000000 in
set_option maxRecDepth 100000 in
theorem fb_X12_book_125 (P : Nat → Prop) (S0 : pq_S) (hc : Clo P S0) (n : Nat) (r : Int32) (S1 : pq_S) (k29 : Nat → Int32 → Int32 → pq_S → Option (Int32 × pq_S)) (hk29 : ∀ (a0 : Nat) (x2 : Int32) (x3 : Int32) (S : pq_S), Ag P S0 S → P a0 → k29 a0 x2 x3 S = some (r, S1) → Ag P S0 S1) : ∀ (a0 : Nat) (x2 : Int32) (x3 : Int32) (x5 : Int32) (S : pq_S), Ag P S0 S → P a0 → b_X12_book_125 n k29 a0 x2 x3 x5 S = some (r, S1) → Ag P S0 S1 := by
  intro a0 x2 x3 x5 S hA Ta0 hm
  rw [b_X12_book_125] at hm
  obtain ⟨r37, S_35, hq36, hm⟩ := cb_some hm
  have hA : Ag P S0 S_35 := hA.tr (fr_X12_readNumber P n S (hA.cl hc) a0 0 99 (Ta0) r37 S_35 hq36)
  obtain ⟨S_38, hq39, hm⟩ := bd_some hm
  have hA : Ag P S0 S_38 := hA.tr (fr_X12_sign P n S_35 (hA.cl hc) a0 59 (Ta0)  S_38 hq39)
  obtain ⟨r42, S_40, hq41, hm⟩ := cb_some hm
  have hA : Ag P S0 S_40 := hA.tr (fr_X12_fine P n S_38 (hA.cl hc) a0 (Ta0) r42 S_40 hq41)
  by_cases h43 : r42 = 0
  · rw [if_pos h43] at hm
    exact fb_X12_book_147 P S0 hc n r S1 a0 x2 S_40 hA (Ta0) hm
  · rw [if_neg h43] at hm
    obtain ⟨v44, ev44, hm⟩ := lt_some hm
    obtain ⟨q45, hq45, hm⟩ := bd_some hm
    have Tq45 : P q45 := hA.clo hc Ta0 hq45
    obtain ⟨hi46, hm⟩ := ck_some hm
    have hA : Ag P S0 (sA S_40 q45 (Int32.toNatClampNeg ((2 : Int32) * x2)) x5) := hA.sA Tq45
    obtain ⟨q47, hq47, hm⟩ := bd_some hm
    have Tq47 : P q47 := hA.clo hc Ta0 hq47
    obtain ⟨hi48, hm⟩ := ck_some hm
    have hA : Ag P S0 (sA (sA S_40 q45 (Int32.toNatClampNeg ((2 : Int32) * x2)) x5) q47 (Int32.toNatClampNeg (((2 : Int32) * x2) + (1 : Int32))) r37) := hA.sA Tq47
    obtain ⟨S_49, eS_49, hm⟩ := lt_some hm
    have hA : Ag P S0 S_49 := by rw [eS_49]; exact hA
    exact hk29 a0 (x2 + 1) v44 S_49 hA (Ta0) hm
set_option maxHeartbeats 1000000 in
set_option maxRecDepth 100000 in
theorem fb_X12_book_105 (P : Nat → Prop) (S0 : pq_S) (hc : Clo P S0) (n : Nat) (r : Int32) (S1 : pq_S) (k29 : Nat → Int32 → Int32 → pq_S → Option (Int32 × pq_S)) (hk29 : ∀ (a0 : Nat) (x2 : Int32) (x3 : Int32) (S : pq_S), Ag P S0 S → P a0 → k29 a0 x2 x3 S = some (r, S1) → Ag P S0 S1) : ∀ (a0 : Nat) (x2 : Int32) (x3 : Int32) (x4 : Int32) (x5 : Int32) (S : pq_S), Ag P S0 S → P a0 → b_X12_book_105 n k29 a0 x2 x3 x4 x5 S = some (r, S1) → Ag P S0 S1 := by
  intro a0 x2 x3 x4 x5 S hA Ta0 hm
  rw [b_X12_book_105] at hm
  obtain ⟨r30, S_28, hq29, hm⟩ := cb_some hm
  have hA : Ag P S0 S_28 := hA.tr (fr_X12_fine P n S (hA.cl hc) a0 (Ta0) r30 S_28 hq29)
  by_cases h31 : r30 = 0
  · rw [if_pos h31] at hm
    exact fb_X12_book_125 P S0 hc n r S1 _ hk29 a0 x2 x3 x5 S_28 hA (Ta0) hm
  · rw [if_neg h31] at hm
    by_cases h32 : x2 = 6
    · rw [if_pos h32] at hm
      obtain ⟨S_33, hq34, hm⟩ := bd_some hm
      have hA : Ag P S0 S_33 := hA.tr (fr_X12_wrong P n S_28 (hA.cl hc) a0 3 x4 (Ta0)  S_33 hq34)
      exact fb_X12_book_125 P S0 hc n r S1 _ hk29 a0 x2 x3 x5 S_33 hA (Ta0) hm
    · rw [if_neg h32] at hm
      exact fb_X12_book_125 P S0 hc n r S1 _ hk29 a0 x2 x3 x5 S_28 hA (Ta0) hm
set_option maxHeartbeats 1000000 in
set_option maxRecDepth 100000 in
theorem fb_X12_book_48 (P : Nat → Prop) (S0 : pq_S) (hc : Clo P S0) (n : Nat) (r : Int32) (S1 : pq_S) : ∀ (f : Nat) (a0 : Nat) (x2 : Int32) (x3 : Int32) (S : pq_S), Ag P S0 S → P a0 → b_X12_book_48 n f a0 x2 x3 S = some (r, S1) → Ag P S0 S1 := by
  intro f
  induction f with
  | zero =>
    intro a0 x2 x3 S hA Ta0 hm
    cases hm
  | succ f ih =>
    intro a0 x2 x3 S hA Ta0 hm
    rw [b_X12_book_48] at hm
    obtain ⟨r12, S_10, hq11, hm⟩ := cb_some hm
    have hA : Ag P S0 S_10 := hA.tr (fr_X12_fine P n S (hA.cl hc) a0 (Ta0) r12 S_10 hq11)
    by_cases h13 : r12 = 0
    · rw [if_pos h13] at hm
      exact fb_X12_book_185 P S0 hc n r S1 a0 x2 S_10 hA (Ta0) hm
    · rw [if_neg h13] at hm
      obtain ⟨r16, S_14, hq15, hm⟩ := cb_some hm
      have hA : Ag P S0 S_14 := hA.tr (fr_X12_isMore P n S_10 (hA.cl hc) a0 (Ta0) r16 S_14 hq15)
      by_cases h17 : r16 = 0
      · rw [if_pos h17] at hm
        exact fb_X12_book_185 P S0 hc n r S1 a0 x2 S_14 hA (Ta0) hm
      · rw [if_neg h17] at hm
        obtain ⟨r20, S_18, hq19, hm⟩ := cb_some hm
        have hA : Ag P S0 S_18 := hA.tr (fr_X12_readNumber P n S_14 (hA.cl hc) a0 0 ((pI S_14 1224 a0) - (1 : Int32)) (Ta0) r20 S_18 hq19)
        obtain ⟨r23, S_21, hq22, hm⟩ := cb_some hm
        have hA : Ag P S0 S_21 := hA.tr (fr_X12_fine P n S_18 (hA.cl hc) a0 (Ta0) r23 S_21 hq22)
        by_cases h24 : r23 = 0
        · rw [if_pos h24] at hm
          exact fb_X12_book_105 P S0 hc n r S1 _ ih a0 x2 x3 (pI S_14 1204 a0) r20 S_21 hA (Ta0) hm
        · rw [if_neg h24] at hm
          by_cases h25 : ((x3 >>> (r20 &&& (31 : Int32))) &&& (1 : Int32)) = 1
          · rw [if_pos h25] at hm
            obtain ⟨S_26, hq27, hm⟩ := bd_some hm
            have hA : Ag P S0 S_26 := hA.tr (fr_X12_wrong P n S_21 (hA.cl hc) a0 2 (pI S_14 1204 a0) (Ta0)  S_26 hq27)
            exact fb_X12_book_105 P S0 hc n r S1 _ ih a0 x2 x3 (pI S_14 1204 a0) r20 S_26 hA (Ta0) hm
          · rw [if_neg h25] at hm
            exact fb_X12_book_105 P S0 hc n r S1 _ ih a0 x2 x3 (pI S_14 1204 a0) r20 S_21 hA (Ta0) hm
set_option maxHeartbeats 1000000 in
set_option maxRecDepth 100000 in
theorem fb_X12_book_29 (P : Nat → Prop) (S0 : pq_S) (hc : Clo P S0) (n : Nat) (r : Int32) (S1 : pq_S) : ∀ (a0 : Nat) (x1 : Int32) (b0 : Nat) (z1 : Int32) (S : pq_S), Ag P S0 S → P a0 → P b0 → b_X12_book_29 n a0 x1 b0 z1 S = some (r, S1) → Ag P S0 S1 := by
  intro a0 x1 b0 z1 S hA Ta0 Tb0 hm
  rw [b_X12_book_29] at hm
  obtain ⟨r6, S_4, hq5, hm⟩ := cb_some hm
  have hA : Ag P S0 S_4 := hA.tr (fr_X12_may P n S (hA.cl hc) b0 z1 1 1 (Tb0) r6 S_4 hq5)
  by_cases h7 : r6 = 0
  · rw [if_pos h7] at hm
    cases hm
    exact hA
  · rw [if_neg h7] at hm
    obtain ⟨S_8, hq9, hm⟩ := bd_some hm
    have hA : Ag P S0 S_8 := hA.tr (fr_X12_begins P n S_4 (hA.cl hc) a0 x1 (Ta0)  S_8 hq9)
    exact fb_X12_book_48 P S0 hc n r S1 n a0 0 0 S_8 hA (Ta0) hm
set_option maxHeartbeats 1000000 in
set_option maxRecDepth 100000 in
theorem fb_X12_book_28 (P : Nat → Prop) (S0 : pq_S) (hc : Clo P S0) (n : Nat) (r : Int32) (S1 : pq_S) : ∀ (a0 : Nat) (x1 : Int32) (b0 : Nat) (S : pq_S), Ag P S0 S → P a0 → P b0 → b_X12_book_28 n a0 x1 b0 S = some (r, S1) → Ag P S0 S1 := by
  intro a0 x1 b0 S hA Ta0 Tb0 hm
  rw [b_X12_book_28] at hm
  exact fb_X12_book_29 P S0 hc n r S1 a0 x1 b0 0 S hA (Ta0) (Tb0) hm
set_option maxHeartbeats 1000000 in
set_option maxRecDepth 100000 in
theorem fr_X12_book (P : Nat → Prop) (n : Nat) (S0 : pq_S) (hc : Clo P S0) (a0 : Nat) (x1 : Int32) (Ta0 : P a0) (r : Int32) (S1 : pq_S) (hm : m_X12_book n a0 x1 S0 = some (r, S1)) : Ag P S0 S1 := by
  have hA : Ag P S0 S0 := Ag.rf _ _
  rw [m_X12_book] at hm
  have hA : Ag P S0 (sI S0 1200 a0 0) := hA.sI Ta0
  by_cases h1 : x1 < 0
  · rw [if_pos h1] at hm
    exact fb_X12_book_28 P S0 hc n r S1 a0 x1 a0 (sI S0 1200 a0 0) hA (Ta0) (Ta0) hm
  · rw [if_neg h1] at hm
    by_cases h2 : (pI (sI S0 1200 a0 0) 1202 a0) < x1
    · rw [if_pos h2] at hm
      exact fb_X12_book_28 P S0 hc n r S1 a0 x1 a0 (sI S0 1200 a0 0) hA (Ta0) (Ta0) hm
    · rw [if_neg h2] at hm
      by_cases h3 : 100 < x1
      · rw [if_pos h3] at hm
        exact fb_X12_book_28 P S0 hc n r S1 a0 x1 a0 (sI S0 1200 a0 0) hA (Ta0) (Ta0) hm
      · rw [if_neg h3] at hm
        exact fb_X12_book_29 P S0 hc n r S1 a0 x1 a0 1 (sI S0 1200 a0 0) hA (Ta0) (Ta0) hm
set_option maxHeartbeats 1000000 in
set_option maxRecDepth 100000 in
theorem fb_X12_undo_58 (P : Nat → Prop) (S0 : pq_S) (hc : Clo P S0) (n : Nat) (r : Int32) (S1 : pq_S) : ∀ (a0 : Nat) (S : pq_S), Ag P S0 S → P a0 → b_X12_undo_58 n a0 S = some (r, S1) → Ag P S0 S1 := by
  intro a0 S hA Ta0 hm
  rw [b_X12_undo_58] at hm
  have hA : Ag P S0 (sI S 1242 a0 0) := hA.sI Ta0
  cases hm
  exact hA
set_option maxHeartbeats 1000000 in
set_option maxRecDepth 100000 in
theorem fb_X12_undo_26 (P : Nat → Prop) (S0 : pq_S) (hc : Clo P S0) (n : Nat) (r : Int32) (S1 : pq_S) : ∀ (f : Nat) (a0 : Nat) (x1 : Int32) (S : pq_S), Ag P S0 S → P a0 → b_X12_undo_26 n f a0 x1 S = some (r, S1) → Ag P S0 S1 := by
  intro f
  induction f with
  | zero =>
    intro a0 x1 S hA Ta0 hm
    cases hm
  | succ f ih =>
    intro a0 x1 S hA Ta0 hm
    rw [b_X12_undo_26] at hm
    by_cases h3 : 50 ≤ x1
    · rw [if_pos h3] at hm
      exact fb_X12_undo_58 P S0 hc n r S1 a0 S hA (Ta0) hm
    · rw [if_neg h3] at hm
      obtain ⟨q4, hq4, hm⟩ := bd_some hm
      have Tq4 : P q4 := hA.clo hc Ta0 hq4
      obtain ⟨q5, hq5, hm⟩ := bd_some hm
      have Tq5 : P q5 := hA.clo hc Ta0 hq5
      obtain ⟨hi6, hm⟩ := ck_some hm
      obtain ⟨hi7, hm⟩ := ck_some hm
      have hA : Ag P S0 (sA S q4 (Int32.toNatClampNeg x1) (pA S q5 (Int32.toNatClampNeg (((50 : Int32) * (pI S 1241 a0)) + x1)))) := hA.sA Tq4
      obtain ⟨S_8, eS_8, hm⟩ := lt_some hm
      have hA : Ag P S0 S_8 := by rw [eS_8]; exact hA
      exact ih a0 (x1 + 1) S_8 hA (Ta0) hm
set_option maxHeartbeats 1000000 in
set_option maxRecDepth 100000 in
theorem fr_X12_undo (P : Nat → Prop) (n : Nat) (S0 : pq_S) (hc : Clo P S0) (a0 : Nat) (Ta0 : P a0) (r : Int32) (S1 : pq_S) (hm : m_X12_undo n a0 S0 = some (r, S1)) : Ag P S0 S1 := by
  have hA : Ag P S0 S0 := Ag.rf _ _
  rw [m_X12_undo] at hm
  have hA : Ag P S0 (sI S0 1200 a0 0) := hA.sI Ta0
  by_cases h1 : (pI (sI S0 1200 a0 0) 1241 a0) = 0
  · rw [if_pos h1] at hm
    cases hm
    exact hA
  · rw [if_neg h1] at hm
    have hA : Ag P S0 (sI (sI S0 1200 a0 0) 1241 a0 ((pI (sI S0 1200 a0 0) 1241 a0) - (1 : Int32))) := hA.sI Ta0
    obtain ⟨S_2, eS_2, hm⟩ := lt_some hm
    have hA : Ag P S0 S_2 := by rw [eS_2]; exact hA
    exact fb_X12_undo_26 P S0 hc n r S1 n a0 0 S_2 hA (Ta0) hm
set_option maxHeartbeats 1000000 in
set_option maxRecDepth 100000 in
theorem fb_X12_sum_4 (P : Nat → Prop) (S0 : pq_S) (hc : Clo P S0) (n : Nat) (r : Int32) (S1 : pq_S) : ∀ (f : Nat) (a0 : Nat) (x1 : Int32) (x2 : Int32) (x3 : Int32) (S : pq_S), Ag P S0 S → P a0 → b_X12_sum_4 n f a0 x1 x2 x3 S = some (r, S1) → Ag P S0 S1 := by
  intro f
  induction f with
  | zero =>
    intro a0 x1 x2 x3 S hA Ta0 hm
    cases hm
  | succ f ih =>
    intro a0 x1 x2 x3 S hA Ta0 hm
    rw [b_X12_sum_4] at hm
    by_cases h1 : (pI S 1224 a0) ≤ x3
    · rw [if_pos h1] at hm
      cases hm
      exact hA
    · rw [if_neg h1] at hm
      obtain ⟨q2, hq2, hm⟩ := bd_some hm
      have Tq2 : P q2 := hA.clo hc Ta0 hq2
      obtain ⟨hi3, hm⟩ := ck_some hm
      obtain ⟨v4, ev4, hm⟩ := lt_some hm
      exact ih a0 x1 v4 (x3 + 1) S hA (Ta0) hm
set_option maxHeartbeats 1000000 in
set_option maxRecDepth 100000 in
theorem fr_X12_sum (P : Nat → Prop) (n : Nat) (S0 : pq_S) (hc : Clo P S0) (a0 : Nat) (x1 : Int32) (Ta0 : P a0) (r : Int32) (S1 : pq_S) (hm : m_X12_sum n a0 x1 S0 = some (r, S1)) : Ag P S0 S1 := by
  have hA : Ag P S0 S0 := Ag.rf _ _
  rw [m_X12_sum] at hm
  exact fb_X12_sum_4 P S0 hc n r S1 n a0 x1 0 0 S0 hA (Ta0) hm
set_option maxHeartbeats 1000000 in
set_option maxRecDepth 100000 in
theorem fb_X12_told_116 (P : Nat → Prop) (S0 : pq_S) (hc : Clo P S0) (n : Nat) (r : Int32) (S1 : pq_S) : ∀ (b0 : Nat) (z1 : Int32) (S : pq_S), Ag P S0 S → P b0 → b_X12_told_116 n b0 z1 S = some (r, S1) → Ag P S0 S1 := by
  intro b0 z1 S hA Tb0 hm
  rw [b_X12_told_116] at hm
  obtain ⟨r23, S_21, hq22, hm⟩ := cb_some hm
  have hA : Ag P S0 S_21 := hA.tr (fr_X12_sum P n S (hA.cl hc) b0 z1 (Tb0) r23 S_21 hq22)
  cases hm
  exact hA
set_option maxHeartbeats 1000000 in
set_option maxRecDepth 100000 in
theorem fr_X12_told (P : Nat → Prop) (n : Nat) (S0 : pq_S) (hc : Clo P S0) (a0 : Nat) (x1 : Int32) (Ta0 : P a0) (r : Int32) (S1 : pq_S) (hm : m_X12_told n a0 x1 S0 = some (r, S1)) : Ag P S0 S1 := by
  have hA : Ag P S0 S0 := Ag.rf _ _
  rw [m_X12_told] at hm
  have hA : Ag P S0 (sI S0 1200 a0 0) := hA.sI Ta0
  obtain ⟨r3, S_1, hq2, hm⟩ := cb_some hm
  have hA : Ag P S0 S_1 := hA.tr (fr_X12_within P n (sI S0 1200 a0 0) (hA.cl hc) x1 0 9  r3 S_1 hq2)
  obtain ⟨r6, S_4, hq5, hm⟩ := cb_some hm
  have hA : Ag P S0 S_4 := hA.tr (fr_X12_may P n S_1 (hA.cl hc) a0 r3 1 1 (Ta0) r6 S_4 hq5)
  by_cases h7 : r6 = 0
  · rw [if_pos h7] at hm
    cases hm
    exact hA
  · rw [if_neg h7] at hm
    by_cases h8 : 4 ≤ x1
    · rw [if_pos h8] at hm
      by_cases h9 : 6 ≤ x1
      · rw [if_pos h9] at hm
        by_cases h10 : 8 ≤ x1
        · rw [if_pos h10] at hm
          by_cases h11 : x1 = 8
          · rw [if_pos h11] at hm
            cases hm
            exact hA
          · rw [if_neg h11] at hm
            cases hm
            exact hA
        · rw [if_neg h10] at hm
          by_cases h12 : x1 = 6
          · rw [if_pos h12] at hm
            exact fb_X12_told_116 P S0 hc n r S1 a0 0 S_4 hA (Ta0) hm
          · rw [if_neg h12] at hm
            exact fb_X12_told_116 P S0 hc n r S1 a0 6 S_4 hA (Ta0) hm
      · rw [if_neg h9] at hm
        by_cases h13 : x1 = 4
        · rw [if_pos h13] at hm
          obtain ⟨q16, hq16, hm⟩ := bd_some hm
          have Tq16 : P q16 := hA.clo hc Ta0 hq16
          obtain ⟨hi17, hm⟩ := ck_some hm
          cases hm
          exact hA
        · rw [if_neg h13] at hm
          obtain ⟨q14, hq14, hm⟩ := bd_some hm
          have Tq14 : P q14 := hA.clo hc Ta0 hq14
          obtain ⟨hi15, hm⟩ := ck_some hm
          cases hm
          exact hA
    · rw [if_neg h8] at hm
      by_cases h18 : x1 = 0
      · rw [if_pos h18] at hm
        cases hm
        exact hA
      · rw [if_neg h18] at hm
        by_cases h19 : x1 = 1
        · rw [if_pos h19] at hm
          cases hm
          exact hA
        · rw [if_neg h19] at hm
          by_cases h20 : x1 = 2
          · rw [if_pos h20] at hm
            cases hm
            exact hA
          · rw [if_neg h20] at hm
            cases hm
            exact hA
set_option maxHeartbeats 1000000 in
set_option maxRecDepth 100000 in
theorem fr_X12_isPlace (P : Nat → Prop) (n : Nat) (S0 : pq_S) (hc : Clo P S0) (a0 : Nat) (x1 : Int32) (x2 : Int32) (Ta0 : P a0) (r : Int32) (S1 : pq_S) (hm : m_X12_isPlace n a0 x1 x2 S0 = some (r, S1)) : Ag P S0 S1 := by
  have hA : Ag P S0 S0 := Ag.rf _ _
  rw [m_X12_isPlace] at hm
  obtain ⟨r3, S_1, hq2, hm⟩ := cb_some hm
  have hA : Ag P S0 S_1 := hA.tr (fr_X12_within P n S0 (hA.cl hc) x1 0 ((pI S0 1224 a0) - (1 : Int32))  r3 S_1 hq2)
  obtain ⟨r6, S_4, hq5, hm⟩ := cb_some hm
  have hA : Ag P S0 S_4 := hA.tr (fr_X12_may P n S_1 (hA.cl hc) a0 r3 x2 0 (Ta0) r6 S_4 hq5)
  cases hm
  exact hA
set_option maxHeartbeats 1000000 in
set_option maxRecDepth 100000 in
theorem fr_X12_isMine (P : Nat → Prop) (n : Nat) (S0 : pq_S) (hc : Clo P S0) (a0 : Nat) (x1 : Int32) (x2 : Int32) (Ta0 : P a0) (r : Int32) (S1 : pq_S) (hm : m_X12_isMine n a0 x1 x2 S0 = some (r, S1)) : Ag P S0 S1 := by
  have hA : Ag P S0 S0 := Ag.rf _ _
  rw [m_X12_isMine] at hm
  obtain ⟨r3, S_1, hq2, hm⟩ := cb_some hm
  have hA : Ag P S0 S_1 := hA.tr (fr_X12_within P n S0 (hA.cl hc) x1 0 ((pI S0 1226 a0) - (1 : Int32))  r3 S_1 hq2)
  obtain ⟨r6, S_4, hq5, hm⟩ := cb_some hm
  have hA : Ag P S0 S_4 := hA.tr (fr_X12_may P n S_1 (hA.cl hc) a0 r3 x2 0 (Ta0) r6 S_4 hq5)
  cases hm
  exact hA
set_option maxHeartbeats 1000000 in
set_option maxRecDepth 100000 in
theorem fr_X12_isWant (P : Nat → Prop) (n : Nat) (S0 : pq_S) (hc : Clo P S0) (a0 : Nat) (x1 : Int32) (x2 : Int32) (Ta0 : P a0) (r : Int32) (S1 : pq_S) (hm : m_X12_isWant n a0 x1 x2 S0 = some (r, S1)) : Ag P S0 S1 := by
  have hA : Ag P S0 S0 := Ag.rf _ _
  rw [m_X12_isWant] at hm
  obtain ⟨r3, S_1, hq2, hm⟩ := cb_some hm
  have hA : Ag P S0 S_1 := hA.tr (fr_X12_within P n S0 (hA.cl hc) x1 0 ((pI S0 1225 a0) - (1 : Int32))  r3 S_1 hq2)
  obtain ⟨r6, S_4, hq5, hm⟩ := cb_some hm
  have hA : Ag P S0 S_4 := hA.tr (fr_X12_may P n S_1 (hA.cl hc) a0 r3 x2 0 (Ta0) r6 S_4 hq5)
  cases hm
  exact hA
set_option maxHeartbeats 1000000 in
set_option maxRecDepth 100000 in
theorem fb_X12_hoursOf_72 (P : Nat → Prop) (S0 : pq_S) (hc : Clo P S0) (n : Nat) (r : Int32) (S1 : pq_S) (k4 : Nat → Int32 → Int32 → Int32 → Int32 → pq_S → Option (Int32 × pq_S)) (hk4 : ∀ (a0 : Nat) (x1 : Int32) (x2 : Int32) (x3 : Int32) (x4 : Int32) (S : pq_S), Ag P S0 S → P a0 → k4 a0 x1 x2 x3 x4 S = some (r, S1) → Ag P S0 S1) : ∀ (a0 : Nat) (x1 : Int32) (x2 : Int32) (x4 : Int32) (z0 : Int32) (z1 : Int32) (S : pq_S), Ag P S0 S → P a0 → b_X12_hoursOf_72 n k4 a0 x1 x2 x4 z0 z1 S = some (r, S1) → Ag P S0 S1 := by
  intro a0 x1 x2 x4 z0 z1 S hA Ta0 hm
  rw [b_X12_hoursOf_72] at hm
  exact hk4 a0 x1 x2 (z0 + z1) (x4 + 1) S hA (Ta0) hm
set_option maxHeartbeats 1000000 in
set_option maxRecDepth 100000 in
theorem fb_X12_hoursOf_71 (P : Nat → Prop) (S0 : pq_S) (hc : Clo P S0) (n : Nat) (r : Int32) (S1 : pq_S) (k4 : Nat → Int32 → Int32 → Int32 → Int32 → pq_S → Option (Int32 × pq_S)) (hk4 : ∀ (a0 : Nat) (x1 : Int32) (x2 : Int32) (x3 : Int32) (x4 : Int32) (S : pq_S), Ag P S0 S → P a0 → k4 a0 x1 x2 x3 x4 S = some (r, S1) → Ag P S0 S1) : ∀ (a0 : Nat) (x1 : Int32) (x2 : Int32) (x4 : Int32) (z0 : Int32) (S : pq_S), Ag P S0 S → P a0 → b_X12_hoursOf_71 n k4 a0 x1 x2 x4 z0 S = some (r, S1) → Ag P S0 S1 := by
  intro a0 x1 x2 x4 z0 S hA Ta0 hm
  rw [b_X12_hoursOf_71] at hm
  exact fb_X12_hoursOf_72 P S0 hc n r S1 _ hk4 a0 x1 x2 x4 z0 0 S hA (Ta0) hm
set_option maxHeartbeats 1000000 in
set_option maxRecDepth 100000 in
theorem fb_X12_hoursOf_5 (P : Nat → Prop) (S0 : pq_S) (hc : Clo P S0) (n : Nat) (r : Int32) (S1 : pq_S) : ∀ (f : Nat) (a0 : Nat) (x1 : Int32) (x2 : Int32) (x3 : Int32) (x4 : Int32) (S : pq_S), Ag P S0 S → P a0 → b_X12_hoursOf_5 n f a0 x1 x2 x3 x4 S = some (r, S1) → Ag P S0 S1 := by
  intro f
  induction f with
  | zero =>
    intro a0 x1 x2 x3 x4 S hA Ta0 hm
    cases hm
  | succ f ih =>
    intro a0 x1 x2 x3 x4 S hA Ta0 hm
    rw [b_X12_hoursOf_5] at hm
    by_cases h1 : (pI S 1225 a0) ≤ x4
    · rw [if_pos h1] at hm
      cases hm
      exact hA
    · rw [if_neg h1] at hm
      obtain ⟨q2, hq2, hm⟩ := bd_some hm
      have Tq2 : P q2 := hA.clo hc Ta0 hq2
      obtain ⟨hi3, hm⟩ := ck_some hm
      by_cases h4 : (pA S q2 (Int32.toNatClampNeg ((18 : Int32) + x4))) = 1
      · rw [if_pos h4] at hm
        obtain ⟨q5, hq5, hm⟩ := bd_some hm
        have Tq5 : P q5 := hA.clo hc Ta0 hq5
        obtain ⟨hi6, hm⟩ := ck_some hm
        by_cases h7 : (pA S q5 (Int32.toNatClampNeg ((4 : Int32) * x4))) = x1
        · rw [if_pos h7] at hm
          obtain ⟨q8, hq8, hm⟩ := bd_some hm
          have Tq8 : P q8 := hA.clo hc Ta0 hq8
          obtain ⟨hi9, hm⟩ := ck_some hm
          by_cases h10 : (pA S q8 (Int32.toNatClampNeg (((4 : Int32) * x4) + (3 : Int32)))) < x2
          · rw [if_pos h10] at hm
            exact fb_X12_hoursOf_71 P S0 hc n r S1 _ ih a0 x1 x2 x4 x3 S hA (Ta0) hm
          · rw [if_neg h10] at hm
            obtain ⟨q11, hq11, hm⟩ := bd_some hm
            have Tq11 : P q11 := hA.clo hc Ta0 hq11
            obtain ⟨hi12, hm⟩ := ck_some hm
            exact fb_X12_hoursOf_72 P S0 hc n r S1 _ ih a0 x1 x2 x4 x3 (pA S q11 (Int32.toNatClampNeg (((4 : Int32) * x4) + (1 : Int32)))) S hA (Ta0) hm
        · rw [if_neg h7] at hm
          exact fb_X12_hoursOf_71 P S0 hc n r S1 _ ih a0 x1 x2 x4 x3 S hA (Ta0) hm
      · rw [if_neg h4] at hm
        exact fb_X12_hoursOf_71 P S0 hc n r S1 _ ih a0 x1 x2 x4 x3 S hA (Ta0) hm
set_option maxHeartbeats 1000000 in
set_option maxRecDepth 100000 in
theorem fr_X12_hoursOf (P : Nat → Prop) (n : Nat) (S0 : pq_S) (hc : Clo P S0) (a0 : Nat) (x1 : Int32) (x2 : Int32) (Ta0 : P a0) (r : Int32) (S1 : pq_S) (hm : m_X12_hoursOf n a0 x1 x2 S0 = some (r, S1)) : Ag P S0 S1 := by
  have hA : Ag P S0 S0 := Ag.rf _ _
  rw [m_X12_hoursOf] at hm
  exact fb_X12_hoursOf_5 P S0 hc n r S1 n a0 x1 x2 0 0 S0 hA (Ta0) hm
