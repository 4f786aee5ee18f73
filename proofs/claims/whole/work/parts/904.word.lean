/-! words -/
def isL (c : Nat) : Prop := 97 ≤ c ∧ c ≤ 122
def weF (b : Nat → Nat) : Nat → Nat → Nat
  | 0, p => p
  | k + 1, p => if 97 ≤ b p ∧ b p ≤ 122 then weF b k (p + 1) else p
def we (b : Nat → Nat) (z p : Nat) : Nat := weF b (z - p) p
theorem weF_le (b : Nat → Nat) : ∀ k p, p ≤ weF b k p ∧ weF b k p ≤ p + k := by
  intro k
  induction k with
  | zero => intro p; exact ⟨Nat.le_refl _, Nat.le_refl _⟩
  | succ k ih =>
    intro p
    rw [weF]
    by_cases h : 97 ≤ b p ∧ b p ≤ 122
    · rw [if_pos h]; have := ih (p + 1); omega
    · rw [if_neg h]; omega
theorem weF_in (b : Nat → Nat) : ∀ k p i, p ≤ i → i < weF b k p → isL (b i) := by
  intro k
  induction k with
  | zero => intro p i h1 h2; rw [weF] at h2; omega
  | succ k ih =>
    intro p i h1 h2
    rw [weF] at h2
    by_cases h : 97 ≤ b p ∧ b p ≤ 122
    · rw [if_pos h] at h2
      by_cases e : i = p
      · rw [e]; exact h
      · exact ih (p + 1) i (by omega) h2
    · rw [if_neg h] at h2; omega
theorem we_ge (b : Nat → Nat) (z p : Nat) : p ≤ we b z p := (weF_le b _ _).1
theorem we_le (b : Nat → Nat) {z p : Nat} (h : p ≤ z) : we b z p ≤ z := by have := (weF_le b (z - p) p).2; unfold we; omega
theorem we_in (b : Nat → Nat) {z p i : Nat} (h1 : p ≤ i) (h2 : i < we b z p) : isL (b i) := weF_in b _ p i h1 h2
theorem we_s {b : Nat → Nat} {z p : Nat} (h : p < z) (hb : isL (b p)) : we b z p = we b z (p + 1) := by
  unfold we
  obtain ⟨k, hk⟩ : ∃ k, z - p = k + 1 := ⟨z - p - 1, by omega⟩
  rw [hk, weF, if_pos (show 97 ≤ b p ∧ b p ≤ 122 from hb), show z - (p + 1) = k by omega]
theorem we_n {b : Nat → Nat} {z p : Nat} (hb : p < z → ¬ isL (b p)) : we b z p = p := by
  unfold we
  by_cases h : p < z
  · obtain ⟨k, hk⟩ : ∃ k, z - p = k + 1 := ⟨z - p - 1, by omega⟩
    rw [hk, weF, if_neg (show ¬ (97 ≤ b p ∧ b p ≤ 122) from hb h)]
  · rw [show z - p = 0 by omega, weF]
/-- a row of digits, five bits each -/
def VV (d : Nat → Nat) : Nat → Nat
  | 0 => 0
  | k + 1 => 32 * VV d k + d k
theorem VV_inj {d e : Nat → Nat} : ∀ (k m : Nat), (∀ i, i < k → 1 ≤ d i ∧ d i ≤ 31) → (∀ i, i < m → 1 ≤ e i ∧ e i ≤ 31) → VV d k = VV e m → k = m ∧ ∀ i, i < k → d i = e i := by
  intro k
  induction k with
  | zero =>
    intro m _ h2 h3
    cases m with
    | zero => exact ⟨rfl, fun i hi => by omega⟩
    | succ m =>
      rw [VV, VV] at h3
      have := h2 m (by omega)
      omega
  | succ k ih =>
    intro m h1 h2 h3
    cases m with
    | zero =>
      rw [VV, VV] at h3
      have := h1 k (by omega)
      omega
    | succ m =>
      rw [VV, VV] at h3
      have a1 := h1 k (by omega)
      have a2 := h2 m (by omega)
      obtain ⟨e1, e2⟩ := ih m (fun i hi => h1 i (by omega)) (fun i hi => h2 i (by omega)) (by omega)
      subst e1
      refine ⟨rfl, fun i hi => ?_⟩
      by_cases q : i = k
      · subst q; omega
      · exact e2 i (by omega)
theorem VV_lt {d : Nat → Nat} : ∀ k, (∀ i, i < k → d i ≤ 31) → VV d k < 32 ^ k := by
  intro k
  induction k with
  | zero => intro _; exact Nat.zero_lt_one
  | succ k ih =>
    intro h
    have a1 := ih (fun i hi => h i (by omega))
    have a2 := h k (by omega)
    rw [VV, Nat.pow_succ]
    omega
/-- the words' lengths and letters -/
def tln (j : Nat) : Nat := pq_len.getD j 0
def tbt (j i : Nat) : Nat := ((pq_byt.getD j []).getD i 0).toNatClampNeg
theorem tx_l : ∀ j, j < 20 → tx_len j = nI (tln j) ∧ tln j ≤ 6 ∧ 3 ≤ tln j := by decide +kernel
theorem tx_c : ∀ j, j < 20 → ∀ i, i < tln j → tx_ch j (nI i) = nI (tbt j i) ∧ 97 ≤ tbt j i ∧ tbt j i ≤ 122 := by decide +kernel
theorem shl5 {v x : Nat} (hv : v < 2 ^ 26) (h1 : 97 ≤ x) (h2 : x ≤ 122) : (nI v <<< ((5 : Int32) &&& (31 : Int32))) ||| (nI x - (96 : Int32)) = nI (32 * v + (x - 96)) := by
  rw [show (96 : Int32) = nI 96 from rfl, nI_sub' (by omega)]
  have e : nI v <<< ((5 : Int32) &&& (31 : Int32)) = nI (2 ^ 5 * v) := by
    apply Int32.toBitVec_inj.mp
    rw [Int32.toBitVec_shiftLeft]
    show BitVec.ofNat 32 v <<< 5#32 = BitVec.ofNat 32 (2 ^ 5 * v)
    apply BitVec.eq_of_toNat_eq
    rw [BitVec.shiftLeft_eq', BitVec.toNat_shiftLeft, BitVec.toNat_ofNat, BitVec.toNat_ofNat, BitVec.toNat_ofNat, Nat.shiftLeft_eq, show 2 ^ (5 % 2 ^ 32) = 32 from rfl]
    omega
  rw [e, nI_or, ← Nat.two_pow_add_eq_or_of_lt (show x - 96 < 2 ^ 5 by omega)]
theorem r_of_b {n j : Nat} {S : pq_S} (hj : j < 20) : ∀ (m i f : Nat), i + m = tln j → m < f → b_X12_of_4 n f j (nI (VV (fun i => tbt j i - 96) i)) (nI i) S = some (nI (VV (fun i => tbt j i - 96) (tln j)), S) := by
  have hl := tx_l j hj
  intro m
  induction m with
  | zero =>
    intro i f h1 h2
    obtain ⟨f, rfl⟩ : ∃ g, f = g + 1 := ⟨f - 1, by omega⟩
    rw [b_X12_of_4, hl.1, if_pos (nI_le (by omega) (by omega)), show i = tln j by omega]
  | succ m ih =>
    intro i f h1 h2
    obtain ⟨f, rfl⟩ : ∃ g, f = g + 1 := ⟨f - 1, by omega⟩
    obtain ⟨c1, c2, c3⟩ := tx_c j hj i (by omega)
    have hv := VV_lt (d := fun i => tbt j i - 96) i (fun i' hi' => by have := tx_c j hj i' (by omega); show tbt j i' - 96 ≤ 31; omega)
    have hv2 : VV (fun i => tbt j i - 96) i < 2 ^ 26 := Nat.lt_of_lt_of_le hv (Nat.le_trans (Nat.pow_le_pow_right (by decide) (show i ≤ 5 by omega)) (by decide))
    rw [b_X12_of_4, hl.1, if_neg (nI_ge (by omega) (by omega)), ck_pos (show ixt (nI i) j from ⟨ix_nI (N := tln j) (by omega) (by omega), by
      have := nI_lt (a := i) (b := tln j) (by omega) (by omega)
      exact this⟩), lt_mk, c1, shl5 hv2 c2 c3, nI_1]
    exact ih (i + 1) f (by omega) (by omega)
def ofV (j : Nat) : Nat := VV (fun i => tbt j i - 96) (tln j)
theorem r_of {n j : Nat} {S : pq_S} (hj : j < 20) (hn : 20000 ≤ n) : m_X12_of n j S = some (nI (ofV j), S) := by
  have hl := tx_l j hj
  have := r_of_b (n := n) (S := S) hj (tln j) 0 n (by omega) (by omega)
  exact this
section
variable {A b : Nat → Nat} {z n : Nat} {S T : pq_S}
/-- the letters from q to e are those of word j -/
def wm (b : Nat → Nat) (q e j : Nat) : Prop := e - q = tln j ∧ ∀ i, i < tln j → b (q + i) = tbt j i
theorem x_iw_b {q e j : Nat} (h : BX A b z S) (hj : j < 20) (h4 : pI S 1004 (A 1) = nI q) (he : e ≤ z) (hl : e = q + tln j) : ∀ (m i f : Nat), i + m = tln j → m < f → (∀ i', i' < i → b (q + i') = tbt j i') → b_X10_isWord_20 n f (A 1) j (nI i) S = some (@ite _ (wm b q e j) (Classical.propDecidable _) 1 0, S) := by
  have tl := tx_l j hj
  have hz := h.2.2.2.1
  intro m
  induction m with
  | zero =>
    intro i f h1 h2 h3
    obtain ⟨f, rfl⟩ : ∃ g, f = g + 1 := ⟨f - 1, by omega⟩
    rw [b_X10_isWord_20, tl.1, if_pos (nI_le (by omega) (by omega)), if_pos ⟨by omega, fun i' hi' => h3 i' (by omega)⟩]
  | succ m ih =>
    intro i f h1 h2 h3
    obtain ⟨f, rfl⟩ : ∃ g, f = g + 1 := ⟨f - 1, by omega⟩
    obtain ⟨c1, c2, c3⟩ := tx_c j hj i (by omega)
    have hb := h.b8 (q := q + i) (by omega)
    rw [b_X10_isWord_20, tl.1, if_neg (nI_ge (by omega) (by omega)), h4, nI_add, x_byte h (by omega), cb_mk, ck_pos (show ixt (nI i) j from ⟨ix_nI (N := tln j) (by omega) (by omega), by
      have := nI_lt (a := i) (b := tln j) (by omega) (by omega)
      exact this⟩), c1, show xv8 b z (q + i) = nI (b (q + i)) from if_pos (by omega), show nI i + 1 = nI (i + 1) from nI_1 i]
    by_cases e1 : b (q + i) = tbt j i
    · rw [if_pos (by rw [e1])]
      exact ih (i + 1) f (by omega) (by omega) (fun i' hi' => by
        by_cases q1 : i' = i
        · rw [q1]; exact e1
        · exact h3 i' (by omega))
    · rw [if_neg (fun q1 => e1 ((nI_eq (by omega) (by omega)).mp q1)), if_neg (fun q1 => e1 (q1.2 i (by omega)))]
theorem x_iw {q e j : Nat} (h : BX A b z S) (hj : j < 20) (h3 : pI S 1003 (A 1) = nI e) (h4 : pI S 1004 (A 1) = nI q) (hq : q ≤ e) (he : e ≤ z) (hn : 20000 ≤ n) : m_X10_isWord n (A 1) j S = some (@ite _ (wm b q e j) (Classical.propDecidable _) 1 0, S) := by
  have tl := tx_l j hj
  have hz := h.2.2.2.1
  unfold m_X10_isWord
  rw [h3, h4, nI_sub' hq, tl.1]
  by_cases e1 : e - q = tln j
  · rw [if_pos (by rw [e1])]
    exact x_iw_b h hj h4 he (by omega) (tln j) 0 n (by omega) (by omega) (fun i hi => by omega)
  · rw [if_neg (fun q1 => e1 ((nI_eq (by omega) (by omega)).mp q1)), if_neg (fun q1 => e1 q1.1)]
/-- the value of the reference's word() -/
def wdV (b : Nat → Nat) (q e : Nat) : Nat := if e - q ≤ 6 then VV (fun i => b (q + i) - 96) (e - q) else 0
theorem wd_iff {q e j : Nat} (hj : j < 20) (hq : q ≤ e) (hL : ∀ i, q ≤ i → i < e → isL (b i)) : nI (wdV b q e) = nI (ofV j) ↔ wm b q e j := by
  have tl := tx_l j hj
  have t1 : ∀ i, i < tln j → 1 ≤ tbt j i - 96 ∧ tbt j i - 96 ≤ 31 := fun i hi => by have := tx_c j hj i hi; omega
  have o1 : ofV j < 2 ^ 30 := Nat.lt_of_lt_of_le (VV_lt (tln j) (fun i hi => (t1 i hi).2)) (Nat.le_trans (Nat.pow_le_pow_right (by decide) tl.2.1) (by decide))
  have t2 : ∀ i, i < e - q → 1 ≤ b (q + i) - 96 ∧ b (q + i) - 96 ≤ 31 := fun i hi => by have : isL (b (q + i)) := hL (q + i) (by omega) (by omega); unfold isL at this; omega
  by_cases h6 : e - q ≤ 6
  · have w1 : wdV b q e = VV (fun i => b (q + i) - 96) (e - q) := if_pos h6
    have o2 : wdV b q e < 2 ^ 30 := by rw [w1]; exact Nat.lt_of_lt_of_le (VV_lt _ (fun i hi => (t2 i hi).2)) (Nat.le_trans (Nat.pow_le_pow_right (by decide) h6) (by decide))
    rw [nI_eq (by omega) (by omega), w1]
    constructor
    · intro e1
      obtain ⟨x1, x2⟩ := VV_inj _ _ t2 t1 e1
      refine ⟨x1, fun i hi => ?_⟩
      have x3 : b (q + i) - 96 = tbt j i - 96 := x2 i (by omega)
      have x4 : isL (b (q + i)) := hL (q + i) (by omega) (by omega)
      unfold isL at x4
      have := tx_c j hj i hi
      omega
    · intro h
      unfold ofV
      rw [h.1]
      have : ∀ k, k ≤ tln j → VV (fun i => b (q + i) - 96) k = VV (fun i => tbt j i - 96) k := by
        intro k
        induction k with
        | zero => intro _; rfl
        | succ k ih =>
          intro hk
          rw [VV, VV, ih (by omega), h.2 k (by omega)]
      exact this _ (Nat.le_refl _)
  · have w1 : wdV b q e = 0 := if_neg h6
    rw [w1, nI_eq (by omega) (by omega)]
    constructor
    · intro e1
      exfalso
      obtain ⟨k, hk⟩ : ∃ k, tln j = k + 1 := ⟨tln j - 1, by omega⟩
      unfold ofV at e1
      rw [hk, VV] at e1
      have := t1 k (by omega)
      omega
    · intro h
      have := h.1
      omega
theorem r_wd_b {q : Nat} (h : BM A b z S) (hq : q ≤ z) : ∀ (m c f : Nat), z - (q + c) ≤ m → m < f → q + c ≤ z → (∀ i, q ≤ i → i < q + c → isL (b i)) → b_X12_word_14 n f (A 60) (nI (wdV b q (q + c))) (nI c) (nI (q + c)) S = some (nI (wdV b q (we b z (q + c))), S) := by
  have hz := h.2.2.2.1
  have fin : ∀ e, q ≤ e → e ≤ z → b_X12_word_67 n (nI (wdV b q e)) (nI (e - q)) S = some (nI (wdV b q e), S) := by
    intro e h1 h2
    unfold b_X12_word_67
    by_cases h6 : e - q ≤ 6
    · rw [if_pos (show nI (e - q) ≤ (6 : Int32) from nI_le (b := 6) h6 (by decide))]
    · rw [if_neg (show ¬ nI (e - q) ≤ (6 : Int32) from nI_ge (a := 6) (by omega) (by omega)), show wdV b q e = 0 from if_neg h6]
      rfl
  intro m
  induction m with
  | zero =>
    intro c f h1 h2 h3 h4
    obtain ⟨f, rfl⟩ : ∃ g, f = g + 1 := ⟨f - 1, by omega⟩
    rw [b_X12_word_14, h.2.2.1, if_pos (nI_le (by omega) (by omega)), we_n (fun x => by omega)]
    have := fin (q + c) (by omega) (by omega)
    rwa [show q + c - q = c by omega] at this
  | succ m ih =>
    intro c f h1 h2 h3 h4
    obtain ⟨f, rfl⟩ : ∃ g, f = g + 1 := ⟨f - 1, by omega⟩
    have fc := fin (q + c) (by omega) (by omega)
    rw [show q + c - q = c by omega] at fc
    rw [b_X12_word_14, h.2.2.1]
    by_cases hz2 : q + c = z
    · rw [if_pos (nI_le (by omega) (by omega)), we_n (fun x => by omega)]
      exact fc
    · obtain ⟨hb1, hb2⟩ := h.2.2.2.2 (q + c) (by omega)
      rw [if_neg (nI_ge (by omega) (by omega)), h.1, ob_mk, h.2.1, ck_pos (ix_nI (by omega) (by decide)), nI_clamp (by omega), hb2, r_sml hb1, cb_mk, ifz]
      by_cases hl : 97 ≤ b (q + c) ∧ b (q + c) ≤ 122
      · have nx := ih (c + 1) f (by omega) (by omega) (by omega) (fun i q1 q2 => by
          by_cases q3 : i = q + c
          · rw [q3]; exact hl
          · exact h4 i q1 (by omega))
        rw [if_pos hl, we_s (by omega) hl]
        by_cases h6 : 6 ≤ c
        · rw [if_pos (show (6 : Int32) ≤ nI c from nI_le (a := 6) h6 (by omega)), b_X12_word_57, show nI c + 1 = nI (c + 1) from nI_1 c, show nI (q + c) + 1 = nI (q + (c + 1)) from nI_1 _]
          rw [show wdV b q (q + (c + 1)) = 0 from if_neg (by omega)] at nx
          exact nx
        · have hv : VV (fun i => b (q + i) - 96) c < 2 ^ 26 := Nat.lt_of_lt_of_le (VV_lt c (fun i hi => by have : isL (b (q + i)) := h4 (q + i) (by omega) (by omega); unfold isL at this; show b (q + i) - 96 ≤ 31; omega)) (Nat.le_trans (Nat.pow_le_pow_right (by decide) (show c ≤ 5 by omega)) (by decide))
          rw [if_neg (show ¬ (6 : Int32) ≤ nI c from nI_ge (b := 6) (by omega) (by decide)), h.1, ob_mk, h.2.1, ck_pos (ix_nI (by omega) (by decide)), hb2, b_X12_word_57, show wdV b q (q + c) = VV (fun i => b (q + i) - 96) c from by unfold wdV; rw [if_pos (by omega), show q + c - q = c by omega], shl5 hv hl.1 hl.2, show nI c + 1 = nI (c + 1) from nI_1 c, show nI (q + c) + 1 = nI (q + (c + 1)) from nI_1 _]
          rw [show wdV b q (q + (c + 1)) = 32 * VV (fun i => b (q + i) - 96) c + (b (q + c) - 96) from by unfold wdV; rw [if_pos (by omega), show q + (c + 1) - q = c + 1 by omega, VV]] at nx
          exact nx
      · rw [if_neg hl, we_n (fun _ => hl)]
        exact fc
theorem r_word {p : Nat} (hm : MF A b z T p) (hn : 20000 ≤ n) : ∃ T', m_X12_word n (A 60) T = some (nI (wdV b (sk b z p) (we b z (sk b z p))), T') ∧ TT 1204 1206 T T' ∧ MF A b z T' (sk b z p) := by
  obtain ⟨T1, c1, c2, c3⟩ := r_here hm hn
  have hz := hm.1.2.2.2.1
  have l := sk_le b hm.2.1
  unfold m_X12_word
  rw [c1, cb_mk, c3.2.2.1]
  refine ⟨T1, ?_, c2, c3⟩
  have := r_wd_b (n := n) c3.1 l z 0 n (by omega) (by omega) (by omega) (fun i q1 q2 => by omega)
  rw [Nat.add_zero, show wdV b (sk b z p) (sk b z p) = 0 from by unfold wdV; rw [Nat.sub_self, if_pos (by decide), VV]] at this
  exact this
theorem r_pass_b : ∀ (m p f : Nat) (T : pq_S), z - p ≤ m → m < f → MF A b z T p → ∃ T', b_X12_pass_0 n f (A 60) T = some T' ∧ TT 1204 1206 T T' ∧ MF A b z T' (we b z p) := by
  intro m
  induction m with
  | zero =>
    intro p f T h1 h2 hm
    obtain ⟨f, rfl⟩ : ∃ g, f = g + 1 := ⟨f - 1, by omega⟩
    have hz := hm.1.2.2.2.1
    have hp := hm.2.1
    rw [b_X12_pass_0, hm.1.2.2.1, hm.2.2.1, if_pos (nI_le (by omega) (by omega)), we_n (fun x => by omega)]
    exact ⟨T, rfl, TT.rf _ _ _, hm⟩
  | succ m ih =>
    intro p f T h1 h2 hm
    obtain ⟨f, rfl⟩ : ∃ g, f = g + 1 := ⟨f - 1, by omega⟩
    have hz := hm.1.2.2.2.1
    have hp := hm.2.1
    rw [b_X12_pass_0, hm.1.2.2.1, hm.2.2.1]
    by_cases hz2 : p = z
    · rw [if_pos (nI_le (by omega) (by omega)), we_n (fun x => by omega)]
      exact ⟨T, rfl, TT.rf _ _ _, hm⟩
    · obtain ⟨hb1, hb2⟩ := hm.1.2.2.2.2 p (by omega)
      rw [if_neg (nI_ge (by omega) (by omega)), hm.1.1, ob_mk, hm.1.2.1, ck_pos (ix_nI (by omega) (by decide)), nI_clamp (by omega), hb2, r_sml hb1, cb_mk, ifz]
      by_cases hl : 97 ≤ b p ∧ b p ≤ 122
      · rw [if_pos hl, we_s (by omega) hl, hm.2.2.1, show nI p + 1 = nI (p + 1) from nI_1 p]
        obtain ⟨T', t1, t2, t3⟩ := ih (p + 1) f _ (by omega) (by omega) (hm.mv (q := p + 1) (by omega))
        exact ⟨T', t1, ((TT.rf _ _ _).wI (by decide) (by decide)).tr t2, t3⟩
      · rw [if_neg hl, we_n (fun _ => hl)]
        exact ⟨T, rfl, TT.rf _ _ _, hm⟩
theorem r_pass {p : Nat} (hm : MF A b z T p) (hn : 20000 ≤ n) : ∃ T', m_X12_pass n (A 60) T = some T' ∧ TT 1204 1206 T T' ∧ MF A b z T' (we b z p) := r_pass_b z p n T (by omega) (by have := hm.1.2.2.2.1; omega) hm
theorem x_tw_b : ∀ (m p f : Nat) (S : pq_S), z - p ≤ m → m < f → p ≤ z → BX A b z S → pI S 1003 (A 1) = nI p → ∃ S', b_X10_takeWord_31 n f (A 1) S = some S' ∧ TT 1003 1003 S S' ∧ pI S' 1003 (A 1) = nI (we b z p) := by
  intro m
  induction m with
  | zero =>
    intro p f S h1 h2 hp hx h3
    obtain ⟨f, rfl⟩ : ∃ g, f = g + 1 := ⟨f - 1, by omega⟩
    have hz := hx.2.2.2.1
    rw [b_X10_takeWord_31, hx.2.2.1, h3, if_pos (nI_le (by omega) (by omega)), we_n (fun x => by omega)]
    exact ⟨S, rfl, TT.rf _ _ _, h3⟩
  | succ m ih =>
    intro p f S h1 h2 hp hx h3
    obtain ⟨f, rfl⟩ : ∃ g, f = g + 1 := ⟨f - 1, by omega⟩
    have hz := hx.2.2.2.1
    rw [b_X10_takeWord_31, hx.2.2.1, h3]
    by_cases hz2 : p = z
    · rw [if_pos (nI_le (by omega) (by omega)), we_n (fun x => by omega)]
      exact ⟨S, rfl, TT.rf _ _ _, h3⟩
    · have hb := hx.b8 (q := p) (by omega)
      have e1 : ((97 : Int32) ≤ xv8 b z p ∧ xv8 b z p ≤ (122 : Int32)) ↔ (p < z ∧ 97 ≤ b p ∧ b p ≤ 122) := xv8_in (lo := 97) (hi := 122) (fun _ => hb) (by decide) (by decide)
      rw [if_neg (nI_ge (by omega) (by omega)), x_byte hx (by omega), cb_mk, sp_isWithin, cb_mk, ifz]
      by_cases hl : 97 ≤ b p ∧ b p ≤ 122
      · rw [if_pos (e1.mpr ⟨by omega, hl⟩), we_s (by omega) hl, h3, show nI p + 1 = nI (p + 1) from nI_1 p]
        obtain ⟨S', t1, t2, t3⟩ := ih (p + 1) f (sI S 1003 (A 1) (nI (p + 1))) (by omega) (by omega) (by omega) (hx.tt ((TT.rf _ _ _).wI (by decide) (by decide))) (pI_e ..)
        exact ⟨S', t1, ((TT.rf _ _ _).wI (by decide) (by decide)).tr t2, t3⟩
      · rw [if_neg (fun q => hl (e1.mp q).2), we_n (fun _ => hl)]
        exact ⟨S, rfl, TT.rf _ _ _, h3⟩
/-- a word is taken by the class, seen by the reference -/
theorem j_word {p : Nat} (hx : XF A b z S p) (hm : MF A b z T p) (hn : 20000 ≤ n) : ∃ S' T' q e, q = sk b z p ∧ e = we b z q ∧ m_X10_takeWord n (A 1) S = some S' ∧ m_X12_word n (A 60) T = some (nI (wdV b q e), T') ∧ TT 1003 1006 S S' ∧ TT 1204 1206 T T' ∧ pI S' 1004 (A 1) = nI q ∧ MF A b z T' q ∧ q ≤ 600 ∧ q ≤ e ∧ (∀ j, j < 20 → (nI (wdV b q e) = nI (ofV j) ↔ wm b q e j)) ∧ ((q < e ∧ XF A b z S' e ∧ (∀ j, j < 20 → m_X10_isWord n (A 1) j S' = some (@ite _ (wm b q e j) (Classical.propDecidable _) 1 0, S'))) ∨ (q = e ∧ XE A b z S' 1 q ∧ ∀ j, j < 20 → ¬ wm b q e j)) := by
  obtain ⟨S1, a1, a2, a3⟩ := x_next hx hn
  obtain ⟨T1, c1, c2, c3⟩ := r_word hm hn
  have hb : sk b z p < z → b (sk b z p) ≤ 255 := fun h => hx.1.b8 h
  have hz := hx.1.2.2.2.1
  have l := sk_le b hx.2.1
  have lw := we_le b l
  have gw := we_ge b z (sk b z p)
  have e1 : ((97 : Int32) ≤ xv8 b z (sk b z p) ∧ xv8 b z (sk b z p) ≤ (122 : Int32)) ↔ (sk b z p < z ∧ 97 ≤ b (sk b z p) ∧ b (sk b z p) ≤ 122) := xv8_in (lo := 97) (hi := 122) hb (by decide) (by decide)
  have key : ∀ S2, BX A b z S2 → pI S2 1003 (A 1) = nI (sk b z p) → ∃ S', b_X10_takeWord_23 n (A 1) S2 = some S' ∧ TT 1003 1004 S2 S' ∧ pI S' 1003 (A 1) = nI (we b z (sk b z p)) ∧ pI S' 1004 (A 1) = nI (sk b z p) := by
    intro S2 h1 h2
    unfold b_X10_takeWord_23
    rw [h2]
    obtain ⟨S', t1, t2, t3⟩ := x_tw_b (n := n) z (sk b z p) n (sI S2 1004 (A 1) (nI (sk b z p))) (by omega) (by omega) l (h1.tt ((TT.rf _ _ _).wI (by decide) (by decide))) (by rw [pI_n (by decide)]; exact h2)
    exact ⟨S', t1, ((TT.rf _ _ _).wI (by decide) (by decide)).tr (t2.up (by decide) (by decide)), t3, by rw [t2.2 _ _ (by decide), pI_e]⟩
  have wi : ∀ j, j < 20 → (nI (wdV b (sk b z p) (we b z (sk b z p))) = nI (ofV j) ↔ wm b (sk b z p) (we b z (sk b z p)) j) := fun j hj => wd_iff hj gw (fun i q1 q2 => we_in b q1 q2)
  unfold m_X10_takeWord
  rw [a1, cb_mk, sp_isWithin, cb_mk, ifz]
  by_cases hl : sk b z p < z ∧ 97 ≤ b (sk b z p) ∧ b (sk b z p) ≤ 122
  · rw [if_pos (e1.mpr hl)]
    obtain ⟨S', t1, t2, t3, t4⟩ := key S1 a3.1 a3.2.2.1
    have tu := a2.tr (t2.up (lo2 := 1003) (hi2 := 1006) (by decide) (by decide))
    have gw2 := we_ge b z (sk b z p + 1)
    have bx := a3.1.tt (t2.up (lo2 := 1003) (hi2 := 1006) (by decide) (by decide))
    refine ⟨S', T1, _, _, rfl, rfl, t1, c1, tu, c2, t4, c3, by omega, gw, wi, Or.inl ⟨by rw [we_s hl.1 hl.2]; omega, ⟨bx, lw, t3, by rw [t2.2 _ _ (by decide)]; exact a3.2.2.2⟩, fun j hj => x_iw bx hj t3 t4 gw lw hn⟩⟩
  · obtain ⟨S2, d1, d2, d3⟩ := x_ref (n := n) (k := 1) (q := sk b z p) a3 (by decide) (by omega)
    rw [if_neg (fun q => hl (e1.mp q)), a3.2.2.1, show (1 : Int32) = nI 1 from rfl, d1, ob_mk]
    have h2 : pI S2 1003 (A 1) = nI (sk b z p) := by
      have h := d1
      unfold m_X10_refuse at h
      rw [if_pos a3.2.2.2] at h
      cases h
      rw [pI_n (by decide), pI_n (by decide)]
      exact a3.2.2.1
    obtain ⟨S', t1, t2, t3, t4⟩ := key S2 d3.1 h2
    have hw : we b z (sk b z p) = sk b z p := we_n (fun x y => hl ⟨x, y⟩)
    refine ⟨S', T1, _, _, rfl, rfl, t1, c1, (a2.tr d2).tr (t2.up (by decide) (by decide)), c2, t4, c3, by omega, gw, wi, Or.inr ⟨hw.symm, ⟨d3.1.tt (t2.up (by decide) (by decide)), ⟨_, lw, t3⟩, by rw [t2.2 _ _ (by decide)]; exact d3.2.2.1, by rw [t2.2 _ _ (by decide)]; exact d3.2.2.2.1, d3.2.2.2.2⟩, fun j hj q => ?_⟩⟩
    have := (tx_l j hj).2.2
    have := q.1
    omega
theorem x_twE {k q : Nat} (h : XE A b z S k q) (hn : 20000 ≤ n) : ∃ S', m_X10_takeWord n (A 1) S = some S' ∧ TT 1003 1006 S S' ∧ XE A b z S' k q := by
  obtain ⟨S1, a1, a2, a3⟩ := x_nextE h hn
  have hz := h.1.2.2.2.1
  obtain ⟨p, hp, hp2⟩ := a3.2.1
  unfold m_X10_takeWord
  rw [a1, cb_mk, sp_isWithin, cb_mk, ifz, if_neg (by decide), x_refE a3, ob_mk]
  unfold b_X10_takeWord_23
  obtain ⟨S', t1, t2, t3⟩ := x_tw_b (n := n) z p n (sI S1 1004 (A 1) (pI S1 1003 (A 1))) (by omega) (by omega) hp (a3.1.tt ((TT.rf _ _ _).wI (by decide) (by decide))) (by rw [pI_n (by decide)]; exact hp2)
  have tu : TT 1003 1004 S1 S' := ((TT.rf _ _ _).wI (by decide) (by decide)).tr (t2.up (by decide) (by decide))
  exact ⟨S', t1, a2.tr (tu.up (by decide) (by decide)), a3.1.tt (tu.up (by decide) (by decide)), ⟨_, we_le b hp, t3⟩, by rw [tu.2 _ _ (by decide)]; exact a3.2.2.1, by rw [tu.2 _ _ (by decide)]; exact a3.2.2.2.1, a3.2.2.2.2⟩
end
