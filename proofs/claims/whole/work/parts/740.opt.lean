theorem wb_tb (n : Nat) : (lN n).toBitVec = BitVec.ofNat 64 n := rfl
theorem wb_inj {a b : Int64} (h : a.toBitVec = b.toBitVec) : a = b := Int64.toBitVec_inj.mp h
theorem wb_c : ∀ k, k < 64 → ((nI k).toInt64 &&& 63) = lN k := by decide +kernel
theorem wb_sm : ∀ k, k < 64 → (BitVec.ofNat 64 k).smod 64 = BitVec.ofNat 64 k := by decide +kernel
theorem wb_shl (n : Nat) {k : Nat} (hk : k < 64) : lN n <<< ((nI k).toInt64 &&& 63) = lN (n * 2 ^ k) := by
  rw [wb_c k hk]
  apply wb_inj
  rw [Int64.toBitVec_shiftLeft, wb_tb, wb_tb, wb_tb, wb_sm k hk]
  apply BitVec.eq_of_toNat_eq
  rw [BitVec.shiftLeft_eq', BitVec.toNat_shiftLeft, BitVec.toNat_ofNat, BitVec.toNat_ofNat, BitVec.toNat_ofNat, Nat.mod_eq_of_lt (show k < 2 ^ 64 by omega), Nat.shiftLeft_eq, Nat.mul_mod, Nat.mod_mod, ← Nat.mul_mod]
/-- an option's worth, times 16 to the hours -/
def woF (u d q k : Nat) (la : Bool) : Nat → Nat → Nat
  | 0, s => s - k
  | t + 1, s => if la = true then q * woF u d q k la t (s + u) + (16 - q) * woF u d q k la t (s - d) else if q * woF u d q k la t (s + u) + (16 - q) * woF u d q k la t (s - d) < (s - k) * 16 ^ (t + 1) then (s - k) * 16 ^ (t + 1) else q * woF u d q k la t (s + u) + (16 - q) * woF u d q k la t (s - d)
theorem p16 (t : Nat) : 2 ^ (4 * t) = 16 ^ t := by
  rw [Nat.pow_mul]
theorem p16_le {t : Nat} (h : t ≤ 6) : 16 ^ t ≤ 16777216 := by
  have := Nat.pow_le_pow_right (n := 16) (by decide) h
  omega
theorem wo_M {q B x y : Nat} (hq : q ≤ 16) (hx : x ≤ B) (hy : y ≤ B) : q * x + (16 - q) * y ≤ 16 * B := by
  have h1 : q * x ≤ q * B := Nat.mul_le_mul (Nat.le_refl _) hx
  have h2 : (16 - q) * y ≤ (16 - q) * B := Nat.mul_le_mul (Nat.le_refl _) hy
  have h3 : q * B + (16 - q) * B = 16 * B := by rw [← Nat.add_mul, show q + (16 - q) = 16 by omega]
  omega
theorem wo_le {u d q k : Nat} {la : Bool} (hq : q ≤ 16) : ∀ t s, s + t * u ≤ 2000 → woF u d q k la t s ≤ 2000 * 16 ^ t := by
  intro t
  induction t with
  | zero => intro s h; rw [woF, Nat.pow_zero]; omega
  | succ t ih =>
    intro s h
    rw [Nat.succ_mul] at h
    have h1 := ih (s + u) (by omega)
    have h2 := ih (s - d) (by omega)
    have h3 := wo_M hq h1 h2
    have h4 : (s - k) * 16 ^ (t + 1) ≤ 2000 * 16 ^ (t + 1) := Nat.mul_le_mul (by omega) (Nat.le_refl _)
    have h5 : 16 * (2000 * 16 ^ t) = 2000 * 16 ^ (t + 1) := by rw [Nat.pow_succ, Nat.mul_left_comm, Nat.mul_comm 16 (16 ^ t)]
    rw [woF]
    split
    · omega
    · split <;> omega
theorem sp_scale {n t : Nat} {S : pq_S} (ht : t ≤ 6) : m_X11_scale n (nI t) S = some (lN (16 ^ t), S) := by
  unfold m_X11_scale
  rw [show (4 : Int32) * nI t = nI (4 * t) from pk_mul 4 t, show (1 : Int64) = lN 1 from rfl, wb_shl 1 (by omega), Nat.one_mul, p16]
theorem sub0 {a b : Nat} (ha : a < 2 ^ 30) (hb : b < 2 ^ 30) : (if nI a - nI b < 0 then 0 else nI a - nI b) = nI (a - b) := by
  by_cases c : b ≤ a
  · rw [pk_sub c, if_neg (nI_pos (by omega))]
  · rw [if_pos (pk_sneg hb (by omega)), show a - b = 0 by omega]
    rfl
theorem x_wo {n u d q k : Nat} {la : Bool} {z : Int32} {S : pq_S} (hz : z = if la then 1 else 0) (hu : u ≤ 99) (hd : d ≤ 99) (hq : q ≤ 16) (hk : k ≤ 999) : ∀ t s D, t ≤ 6 → t < D → s + t * u ≤ 2000 → m_optW_d n D (nI s) (nI u) (nI d) (nI q) (nI k) (nI t) z S = some (lN (woF u d q k la t s), S) := by
  intro t
  induction t with
  | zero =>
    intro s D h1 h2 h3
    obtain ⟨D, rfl⟩ : ∃ E, D = E + 1 := ⟨D - 1, by omega⟩
    rw [m_optW_d, g_X11_optionWorth, sp_scale (by omega), cb_mk, lt_mk, sub0 (a := s) (b := k) (by omega) (by omega), nI_l (show s - k < 2 ^ 31 by omega), if_neg (by decide), Nat.pow_zero, lN_mul, Nat.mul_one, woF]
  | succ t ih =>
    intro s D h1 h2 h3
    obtain ⟨D, rfl⟩ : ∃ E, D = E + 1 := ⟨D - 1, by omega⟩
    have h3' := h3
    rw [Nat.succ_mul] at h3'
    have b1 := wo_le (u := u) (d := d) (k := k) (la := la) hq t (s + u) (by omega)
    have b2 := wo_le (u := u) (d := d) (k := k) (la := la) hq t (s - d) (by omega)
    have p1 := p16_le (t := t) (by omega)
    have p2 := p16_le h1
    have b3 := wo_M hq b1 b2
    have b4 : (s - k) * 16 ^ (t + 1) ≤ 2000 * 16777216 := Nat.mul_le_mul (by omega) p2
    have b5 : 16 * (2000 * 16 ^ t) ≤ 16 * (2000 * 16777216) := by omega
    rw [m_optW_d, g_X11_optionWorth, sp_scale h1, cb_mk, lt_mk, sub0 (a := s) (b := k) (by omega) (by omega), nI_l (show s - k < 2 ^ 31 by omega), if_pos (nI_lt0 (by omega) (by omega)), nI_add, nI_pred, ih (s + u) D (by omega) (by omega) (by omega), cb_mk, sub0 (a := s) (b := d) (by omega) (by omega), ih (s - d) D (by omega) (by omega) (by omega), cb_mk, lt_mk, show (16 : Int32) - nI q = nI (16 - q) from pk_sub (a := 16) hq, nI_l (by omega), nI_l (by omega), lN_mul, lN_mul, lN_mul, lN_add, woF]
    cases la with
    | true =>
      rw [hz, if_neg (by decide), if_pos rfl]
    | false =>
      rw [hz, if_pos (show (if false = true then (1 : Int32) else 0) = 0 from rfl), if_neg (show ¬ (false = true) by decide)]
      by_cases c : q * woF u d q k false t (s + u) + (16 - q) * woF u d q k false t (s - d) < (s - k) * 16 ^ (t + 1)
      · rw [if_pos ((pk_lLT (by omega) (by omega)).mpr c), if_pos c]
      · rw [if_neg (fun e => c ((pk_lLT (by omega) (by omega)).mp e)), if_neg c]
theorem r_wo {n ma u d q k : Nat} {la : Bool} {z : Int32} {S : pq_S} (hz : z = if la then 1 else 0) (hu : u ≤ 99) (hd : d ≤ 99) (hq : q ≤ 16) (hk : k ≤ 999) (f1 : pI S 1255 ma = nI u) (f2 : pI S 1256 ma = nI d) (f3 : pI S 1257 ma = nI q) (f4 : pI S 1258 ma = nI k) : ∀ t s D, t ≤ 6 → t < D → s + t * u ≤ 2000 → m_worO_d n D ma (nI s) (nI t) z S = some (lN (woF u d q k la t s), S) := by
  have now : ∀ s D (t : Int32), s ≤ 2000 → g_X12_worthOf n (m_worO_d n D) ma (nI s) t z S = b_X12_worthOf_19 n (m_worO_d n D) ma (nI s) t z (lN (s - k)) S := fun s D t hs => by
    rw [g_X12_worthOf, f4]
    by_cases c : s ≤ k
    · rw [if_pos (nI_le c (by omega)), show s - k = 0 by omega]; rfl
    · rw [if_neg (nI_ge (by omega) (by omega)), pk_sub (by omega), nI_l (by omega)]
  intro t
  induction t with
  | zero =>
    intro s D h1 h2 h3
    obtain ⟨D, rfl⟩ : ∃ E, D = E + 1 := ⟨D - 1, by omega⟩
    rw [m_worO_d, now s D _ (by omega), b_X12_worthOf_19, if_pos (show nI 0 = 0 from rfl), woF]
  | succ t ih =>
    intro s D h1 h2 h3
    obtain ⟨D, rfl⟩ : ∃ E, D = E + 1 := ⟨D - 1, by omega⟩
    have h3' := h3
    rw [Nat.succ_mul] at h3'
    have b1 := wo_le (u := u) (d := d) (k := k) (la := la) hq t (s + u) (by omega)
    have b2 := wo_le (u := u) (d := d) (k := k) (la := la) hq t (s - d) (by omega)
    have p1 := p16_le (t := t) (by omega)
    have p2 := p16_le h1
    have b3 := wo_M hq b1 b2
    have b4 : (s - k) * 16 ^ (t + 1) ≤ 2000 * 16777216 := Nat.mul_le_mul (by omega) p2
    have b5 : 16 * (2000 * 16 ^ t) ≤ 16 * (2000 * 16777216) := by omega
    have lo : (if nI s ≤ nI d then b_X12_worthOf_46 n (m_worO_d n D) ma (nI s) (nI (t + 1)) z (lN (s - k)) 0 S else b_X12_worthOf_46 n (m_worO_d n D) ma (nI s) (nI (t + 1)) z (lN (s - k)) (nI s - nI d) S) = b_X12_worthOf_46 n (m_worO_d n D) ma (nI s) (nI (t + 1)) z (lN (s - k)) (nI (s - d)) S := by
      by_cases c : s ≤ d
      · rw [if_pos (nI_le c (by omega)), show s - d = 0 by omega]; rfl
      · rw [if_neg (nI_ge (by omega) (by omega)), pk_sub (by omega)]
    rw [m_worO_d, now s D _ (by omega), b_X12_worthOf_19, if_neg (nI_ne0 (by omega) (by omega)), f2, lo, b_X12_worthOf_46, f1, nI_add, nI_pred, ih (s + u) D (by omega) (by omega) (by omega), cb_mk, ih (s - d) D (by omega) (by omega) (by omega), cb_mk, lt_mk, lt_mk, f3, show (16 : Int32) - nI q = nI (16 - q) from pk_sub (a := 16) hq, nI_l (by omega), nI_l (by omega), lN_mul, lN_mul, lN_add, show (4 : Int32) * nI (t + 1) = nI (4 * (t + 1)) from pk_mul 4 (t + 1), wb_shl _ (by omega), p16, woF]
    cases la with
    | true =>
      rw [hz, if_neg (by decide), if_pos rfl, b_X12_worthOf_110]
    | false =>
      rw [hz, if_pos (show (if false = true then (1 : Int32) else 0) = 0 from rfl), if_neg (show ¬ (false = true) by decide)]
      by_cases c : q * woF u d q k false t (s + u) + (16 - q) * woF u d q k false t (s - d) ≤ (s - k) * 16 ^ (t + 1)
      · rw [if_pos ((lg_cmp_le _ _).mpr ((pk_lLE (by omega) (by omega)).mpr c))]
        by_cases c2 : q * woF u d q k false t (s + u) + (16 - q) * woF u d q k false t (s - d) < (s - k) * 16 ^ (t + 1)
        · rw [if_pos c2]
        · rw [if_neg c2, show (s - k) * 16 ^ (t + 1) = q * woF u d q k false t (s + u) + (16 - q) * woF u d q k false t (s - d) by omega]
      · rw [if_neg (fun e => c ((pk_lLE (by omega) (by omega)).mp ((lg_cmp_le _ _).mp e))), b_X12_worthOf_110, if_neg (by omega)]
/-- halving both -/
def hvF : Nat → Nat → Nat → Nat × Nat
  | 0, a, b => (a, b)
  | c + 1, a, b => if a % 2 = 0 then hvF c (a / 2) (b / 2) else (a, b)
theorem hv_gcd : ∀ m a, hvF m a (2 ^ m) = (a / Nat.gcd a (2 ^ m), 2 ^ m / Nat.gcd a (2 ^ m)) := by
  intro m
  induction m with
  | zero => intro a; rw [hvF, Nat.pow_zero, Nat.gcd_one_right, Nat.div_one]
  | succ m ih =>
    intro a
    rw [hvF]
    by_cases c : a % 2 = 0
    · obtain ⟨b, rfl⟩ : ∃ b, a = 2 * b := ⟨a / 2, by omega⟩
      have e1 : 2 ^ (m + 1) = 2 * 2 ^ m := by rw [Nat.pow_succ, Nat.mul_comm]
      rw [if_pos c, e1, Nat.mul_div_cancel_left _ (by decide), Nat.mul_div_cancel_left _ (by decide), ih, Nat.gcd_mul_left, Nat.mul_div_mul_left _ _ (by decide), Nat.mul_div_mul_left _ _ (by decide)]
    · have h1 : Nat.gcd a 2 = 1 := by
        rw [Nat.gcd_comm, Nat.gcd_rec, show a % 2 = 1 by omega, Nat.gcd_one_left]
      have h2 : Nat.gcd a (2 ^ (m + 1)) = 1 := Nat.Coprime.pow_right (m + 1) h1
      rw [if_neg c, h2, Nat.div_one, Nat.div_one]
theorem x_frac {n t : Nat} {w : Int32} {S : pq_S} (ht : t ≤ 6) : ∀ (f i a b : Nat), i ≤ 4 * t → 4 * t < i + f → a < 2 ^ 60 → b < 2 ^ 60 → b_X11_partOfFraction_12 n f (nI t) w (lN a) (lN b) (nI i) S = some (if w = 0 then lN (hvF (4 * t - i) a b).1 else lN (hvF (4 * t - i) a b).2, S) := by
  intro f
  induction f with
  | zero => intro i a b h1 h2; omega
  | succ f ih =>
    intro i a b h1 h2 h3 h4
    have fin : b_X11_partOfFraction_53 n w (lN a) (lN b) S = some (if w = 0 then lN a else lN b, S) := by
      rw [b_X11_partOfFraction_53]
      split <;> rfl
    rw [b_X11_partOfFraction_12, show (4 : Int32) * nI t = nI (4 * t) from pk_mul 4 t]
    by_cases c : 4 * t ≤ i
    · rw [if_pos (nI_le c (by omega)), show 4 * t - i = 0 by omega, hvF, fin]
    · rw [if_neg (nI_ge (by omega) (by omega)), show (2 : Int64) = lN 2 from rfl, pk_lRem (by omega) (by decide) (by omega), show (0 : Int64) = lN 0 from rfl, show 4 * t - i = (4 * t - (i + 1)) + 1 by omega, hvF]
      by_cases c2 : a % 2 = 0
      · rw [if_pos ((lg_cmp_eq _ _).mpr (by rw [c2])), if_pos c2, pk_lDiv (by omega) (by decide) (by omega), pk_lDiv (by omega) (by decide) (by omega), nI_1]
        exact ih (i + 1) (a / 2) (b / 2) (by omega) (by omega) (by omega) (by omega)
      · rw [if_neg (fun e => c2 ((pk_lEQ (by omega) (by omega)).mp ((lg_cmp_eq _ _).mp e))), if_neg c2, fin]
theorem r_frac {n a b : Nat} {w : Int32} {S : pq_S} (ha : a < 2 ^ 60) (hb : b < 2 ^ 60) (hg : 0 < Nat.gcd a b) : ∀ (k f x y : Nat), 2 * k < f → y < 2 ^ k → x < 2 ^ 60 → y < 2 ^ 60 → Nat.gcd x y = Nat.gcd a b → b_X12_least_6 n f (lN a) (lN b) w (lN x) (lN y) S = some (if w = 0 then lN (a / Nat.gcd a b) else lN (b / Nat.gcd a b), S) := by
  have fin : ∀ (f x y : Nat), 0 < f → x < 2 ^ 60 → y = 0 → Nat.gcd x y = Nat.gcd a b → b_X12_least_6 n f (lN a) (lN b) w (lN x) (lN y) S = some (if w = 0 then lN (a / Nat.gcd a b) else lN (b / Nat.gcd a b), S) := fun f x y h1 h2 h3 h4 => by
    obtain ⟨f, rfl⟩ : ∃ e, f = e + 1 := ⟨f - 1, by omega⟩
    subst h3
    rw [Nat.gcd_zero_right] at h4
    have hx : ¬ lN x = 0 := fun e => by
      have := (pk_lEQ (a := x) (b := 0) (by omega) (by omega)).mp e
      omega
    rw [b_X12_least_6, if_pos ((lg_cmp_eq (lN 0) 0).mpr rfl), b_X12_least_31, ← h4]
    by_cases c : w = 0
    · rw [if_pos c, if_pos c, ck_pos hx, pk_lDiv (by omega) (by omega) (by omega)]
    · rw [if_neg c, if_neg c, ck_pos hx, pk_lDiv (by omega) (by omega) (by omega)]
  have stp : ∀ (f x y : Nat), x < 2 ^ 60 → y < 2 ^ 60 → 0 < y → b_X12_least_6 n (f + 1) (lN a) (lN b) w (lN x) (lN y) S = b_X12_least_6 n f (lN a) (lN b) w (lN y) (lN (x % y)) S := fun f x y h1 h2 h3 => by
    have hy : ¬ lN y = 0 := fun e => by
      have := (pk_lEQ (a := y) (b := 0) (by omega) (by omega)).mp e
      omega
    rw [b_X12_least_6, if_neg (fun e => hy ((lg_cmp_eq _ _).mp e)), ck_pos hy, pk_lRem (by omega) h3 (by omega)]
  have gs : ∀ x y, Nat.gcd y (x % y) = Nat.gcd x y := fun x y => by rw [Nat.gcd_comm y (x % y), ← Nat.gcd_rec, Nat.gcd_comm]
  intro k
  induction k with
  | zero => intro f x y h1 h2 h3 h4 h5; exact fin f x y (by omega) h3 (by rw [Nat.pow_zero] at h2; omega) h5
  | succ k ih =>
    intro f x y h1 h2 h3 h4 h5
    by_cases c : y = 0
    · exact fin f x y (by omega) h3 c h5
    · obtain ⟨f, rfl⟩ : ∃ e, f = e + 1 := ⟨f - 1, by omega⟩
      have hm := Nat.mod_lt x (show 0 < y by omega)
      rw [stp f x y h3 h4 (by omega)]
      by_cases c2 : x % y = 0
      · exact fin f y (x % y) (by omega) h4 c2 (by rw [gs, h5])
      · obtain ⟨f, rfl⟩ : ∃ e, f = e + 1 := ⟨f - 1, by omega⟩
        have hm2 := Nat.mod_lt y (show 0 < x % y by omega)
        have hd := Nat.div_add_mod y (x % y)
        have hq : 1 ≤ y / (x % y) := Nat.div_pos (by omega) (by omega)
        have hq2 : x % y ≤ x % y * (y / (x % y)) := by
          have := Nat.mul_le_mul (Nat.le_refl (x % y)) hq
          omega
        rw [stp f y (x % y) h4 (by omega) (by omega)]
        refine ih f (x % y) (y % (x % y)) (by omega) ?_ (by omega) (by omega) (by rw [gs, gs, h5])
        rw [Nat.pow_succ] at h2
        omega
abbrev optC (s u d q k t : Int32) : Prop := (0 ≤ s ∧ s ≤ 999) ∧ (0 ≤ u ∧ u ≤ 99) ∧ (0 ≤ d ∧ d ≤ 99) ∧ (0 ≤ q ∧ q ≤ 16) ∧ (0 ≤ k ∧ k ≤ 999) ∧ 0 ≤ t ∧ t ≤ 6
theorem sp_optX (n : Nat) (s u d q k t : Int32) (S : pq_S) : m_X11_isOption n s u d q k t S = some (if optC s u d q k t then 1 else 0, S) := by
  unfold m_X11_isOption
  rw [sp_isWithin, cb_mk]
  by_cases c1 : 0 ≤ s ∧ s ≤ 999
  · rw [if_pos c1, if_neg (by decide), sp_isWithin, cb_mk]
    by_cases c2 : 0 ≤ u ∧ u ≤ 99
    · rw [if_pos c2, if_neg (by decide), sp_isWithin, cb_mk]
      by_cases c3 : 0 ≤ d ∧ d ≤ 99
      · rw [if_pos c3, if_neg (by decide), sp_isWithin, cb_mk]
        by_cases c4 : 0 ≤ q ∧ q ≤ 16
        · rw [if_pos c4, if_neg (by decide), sp_isWithin, cb_mk]
          by_cases c5 : 0 ≤ k ∧ k ≤ 999
          · rw [if_pos c5, if_neg (by decide), sp_isWithin, cb_mk]
            by_cases c6 : 0 ≤ t ∧ t ≤ 6
            · rw [if_pos c6, if_neg (by decide), if_pos ⟨c1, c2, c3, c4, c5, c6⟩]
            · rw [if_neg c6, if_pos rfl, if_neg (fun h => c6 h.2.2.2.2.2)]
          · rw [if_neg c5, if_pos rfl, if_neg (fun h => c5 h.2.2.2.2.1)]
        · rw [if_neg c4, if_pos rfl, if_neg (fun h => c4 h.2.2.2.1)]
      · rw [if_neg c3, if_pos rfl, if_neg (fun h => c3 h.2.2.1)]
    · rw [if_neg c2, if_pos rfl, if_neg (fun h => c2 h.2.1)]
  · rw [if_neg c1, if_pos rfl, if_neg (fun h => c1 h.1)]
theorem sp_optM1 {n ma : Nat} {s u d q k t : Int32} {S : pq_S} (h : optC s u d q k t) : m_X12_isOption n ma s u d q k t 1 (sI S 1200 ma 0) = some (1, sI (sI (sI (sI (sI S 1200 ma 0) 1255 ma u) 1256 ma d) 1257 ma q) 1258 ma k) := by
  obtain ⟨c1, c2, c3, c4, c5, c6⟩ := h
  unfold m_X12_isOption b_X12_isOption_76
  rw [sp_within, if_pos c1, cb_mk, if_neg (by decide), sp_within, if_pos c2, cb_mk, if_neg (by decide), sp_within, if_pos c3, cb_mk, if_neg (by decide), sp_within, if_pos c4, cb_mk, if_neg (by decide), sp_within, if_pos c5, cb_mk, if_neg (by decide), sp_within, if_pos c6, cb_mk, if_neg (by decide), if_neg (by decide), sp_mayS1, cb_mk, if_neg (by decide)]
theorem sp_optM0 {A : Nat → Nat} {V : Nat → Prop} {g : GH} {n : Nat} {s u d q k t m : Int32} {S : pq_S} (hJ : JG A V g S) (h : ¬ (optC s u d q k t ∧ ¬ m = 0)) : m_X12_isOption n (A 60) s u d q k t m (sI (badS A S) 1200 (A 60) 0) = some (0, badM A 1 (st0 (badS A S) (A 60))) := by
  have E : b_X12_isOption_75 n (A 60) u d q k (A 60) (sI (badS A S) 1200 (A 60) 0) = some (0, badM A 1 (st0 (badS A S) (A 60))) := by
    rw [b_X12_isOption_75, b_X12_isOption_76, jg_bad hJ (by decide), cb_mk, if_pos rfl]
  unfold m_X12_isOption
  rw [sp_within, cb_mk]
  by_cases c1 : 0 ≤ s ∧ s ≤ 999
  · rw [if_pos c1, if_neg (by decide), sp_within, cb_mk]
    by_cases c2 : 0 ≤ u ∧ u ≤ 99
    · rw [if_pos c2, if_neg (by decide), sp_within, cb_mk]
      by_cases c3 : 0 ≤ d ∧ d ≤ 99
      · rw [if_pos c3, if_neg (by decide), sp_within, cb_mk]
        by_cases c4 : 0 ≤ q ∧ q ≤ 16
        · rw [if_pos c4, if_neg (by decide), sp_within, cb_mk]
          by_cases c5 : 0 ≤ k ∧ k ≤ 999
          · rw [if_pos c5, if_neg (by decide), sp_within, cb_mk]
            by_cases c6 : 0 ≤ t ∧ t ≤ 6
            · rw [if_pos c6, if_neg (by decide)]
              by_cases c7 : m = 0
              · rw [if_pos c7, E]
              · exact absurd ⟨⟨c1, c2, c3, c4, c5, c6⟩, c7⟩ h
            · rw [if_neg c6, if_pos rfl, E]
          · rw [if_neg c5, if_pos rfl, E]
        · rw [if_neg c4, if_pos rfl, E]
      · rw [if_neg c3, if_pos rfl, E]
    · rw [if_neg c2, if_pos rfl, E]
  · rw [if_neg c1, if_pos rfl, E]
/-- an option's figures, as plain numbers -/
theorem opt_nat {s u d q k t : Int32} (h : optC s u d q k t) : ∃ s' u' d' q' k' t' : Nat, (s = nI s' ∧ u = nI u' ∧ d = nI d' ∧ q = nI q' ∧ k = nI k' ∧ t = nI t') ∧ s' ≤ 999 ∧ u' ≤ 99 ∧ d' ≤ 99 ∧ q' ≤ 16 ∧ k' ≤ 999 ∧ t' ≤ 6 := by
  obtain ⟨c1, c2, c3, c4, c5, c6⟩ := h
  rcases i32_wi s 0 999 (by decide) (by decide) with ⟨s', _, h1, e1⟩ | r
  · rcases i32_wi u 0 99 (by decide) (by decide) with ⟨u', _, h2, e2⟩ | r
    · rcases i32_wi d 0 99 (by decide) (by decide) with ⟨d', _, h3, e3⟩ | r
      · rcases i32_wi q 0 16 (by decide) (by decide) with ⟨q', _, h4, e4⟩ | r
        · rcases i32_wi k 0 999 (by decide) (by decide) with ⟨k', _, h5, e5⟩ | r
          · rcases i32_wi t 0 6 (by decide) (by decide) with ⟨t', _, h6, e6⟩ | r
            · exact ⟨s', u', d', q', k', t', ⟨e1, e2, e3, e4, e5, e6⟩, h1, h2, h3, h4, h5, h6⟩
            · exact absurd c6 r
          · exact absurd c5 r
        · exact absurd c4 r
      · exact absurd c3 r
    · exact absurd c2 r
  · exact absurd c1 r
theorem opt_b {s u t : Nat} (h1 : s ≤ 999) (h2 : u ≤ 99) (h3 : t ≤ 6) : s + t * u ≤ 2000 := by
  have := Nat.mul_le_mul h3 h2
  omega
theorem pI_e (S : pq_S) (f a : Nat) (v : Int32) : pI (sI S f a v) f a = v := by rw [pI_sI, if_pos ⟨rfl, rfl⟩]
theorem pI_n {S : pq_S} {f g a b : Nat} {v : Int32} (h : g ≠ f) : pI (sI S f a v) g b = pI S g b := by rw [pI_sI, if_neg (fun q => h q.1)]
abbrev opS (A : Nat → Nat) (S : pq_S) (u d q k : Nat) : pq_S := sI (sI (sI (sI (sI S 1200 (A 60) 0) 1255 (A 60) (nI u)) 1256 (A 60) (nI d)) 1257 (A 60) (nI q)) 1258 (A 60) (nI k)
theorem r_wo' {A : Nat → Nat} {n s u d q k t : Nat} {la : Bool} {z : Int32} {S : pq_S} (hz : z = if la then 1 else 0) (h1 : s ≤ 999) (h2 : u ≤ 99) (h3 : d ≤ 99) (h4 : q ≤ 16) (h5 : k ≤ 999) (h6 : t ≤ 6) : m_X12_worthOf n (A 60) (nI s) (nI t) z (opS A S u d q k) = some (lN (woF u d q k la t s), opS A S u d q k) := r_wo hz h2 h3 h4 h5 (by simp (disch := decide) only [pI_e, pI_n]) (by simp (disch := decide) only [pI_e, pI_n]) (by simp (disch := decide) only [pI_e, pI_n]) (by simp (disch := decide) only [pI_e, pI_n]) t s 64 h6 (by omega) (opt_b h1 h2 h6)
theorem op_kp {A : Nat → Nat} {S : pq_S} {u d q k : Nat} : KP A S (opS A S u d q k) := KPL.wI (KPL.wI (KPL.wI (KPL.wI (KPL.wI (KPL.rf _ _ _ _ _) (by decide)) (by decide)) (by decide)) (by decide)) (by decide)
theorem op_th {A : Nat → Nat} {S : pq_S} {u d q k : Nat} : pI (opS A S u d q k) 1200 (A 60) = 0 := by simp (disch := decide) only [pI_e, pI_n]
theorem wo_big {s u d q k t : Nat} {la : Bool} (h1 : s ≤ 999) (h2 : u ≤ 99) (h4 : q ≤ 16) (h6 : t ≤ 6) : woF u d q k la t s < 2 ^ 60 := by
  have a := wo_le (d := d) (k := k) (la := la) h4 t s (opt_b h1 h2 h6)
  have b := p16_le h6
  omega
theorem frX {n a t : Nat} {w : Int32} {S : pq_S} (hn : 200 ≤ n) (ha : a < 2 ^ 60) (ht : t ≤ 6) : m_X11_partOfFraction n (lN a) (nI t) w S = some (if w = 0 then lN (a / Nat.gcd a (16 ^ t)) else lN (16 ^ t / Nat.gcd a (16 ^ t)), S) := by
  have b := p16_le ht
  unfold m_X11_partOfFraction
  rw [sp_scale ht, cb_mk]
  have e := x_frac (n := n) (w := w) (S := S) ht n 0 a (16 ^ t) (by omega) (by omega) ha (by omega)
  rw [nI_0, Nat.sub_zero] at e
  rw [e, ← p16 t, hv_gcd]
theorem frM {n a t : Nat} {w : Int32} {S : pq_S} (hn : 200 ≤ n) (ha : a < 2 ^ 60) (ht : t ≤ 6) : m_X12_least n (lN a) ((1 : Int64) <<< (Int32.toInt64 ((4 : Int32) * nI t) &&& (63 : Int64))) w S = some (if w = 0 then lN (a / Nat.gcd a (16 ^ t)) else lN (16 ^ t / Nat.gcd a (16 ^ t)), S) := by
  have b := p16_le ht
  have hp : 0 < 16 ^ t := Nat.pow_pos (by decide)
  rw [show (4 : Int32) * nI t = nI (4 * t) from pk_mul 4 t, show (1 : Int64) = lN 1 from rfl, wb_shl 1 (by omega), Nat.one_mul, p16]
  exact r_frac ha (by omega) (Nat.gcd_pos_of_pos_right _ hp) 25 n a (16 ^ t) (by omega) (by omega) ha (by omega) rfl
theorem ob_21 (n xa ma : Nat) (hn : 20000 ≤ n) : OB_21 n xa ma (JJ xa ma) := by
  rintro S f ⟨A, V, g, rfl, rfl, h⟩ s u d q k t
  have h : JG A V g S := h
  refine ⟨200, 8000, by decide, by decide, _, _, sp_optX _ _ _ _ _ _ _ _, 1, 6, by decide, by decide, wr_need _ (fun c => ?_) (fun c => ⟨rfl, kz_bad h (b := 0) (by decide) ?_⟩)⟩
  · obtain ⟨s, u, d, q, k, t, ⟨rfl, rfl, rfl, rfl, rfl, rfl⟩, h1, h2, h3, h4, h5, h6⟩ := opt_nat c
    have hm := sp_optM1 (n := n) (ma := A 60) (S := S) c
    have wb := wo_big (d := d) (k := k) (la := false) h1 h2 h4 h6
    have p2 := p16_le h6
    have b4 : (s - k) * 16 ^ t ≤ 999 * 16777216 := Nat.mul_le_mul (by omega) p2
    by_cases c1 : s ≤ k
    · rw [if_pos (nI_le c1 (by omega))]
      refine kz_ok h (S2 := opS A S u d q k) ?_ op_kp op_th
      unfold m_X12_now
      rw [hm, cb_mk, if_neg (by decide), if_pos (nI_le c1 (by omega))]
    · rw [if_neg (nI_ge (by omega) (by omega))]
      refine ⟨_, _, sp_scale h6, _, _, x_wo (la := false) rfl h2 h3 h4 h5 t s 64 h6 (by omega) (opt_b h1 h2 h6), ?_⟩
      rw [pk_sub (by omega), nI_l (by omega), lN_mul]
      have G : ∀ r : Int32, r = (if (s - k) * 16 ^ t < woF u d q k false t s then 0 else 1) → KZ (JJ (A 0) (A 60)) (A 60) (m_X12_now n (A 60) (nI s) (nI u) (nI d) (nI q) (nI k) (nI t)) 0 (vp_updL f 0 (if r = 0 then 0 else 1)) S := fun r hr => by
        refine kz_ok h (S2 := opS A S u d q k) ?_ op_kp op_th
        unfold m_X12_now
        rw [hm, cb_mk, if_neg (by decide), if_neg (nI_ge (by omega) (by omega)), r_wo' (z := 0) (la := false) rfl h1 h2 h3 h4 h5 h6, cb_mk, pk_sub (by omega), nI_l (by omega), show (4 : Int32) * nI t = nI (4 * t) from pk_mul 4 t, wb_shl _ (by omega), p16, hr]
        by_cases c2 : (s - k) * 16 ^ t < woF u d q k false t s
        · rw [if_pos ((lg_cmp_lt _ _).mpr ((pk_lLT (by omega) (by omega)).mpr c2)), if_pos c2]
        · rw [if_neg (fun e => c2 ((pk_lLT (by omega) (by omega)).mp ((lg_cmp_lt _ _).mp e))), if_neg c2]
      by_cases c2 : (s - k) * 16 ^ t < woF u d q k false t s
      · rw [if_pos ((lg_cmp_lt _ _).mpr ((pk_lLT (by omega) (by omega)).mpr c2))]
        exact G 0 (if_pos c2).symm
      · rw [if_neg (fun e => c2 ((pk_lLT (by omega) (by omega)).mp ((lg_cmp_lt _ _).mp e)))]
        exact G 1 (if_neg c2).symm
  · unfold m_X12_now
    rw [sp_optM0 h (fun e => c e.1), cb_mk, if_pos rfl]
theorem ob_19 (n xa ma : Nat) (hn : 20000 ≤ n) : OB_19 n xa ma (JJ xa ma) := by
  rintro S f ⟨A, V, g, rfl, rfl, h⟩ s u d q k t w
  have h : JG A V g S := h
  refine ⟨200, 8000, by decide, by decide, _, _, sp_optX _ _ _ _ _ _ _ _, ?_⟩
  have B : m_X12_option n (A 60) s u d q k t w (badS A S) = some (0, badM A 1 (st0 (badS A S) (A 60))) → pb_X11_option_30 n s u d q k t w (A 0) S 200 8000 (fun (k1 : Nat) (S1 : pq_S) => (k1 = 1 ∧ (KJ (JJ (A 0) (A 60)) (A 60) (m_X12_option n (A 60) s u d q k t w)) 1 f S1)) (fun r (S1 : pq_S) => (KJ (JJ (A 0) (A 60)) (A 60) (m_X12_option n (A 60) s u d q k t w)) 0 (vp_updL f 0 r) S1) := fun hm => ⟨1, 6, by decide, by decide, wr_need0 (by decide) (by decide) ⟨rfl, kj_bad h (b := 0) (by decide) hm⟩⟩
  by_cases c : optC s u d q k t
  · rw [if_pos c, if_neg (by decide)]
    refine ⟨_, _, sp_isWithin _ _ _ _ _, ?_⟩
    by_cases c2 : 0 ≤ w ∧ w ≤ 1
    · rw [if_pos c2, if_neg (by decide)]
      obtain ⟨s, u, d, q, k, t, ⟨rfl, rfl, rfl, rfl, rfl, rfl⟩, h1, h2, h3, h4, h5, h6⟩ := opt_nat c
      have wb := wo_big (d := d) (k := k) (la := false) h1 h2 h4 h6
      refine ⟨1, 6, by decide, by decide, wr_need1 ⟨_, _, x_wo (la := false) rfl h2 h3 h4 h5 t s 64 h6 (by omega) (opt_b h1 h2 h6), _, _, frX (by omega) wb h6, kj_ok h (S2 := opS A S u d q k) ?_ op_kp op_th⟩⟩
      unfold m_X12_option
      rw [sp_within, if_pos c2, cb_mk, sp_optM1 c, cb_mk, if_neg (by decide), r_wo' (z := 0) (la := false) rfl h1 h2 h3 h4 h5 h6, cb_mk, frM (by omega) wb h6, cb_mk]
    · rw [if_neg c2, if_pos rfl]
      refine B ?_
      unfold m_X12_option
      rw [sp_within, if_neg c2, cb_mk, sp_optM0 h (fun e => e.2 rfl), cb_mk, if_pos rfl]
  · rw [if_neg c, if_pos rfl]
    refine B ?_
    unfold m_X12_option
    rw [sp_within, cb_mk, sp_optM0 h (fun e => c e.1), cb_mk, if_pos rfl]
theorem ob_20 (n xa ma : Nat) (hn : 20000 ≤ n) : OB_20 n xa ma (JJ xa ma) := by
  rintro S f ⟨A, V, g, rfl, rfl, h⟩ s u d q k t w
  have h : JG A V g S := h
  refine ⟨200, 8000, by decide, by decide, _, _, sp_optX _ _ _ _ _ _ _ _, ?_⟩
  have B : m_X12_late n (A 60) s u d q k t w (badS A S) = some (0, badM A 1 (st0 (badS A S) (A 60))) → pb_X11_late_30 n s u d q k t w (A 0) S 200 8000 (fun (k1 : Nat) (S1 : pq_S) => (k1 = 1 ∧ (KJ (JJ (A 0) (A 60)) (A 60) (m_X12_late n (A 60) s u d q k t w)) 1 f S1)) (fun r (S1 : pq_S) => (KJ (JJ (A 0) (A 60)) (A 60) (m_X12_late n (A 60) s u d q k t w)) 0 (vp_updL f 0 r) S1) := fun hm => ⟨1, 6, by decide, by decide, wr_need0 (by decide) (by decide) ⟨rfl, kj_bad h (b := 0) (by decide) hm⟩⟩
  by_cases c : optC s u d q k t
  · rw [if_pos c, if_neg (by decide)]
    refine ⟨_, _, sp_isWithin _ _ _ _ _, ?_⟩
    by_cases c2 : 0 ≤ w ∧ w ≤ 1
    · rw [if_pos c2, if_neg (by decide)]
      obtain ⟨s, u, d, q, k, t, ⟨rfl, rfl, rfl, rfl, rfl, rfl⟩, h1, h2, h3, h4, h5, h6⟩ := opt_nat c
      have wb := wo_big (d := d) (k := k) (la := true) h1 h2 h4 h6
      refine ⟨1, 6, by decide, by decide, wr_need1 ⟨_, _, x_wo (la := true) rfl h2 h3 h4 h5 t s 64 h6 (by omega) (opt_b h1 h2 h6), _, _, frX (by omega) wb h6, kj_ok h (S2 := opS A S u d q k) ?_ op_kp op_th⟩⟩
      unfold m_X12_late
      rw [sp_within, if_pos c2, cb_mk, sp_optM1 c, cb_mk, if_neg (by decide), r_wo' (z := 1) (la := true) rfl h1 h2 h3 h4 h5 h6, cb_mk, frM (by omega) wb h6, cb_mk]
    · rw [if_neg c2, if_pos rfl]
      refine B ?_
      unfold m_X12_late
      rw [sp_within, if_neg c2, cb_mk, sp_optM0 h (fun e => e.2 rfl), cb_mk, if_pos rfl]
  · rw [if_neg c, if_pos rfl]
    refine B ?_
    unfold m_X12_late
    rw [sp_within, cb_mk, sp_optM0 h (fun e => c e.1), cb_mk, if_pos rfl]
