/-- the low byte of a word -/
def by8 (w : Int32) : Nat := w.toBitVec.toNat % 256
theorem by8_le (w : Int32) : by8 w ≤ 255 := by unfold by8; omega
theorem by8_and (w : Int32) : w &&& 255 = nI (by8 w) := by
  apply Int32.toBitVec_inj.mp
  rw [Int32.toBitVec_and]
  apply BitVec.eq_of_toNat_eq
  rw [BitVec.toNat_and]
  show w.toBitVec.toNat &&& (2 ^ 8 - 1) = (BitVec.ofNat 32 (w.toBitVec.toNat % 256)).toNat
  rw [Nat.and_two_pow_sub_one_eq_mod, BitVec.toNat_ofNat]
  omega
theorem by8_tb : ∀ b, b < 256 → (BitVec.ofNat 8 b).signExtend 32 = (sgn8 b).toBitVec := by decide +kernel
theorem by8_lo (x : BitVec 32) : x.signExtend 8 = BitVec.ofNat 8 (x.toNat % 256) := by
  apply BitVec.eq_of_toNat_eq
  unfold BitVec.signExtend
  rw [BitVec.toNat_ofInt, BitVec.toNat_ofNat, BitVec.toInt_eq_toNat_cond]
  split <;> omega
theorem by8_s (w : Int32) : vp_nar .byte (Int8.toInt32 (Int32.toInt8 w)) = sgn8 (by8 w) := by
  rw [pk_vb]
  apply Int32.toBitVec_inj.mp
  show (w.toBitVec.signExtend 8).signExtend 32 = _
  rw [by8_lo, by8_tb _ (by omega)]
  rfl
/-- only one field and one row were written -/
def WT (ff ca : Nat) (S T : pq_S) : Prop := (∀ a k, TY S a k → TY T a k) ∧ pR T = pR S ∧ pN T = pN S ∧ pQ T = pQ S ∧ (∀ f a, f ≠ ff → pI T f a = pI S f a) ∧ ∀ a i, a ≠ ca → pA T a i = pA S a i
theorem WT.tr {ff ca : Nat} {S T U : pq_S} (h : WT ff ca S T) (k : WT ff ca T U) : WT ff ca S U := ⟨fun a q x => k.1 a q (h.1 a q x), k.2.1.trans h.2.1, k.2.2.1.trans h.2.2.1, k.2.2.2.1.trans h.2.2.2.1, fun f a q => (k.2.2.2.2.1 f a q).trans (h.2.2.2.2.1 f a q), fun a i q => (k.2.2.2.2.2 a i q).trans (h.2.2.2.2.2 a i q)⟩
theorem WT.rf (ff ca : Nat) (S : pq_S) : WT ff ca S S := ⟨fun _ _ h => h, rfl, rfl, rfl, fun _ _ _ => rfl, fun _ _ _ => rfl⟩
theorem WT.st (ff ca : Nat) (S : pq_S) (a i : Nat) (v w : Int32) : WT ff ca S (sI (sA S ca i v) ff a w) := ⟨fun _ _ h => h, rfl, rfl, rfl, fun f b q => by rw [pI_sI, if_neg (fun z => q z.1)]; rfl, fun b j q => by rw [pA_sI, pA_sA, if_neg (fun z => q z.1)]⟩
theorem WT.kp {F : List Nat} {P : List (Nat × Nat)} {AA : List Nat} {A : Nat → Nat} {ff j : Nat} {S T : pq_S} (h : WT ff (A j) S T) (h1 : ff ∈ F) (h2 : j ∈ AA) : KPL F P AA A S T := ⟨h.1, fun f a _ _ => by rw [h.2.1], fun a _ => by rw [h.2.2.1], fun a i _ => by rw [h.2.2.2.1], fun f a q _ _ => h.2.2.2.2.1 f a (fun e => q (e ▸ h1)), fun a i _ q _ => h.2.2.2.2.2 a i (q j h2), Or.inl (by rw [h.2.1])⟩
theorem x_ap1 {n a c p : Nat} {S : pq_S} {x s : Int32} (hs : ¬ s < 0) (hr : pR S 1000 a = some c) (hN : pN S c = 600) (hp : pI S 1001 a = nI p) (hp6 : p < 600) (f : Nat) : b_X10_append_3 n (f + 1) a x s S = b_X10_append_3 n f a x (s + (-8)) (sI (sA S c p (sgn8 (by8 (x >>> (s &&& 31))))) 1001 a (nI (p + 1))) := by
  rw [b_X10_append_3, if_neg hs]
  simp (disch := omega) only [hr, hN, hp, by8_s, ob_mk, cb_mk, lt_mk, ck_if, pR_sI, pN_sI, pA_sI, pQ_sI, pR_sA, pN_sA, pI_sA, pQ_sA, pR_sF, pN_sF, pI_sF, pQ_sF, ite_true, ite_false, if_true, if_false, not_true_eq_false, not_false_eq_true, LIT, ofN, nI_add, pk_mul, ixn, nI_clamp, nI_ltI, nI_leI, nI_eq, Nat.add_zero, Nat.zero_add, Nat.mul_zero, Nat.mul_one, Nat.reduceMul, Nat.not_le.mpr hp6, hp6]
theorem x_app {n a c p : Nat} {S : pq_S} (x : Int32) (hn : 5 ≤ n) (hr : pR S 1000 a = some c) (hN : pN S c = 600) (hp : pI S 1001 a = nI p) (hp6 : p + 4 ≤ 600) : ∃ T, m_X10_append n a x S = some T ∧ WT 1001 c S T ∧ pI T 1001 a = nI (p + 4) ∧ (∀ i, i < p → pA T c i = pA S c i) ∧ ∀ j, j < 4 → pA T c (p + j) = sgn8 (by8 (x >>> nI (24 - 8 * j))) := by
  obtain ⟨f, rfl⟩ : ∃ f, n = f + 5 := ⟨n - 5, by omega⟩
  unfold m_X10_append
  rw [x_ap1 (by decide) hr hN hp (by omega), show (24 : Int32) + (-8) = 16 from rfl, x_ap1 (p := p + 1) (c := c) (by decide) (by exact hr) (by exact hN) (pI_e ..) (by omega), show (16 : Int32) + (-8) = 8 from rfl, x_ap1 (p := p + 1 + 1) (c := c) (by decide) (by exact hr) (by exact hN) (pI_e ..) (by omega), show (8 : Int32) + (-8) = 0 from rfl, x_ap1 (p := p + 1 + 1 + 1) (c := c) (by decide) (by exact hr) (by exact hN) (pI_e ..) (by omega), b_X10_append_3, if_pos (by decide)]
  refine ⟨_, rfl, ((((WT.st ..).tr (WT.st ..)).tr (WT.st ..)).tr (WT.st ..)), pI_e .., fun i hi => ?_, fun j hj => ?_⟩
  · rw [pA_sI, pA_sA, if_neg (by omega), pA_sI, pA_sA, if_neg (by omega), pA_sI, pA_sA, if_neg (by omega), pA_sI, pA_sA, if_neg (by omega)]
  · rw [pA_sI, pA_sA]
    by_cases e3 : j = 3
    · subst e3; rw [if_pos ⟨rfl, by omega⟩]; rfl
    rw [if_neg (by omega), pA_sI, pA_sA]
    by_cases e2 : j = 2
    · subst e2; rw [if_pos ⟨rfl, by omega⟩]; rfl
    rw [if_neg (by omega), pA_sI, pA_sA]
    by_cases e1 : j = 1
    · subst e1; rw [if_pos ⟨rfl, by omega⟩]; rfl
    rw [if_neg (by omega), pA_sI, pA_sA]
    have e0 : j = 0 := by omega
    subst e0; rw [if_pos ⟨rfl, by omega⟩]; rfl
def fw (x1 x2 x3 x4 x5 : Int32) (q : Nat) : Int32 := if q = 0 then x1 else if q = 1 then x2 else if q = 2 then x3 else if q = 3 then x4 else x5
def fb (X : Nat → Int32) (i : Nat) : Nat := by8 (X (i / 4) >>> nI (24 - 8 * (i % 4)))
theorem fd_sh : ∀ k, k < 20 → (((24 : Int32) - ((8 : Int32) * (nI k - nI k / 4 * 4))) &&& (31 : Int32)) = nI (24 - 8 * (k % 4)) := by decide +kernel
theorem r_fd1 {n a c p k : Nat} {S : pq_S} {x1 x2 x3 x4 x5 z : Int32} {K : Nat → Int32 → Int32 → Int32 → Int32 → Int32 → Int32 → pq_S → Option (Int32 × pq_S)} (hz : z = fw x1 x2 x3 x4 x5 (k / 4)) (hk : k < 20) (hr : pR S 1209 a = some c) (hN : pN S c = 600) (hp : pI S 1202 a = nI p) (hp6 : p < 600) : b_X12_feed_76 n K a x1 x2 x3 x4 x5 (nI k) z S = K a x1 x2 x3 x4 x5 (nI (k + 1)) (sI (sA S c p (nI (fb (fw x1 x2 x3 x4 x5) k))) 1202 a (nI (p + 1))) := by
  unfold b_X12_feed_76
  rw [fd_sh k hk, by8_and]
  simp (disch := omega) only [hr, hN, hp, ob_mk, cb_mk, lt_mk, ck_if, pR_sI, pN_sI, pA_sI, pQ_sI, pR_sA, pN_sA, pI_sA, pQ_sA, pR_sF, pN_sF, pI_sF, pQ_sF, ite_true, ite_false, if_true, if_false, not_true_eq_false, not_false_eq_true, LIT, ofN, nI_add, pk_mul, ixn, nI_clamp, nI_ltI, nI_leI, nI_eq, Nat.add_zero, Nat.zero_add, Nat.mul_zero, Nat.mul_one, Nat.reduceMul]
  subst hz
  rfl
theorem r_feed {n a c p : Nat} {x1 x2 x3 x4 x5 : Int32} (hp6 : p + 20 ≤ 600) : ∀ (m k f : Nat) (S : pq_S), k + m = 20 → m < f → pR S 1209 a = some c → pN S c = 600 → pI S 1202 a = nI (p + k) → ∃ T, b_X12_feed_23 n f a x1 x2 x3 x4 x5 (nI k) S = some (nI (p + 20), T) ∧ WT 1202 c S T ∧ pI T 1202 a = nI (p + 20) ∧ (∀ i, i < p + k → pA T c i = pA S c i) ∧ ∀ i, k ≤ i → i < 20 → pA T c (p + i) = nI (fb (fw x1 x2 x3 x4 x5) i) := by
  intro m
  induction m with
  | zero =>
    intro k f S h1 h2 hr hN hp
    obtain ⟨f, rfl⟩ : ∃ g, f = g + 1 := ⟨f - 1, by omega⟩
    have : k = 20 := by omega
    subst this
    refine ⟨S, ?_, WT.rf _ _ _, hp, fun _ _ => rfl, fun i h3 h4 => by omega⟩
    rw [b_X12_feed_23, if_pos (by decide), hp]
  | succ m ih =>
    intro k f S h1 h2 hr hN hp
    obtain ⟨f, rfl⟩ : ∃ g, f = g + 1 := ⟨f - 1, by omega⟩
    obtain ⟨T, t1, t2, t3, t4, t5⟩ := ih (k + 1) f (sI (sA S c (p + k) (nI (fb (fw x1 x2 x3 x4 x5) k))) 1202 a (nI (p + k + 1))) (by omega) (by omega) hr hN (pI_e ..)
    refine ⟨T, ?_, (WT.st ..).tr t2, t3, fun i hi => ?_, fun i h3 h4 => ?_⟩
    · rw [← t1, b_X12_feed_23]
      simp (disch := omega) only [LIT, ofN, nI_add, pk_mul, ixn, nI_clamp, nI_ltI, nI_leI, nI_eq, Nat.add_zero, Nat.zero_add, Nat.mul_zero, Nat.mul_one, Nat.reduceMul]
      rw [if_neg (by omega)]
      by_cases e1 : 4 ≤ k
      · rw [if_pos e1]
        by_cases e2 : 8 ≤ k
        · rw [if_pos e2]
          by_cases e3 : 12 ≤ k
          · rw [if_pos e3]
            by_cases e4 : 16 ≤ k
            · rw [if_pos e4]
              exact r_fd1 (by rw [show k / 4 = 4 by omega]; rfl) (by omega) hr hN hp (by omega)
            · rw [if_neg e4]
              exact r_fd1 (by rw [show k / 4 = 3 by omega]; rfl) (by omega) hr hN hp (by omega)
          · rw [if_neg e3]
            exact r_fd1 (by rw [show k / 4 = 2 by omega]; rfl) (by omega) hr hN hp (by omega)
        · rw [if_neg e2]
          exact r_fd1 (by rw [show k / 4 = 1 by omega]; rfl) (by omega) hr hN hp (by omega)
      · rw [if_neg e1]
        exact r_fd1 (by rw [show k / 4 = 0 by omega]; rfl) (by omega) hr hN hp (by omega)
    · rw [t4 i (by omega), pA_sI, pA_sA, if_neg (by omega)]
    · by_cases e : i = k
      · subst e
        rw [t4 (p + i) (by omega), pA_sI, pA_sA, if_pos ⟨rfl, rfl⟩]
      · exact t5 i (by omega) h4
theorem ob_0 (n xa ma : Nat) (hn : 20000 ≤ n) : OB_0 n xa ma (JJ xa ma) := by
  rintro S ⟨A, V, g, rfl, rfl, h⟩ x1 x2 x3 x4 x5
  have h : JG A V g S := h
  obtain ⟨g1, g2, g3, g4, tp, p1, p2, p3, p4⟩ := h.tp
  unfold m_X11_feed m_X12_feed
  have hR := h.lay.r0_1100
  have hq : (pI S 1001 (A 1) + 20 ≤ 600) = (tp + 20 ≤ 600) := by
    rw [p2]
    simp (disch := omega) only [LIT, ofN, nI_add, pk_mul, ixn, nI_clamp, nI_ltI, nI_leI, nI_eq, Nat.add_zero, Nat.zero_add, Nat.mul_zero, Nat.mul_one, Nat.reduceMul]
  by_cases hb : tp + 20 ≤ 600
  · obtain ⟨T1, a1, a2, a3, a4, a5⟩ := x_app (n := n) x1 (by omega) h.lay.r1_1000 h.lay.n2 p2 (by omega)
    obtain ⟨T2, b1, b2, b3, b4, b5⟩ := x_app (n := n) (S := T1) x2 (by omega) (by rw [a2.2.1]; exact h.lay.r1_1000) (by rw [a2.2.2.1]; exact h.lay.n2) a3 (by omega)
    have w2 := a2.tr b2
    obtain ⟨T3, c1, c2, c3, c4, c5⟩ := x_app (n := n) (S := T2) x3 (by omega) (by rw [w2.2.1]; exact h.lay.r1_1000) (by rw [w2.2.2.1]; exact h.lay.n2) b3 (by omega)
    have w3 := w2.tr c2
    obtain ⟨T4, d1, d2, d3, d4, d5⟩ := x_app (n := n) (S := T3) x4 (by omega) (by rw [w3.2.1]; exact h.lay.r1_1000) (by rw [w3.2.2.1]; exact h.lay.n2) c3 (by omega)
    have w4 := w3.tr d2
    obtain ⟨T5, e1, e2, e3, e4, e5⟩ := x_app (n := n) (S := T4) x5 (by omega) (by rw [w4.2.1]; exact h.lay.r1_1000) (by rw [w4.2.2.1]; exact h.lay.n2) d3 (by omega)
    have w5 := w4.tr e2
    have hne := fun i (hi : i < 92) (hi2 : i ≠ 2) => h.lay.ne (i := i) (j := 2) hi (by decide) hi2
    have hne2 := fun i (hi : i < 92) (hi2 : i ≠ 62) => h.lay.ne (i := i) (j := 62) hi (by decide) hi2
    obtain ⟨U, u1, u2, u3, u4, u5⟩ := r_feed (n := n) (a := A 60) (c := A 62) (p := tp) (x1 := x1) (x2 := x2) (x3 := x3) (x4 := x4) (x5 := x5) hb 20 0 n (st0 T5 (A 60)) (by omega) (by omega) (by rw [show pR (st0 T5 (A 60)) = pR T5 from rfl, w5.2.1]; exact h.lay.r60_1209) (by rw [show pN (st0 T5 (A 60)) = pN T5 from rfl, w5.2.2.1]; exact h.lay.n62) (by
      show pI (sI T5 1200 (A 60) 0) 1202 (A 60) = _
      rw [pI_n (by decide), w5.2.2.2.2.1 _ _ (by decide), p3]
      rfl)
    have hX : ∀ i, i < 20 → pA T5 (A 2) (tp + i) = sgn8 (fb (fw x1 x2 x3 x4 x5) i) := by
      intro i hi
      unfold fb
      by_cases q1 : i < 4
      · rw [e4 _ (by omega), d4 _ (by omega), c4 _ (by omega), b4 _ (by omega), a5 i q1, show i / 4 = 0 by omega, show i % 4 = i by omega]
        rfl
      by_cases q2 : i < 8
      · rw [e4 _ (by omega), d4 _ (by omega), c4 _ (by omega), show tp + i = tp + 4 + (i - 4) by omega, b5 (i - 4) (by omega), show i / 4 = 1 by omega, show i % 4 = i - 4 by omega]
        rfl
      by_cases q3 : i < 12
      · rw [e4 _ (by omega), d4 _ (by omega), show tp + i = tp + 4 + 4 + (i - 8) by omega, c5 (i - 8) (by omega), show i / 4 = 2 by omega, show i % 4 = i - 8 by omega]
        rfl
      by_cases q4 : i < 16
      · rw [e4 _ (by omega), show tp + i = tp + 4 + 4 + 4 + (i - 12) by omega, d5 (i - 12) (by omega), show i / 4 = 3 by omega, show i % 4 = i - 12 by omega]
        rfl
      · rw [show tp + i = tp + 4 + 4 + 4 + 4 + (i - 16) by omega, e5 (i - 16) (by omega), show i / 4 = 4 by omega, show i % 4 = i - 16 by omega]
        rfl
    have k1 : KPT A S T5 := w5.kp (j := 2) (by decide) (by decide)
    have k2 : KPT A T5 (st0 T5 (A 60)) := (KPL.st0 (KPL.rf _ _ _ _ _)).kpt
    have k3 : KPT A (st0 T5 (A 60)) U := u2.kp (j := 62) (by decide) (by decide)
    have kF : ∀ f a, f ≠ 1001 → f ≠ 1200 → f ≠ 1202 → pI U f a = pI S f a := fun f a q1 q2 q3 => by
      rw [u2.2.2.2.2.1 f a q3]
      show pI (sI T5 1200 (A 60) 0) f a = _
      rw [pI_sI, if_neg (fun z => q2 z.1), w5.2.2.2.2.1 f a q1]
    have kA : ∀ a i, a ≠ A 2 → a ≠ A 62 → pA U a i = pA S a i := fun a i q1 q2 => by
      rw [u2.2.2.2.2.2 a i q2]
      show pA T5 a i = _
      rw [w5.2.2.2.2.2 a i q1]
    refine ⟨nI (tp + 20), T5, U, ?_, ?_, (h.kpt (h.tr k1 (k2.tr k3 ?_)) ?_).jj⟩
    · rw [hR, ob_mk, if_pos (hq ▸ hb), ob_mk, a1, ob_mk, a2.2.1, hR, ob_mk, b1, ob_mk, w2.2.1, hR, ob_mk, c1, ob_mk, w3.2.1, hR, ob_mk, d1, ob_mk, w4.2.1, hR, ob_mk, e1, ob_mk, w5.2.1, hR, ob_mk, e3]
    · rw [pI_n (by decide), w5.2.2.2.2.1 _ _ (by decide), p3, if_pos (by rw [← p2]; exact hq ▸ hb)]
      exact u1
    · intro r hr
      rw [w5.2.1] at hr
      have := (h.hi.2.2.2.2.1 r hr).1
      exact (w5.1 _ _ this).1
    · refine ⟨?_, ?_, ?_, ?_, tp + 20, by omega, ?_, u3, fun i hi => ?_⟩
      · rw [kF _ _ (by decide) (by decide) (by decide), kF _ _ (by decide) (by decide) (by decide), g1]
      · rw [kF _ _ (by decide) (by decide) (by decide), kA _ _ (hne 61 (by decide) (by decide)) (hne2 61 (by decide) (by decide)), g2]
      · rw [kF _ _ (by decide) (by decide) (by decide), kA _ _ (hne 61 (by decide) (by decide)) (hne2 61 (by decide) (by decide)), g3]
      · rw [kF _ _ (by decide) (by decide) (by decide), kF _ _ (by decide) (by decide) (by decide), g4]
      · rw [u2.2.2.2.2.1 _ _ (by decide)]
        show pI (sI T5 1200 (A 60) 0) 1001 (A 1) = _
        rw [pI_n (by decide), e3]
      · by_cases hi2 : i < tp
        · obtain ⟨b, hb1, hb2, hb3⟩ := p4 i hi2
          refine ⟨b, hb1, ?_, ?_⟩
          · rw [u4 i (by omega)]
            show pA T5 (A 62) i = _
            rw [w5.2.2.2.2.2 _ _ (hne 62 (by decide) (by decide)), hb2]
          · rw [u2.2.2.2.2.2 _ _ (hne2 2 (by decide) (by decide))]
            show pA T5 (A 2) i = _
            rw [e4 _ (by omega), d4 _ (by omega), c4 _ (by omega), b4 _ (by omega), a4 _ (by omega), hb3]
        · refine ⟨fb (fw x1 x2 x3 x4 x5) (i - tp), by8_le _, ?_, ?_⟩
          · have := u5 (i - tp) (by omega) (by omega)
            rwa [show tp + (i - tp) = i by omega] at this
          · rw [u2.2.2.2.2.2 _ _ (hne2 2 (by decide) (by decide))]
            have := hX (i - tp) (by omega)
            rwa [show tp + (i - tp) = i by omega] at this
  · refine ⟨-1, S, st0 S (A 60), ?_, ?_, h.st0.jj⟩
    · rw [hR, ob_mk, if_neg (hq ▸ hb)]
    · rw [pI_n (by decide), p3, if_neg (by rw [← p2]; exact hq ▸ hb)]
