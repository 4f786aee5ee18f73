/-! the reader: both sides over the same bytes -/
/-- nothing but the fields lo to hi has changed -/
def TT (lo hi : Nat) (S T : pq_S) : Prop := (pL T = pL S ∧ pK T = pK S ∧ pR T = pR S ∧ pN T = pN S ∧ pQ T = pQ S ∧ pA T = pA S) ∧ ∀ f a, ¬ (lo ≤ f ∧ f ≤ hi) → pI T f a = pI S f a
theorem TT.rf (lo hi : Nat) (S : pq_S) : TT lo hi S S := ⟨⟨rfl, rfl, rfl, rfl, rfl, rfl⟩, fun _ _ _ => rfl⟩
theorem TT.tr {lo hi : Nat} {S T U : pq_S} (h : TT lo hi S T) (k : TT lo hi T U) : TT lo hi S U := ⟨⟨k.1.1.trans h.1.1, k.1.2.1.trans h.1.2.1, k.1.2.2.1.trans h.1.2.2.1, k.1.2.2.2.1.trans h.1.2.2.2.1, k.1.2.2.2.2.1.trans h.1.2.2.2.2.1, k.1.2.2.2.2.2.trans h.1.2.2.2.2.2⟩, fun f a q => (k.2 f a q).trans (h.2 f a q)⟩
theorem TT.wI {lo hi : Nat} {S T : pq_S} (h : TT lo hi S T) {f a : Nat} {v : Int32} (h1 : lo ≤ f) (h2 : f ≤ hi) : TT lo hi S (sI T f a v) := ⟨h.1, fun f1 a1 q => by
  rw [pI_sI, if_neg (fun (z : f1 = f ∧ a1 = a) => q (by rw [z.1]; exact ⟨h1, h2⟩))]
  exact h.2 f1 a1 q⟩
/-- over blanks -/
def skF (b : Nat → Nat) : Nat → Nat → Nat
  | 0, p => p
  | k + 1, p => if b p = 32 then skF b k (p + 1) else p
def sk (b : Nat → Nat) (z p : Nat) : Nat := skF b (z - p) p
theorem skF_le (b : Nat → Nat) : ∀ k p, p ≤ skF b k p ∧ skF b k p ≤ p + k := by
  intro k
  induction k with
  | zero => intro p; exact ⟨Nat.le_refl _, Nat.le_refl _⟩
  | succ k ih =>
    intro p
    rw [skF]
    by_cases h : b p = 32
    · rw [if_pos h]; have := ih (p + 1); omega
    · rw [if_neg h]; omega
theorem skF_at (b : Nat → Nat) : ∀ k p, skF b k p < p + k → b (skF b k p) ≠ 32 := by
  intro k
  induction k with
  | zero => intro p h; exact absurd h (by rw [skF]; omega)
  | succ k ih =>
    intro p
    rw [skF]
    by_cases h : b p = 32
    · rw [if_pos h]; intro q; exact ih (p + 1) (by omega)
    · rw [if_neg h]; intro _; exact h
theorem sk_ge (b : Nat → Nat) (z p : Nat) : p ≤ sk b z p := (skF_le b _ _).1
theorem sk_le (b : Nat → Nat) {z p : Nat} (h : p ≤ z) : sk b z p ≤ z := by have := (skF_le b (z - p) p).2; unfold sk; omega
theorem sk_at (b : Nat → Nat) {z p : Nat} (h : sk b z p < z) : b (sk b z p) ≠ 32 := by
  by_cases hp : p ≤ z
  · exact skF_at b (z - p) p (by unfold sk at h; omega)
  · have := sk_ge b z p; omega
theorem sk_fix (b : Nat → Nat) {z p : Nat} (h : p < z → b p ≠ 32) : sk b z p = p := by
  unfold sk
  by_cases hp : p < z
  · obtain ⟨k, hk⟩ : ∃ k, z - p = k + 1 := ⟨z - p - 1, by omega⟩
    rw [hk, skF, if_neg (h hp)]
  · rw [show z - p = 0 by omega, skF]
theorem sk_sk (b : Nat → Nat) (z p : Nat) : sk b z (sk b z p) = sk b z p := sk_fix b fun h => sk_at b h
theorem sk_s {b : Nat → Nat} {z p : Nat} (h : p < z) (hb : b p = 32) : sk b z p = sk b z (p + 1) := by
  unfold sk
  obtain ⟨k, hk⟩ : ∃ k, z - p = k + 1 := ⟨z - p - 1, by omega⟩
  rw [hk, skF, if_pos hb, show z - (p + 1) = k by omega]
/-- the class's tape, and how the reading stands -/
def BX (A : Nat → Nat) (b : Nat → Nat) (z : Nat) (S : pq_S) : Prop := pR S 1000 (A 1) = some (A 2) ∧ pN S (A 2) = 600 ∧ pI S 1002 (A 1) = nI z ∧ z ≤ 600 ∧ ∀ i, i < z → b i ≤ 255 ∧ pA S (A 2) i = sgn8 (b i)
def BM (A : Nat → Nat) (b : Nat → Nat) (z : Nat) (S : pq_S) : Prop := pR S 1209 (A 60) = some (A 62) ∧ pN S (A 62) = 600 ∧ pI S 1203 (A 60) = nI z ∧ z ≤ 600 ∧ ∀ i, i < z → b i ≤ 255 ∧ pA S (A 62) i = nI (b i)
def XF (A : Nat → Nat) (b : Nat → Nat) (z : Nat) (S : pq_S) (p : Nat) : Prop := BX A b z S ∧ p ≤ z ∧ pI S 1003 (A 1) = nI p ∧ pI S 1005 (A 1) = 0
def XE (A : Nat → Nat) (b : Nat → Nat) (z : Nat) (S : pq_S) (k q : Nat) : Prop := BX A b z S ∧ (∃ p, p ≤ z ∧ pI S 1003 (A 1) = nI p) ∧ pI S 1005 (A 1) = nI k ∧ pI S 1006 (A 1) = nI q ∧ 1 ≤ k ∧ k ≤ 3 ∧ q ≤ 600
def MF (A : Nat → Nat) (b : Nat → Nat) (z : Nat) (S : pq_S) (p : Nat) : Prop := BM A b z S ∧ p ≤ z ∧ pI S 1204 (A 60) = nI p ∧ pI S 1205 (A 60) = -1
def ME (A : Nat → Nat) (b : Nat → Nat) (z : Nat) (S : pq_S) (k q : Nat) : Prop := BM A b z S ∧ (∃ p, p ≤ z ∧ pI S 1204 (A 60) = nI p) ∧ pI S 1206 (A 60) = nI k ∧ pI S 1205 (A 60) = nI q ∧ 1 ≤ k ∧ k ≤ 3 ∧ q ≤ 600
theorem BX.tt {A b : Nat → Nat} {z : Nat} {S T : pq_S} (h : BX A b z S) (k : TT 1003 1006 S T) : BX A b z T := by
  refine ⟨?_, ?_, ?_, h.2.2.2.1, fun i hi => ?_⟩
  · rw [k.1.2.2.1]; exact h.1
  · rw [k.1.2.2.2.1]; exact h.2.1
  · rw [k.2 _ _ (by decide)]; exact h.2.2.1
  · rw [k.1.2.2.2.2.2]; exact h.2.2.2.2 i hi
theorem BM.tt {A b : Nat → Nat} {z : Nat} {S T : pq_S} (h : BM A b z S) (k : TT 1204 1206 S T) : BM A b z T := by
  refine ⟨?_, ?_, ?_, h.2.2.2.1, fun i hi => ?_⟩
  · rw [k.1.2.2.1]; exact h.1
  · rw [k.1.2.2.2.1]; exact h.2.1
  · rw [k.2 _ _ (by decide)]; exact h.2.2.1
  · rw [k.1.2.2.2.2.2]; exact h.2.2.2.2 i hi
theorem sg8_and : ∀ b, b < 256 → sgn8 b &&& 255 = nI b := by decide +kernel
theorem sg8_32 : ∀ b, b < 256 → (sgn8 b = 32 ↔ b = 32) := by decide +kernel
section
variable {A b : Nat → Nat} {z n : Nat} {S T : pq_S}
theorem XF.mv {p q : Nat} (h : XF A b z S p) (hq : q ≤ z) : XF A b z (sI S 1003 (A 1) (nI q)) q := ⟨h.1.tt ((TT.rf _ _ _).wI (by decide) (by decide)), hq, pI_e .., by rw [pI_n (by decide)]; exact h.2.2.2⟩
theorem MF.mv {p q : Nat} (h : MF A b z S p) (hq : q ≤ z) : MF A b z (sI S 1204 (A 60) (nI q)) q := ⟨h.1.tt ((TT.rf _ _ _).wI (by decide) (by decide)), hq, pI_e .., by rw [pI_n (by decide)]; exact h.2.2.2⟩
theorem XE.mv {k q p : Nat} (h : XE A b z S k q) (hp : p ≤ z) : XE A b z (sI S 1003 (A 1) (nI p)) k q := ⟨h.1.tt ((TT.rf _ _ _).wI (by decide) (by decide)), ⟨p, hp, pI_e ..⟩, by rw [pI_n (by decide)]; exact h.2.2.1, by rw [pI_n (by decide)]; exact h.2.2.2.1, h.2.2.2.2⟩
theorem ME.mv {k q p : Nat} (h : ME A b z S k q) (hp : p ≤ z) : ME A b z (sI S 1204 (A 60) (nI p)) k q := ⟨h.1.tt ((TT.rf _ _ _).wI (by decide) (by decide)), ⟨p, hp, pI_e ..⟩, by rw [pI_n (by decide)]; exact h.2.2.1, by rw [pI_n (by decide)]; exact h.2.2.2.1, h.2.2.2.2⟩
/-- the class's next: the byte there -/
def xv8 (b : Nat → Nat) (z q : Nat) : Int32 := if q < z then nI (b q) else -1
def mv8 (b : Nat → Nat) (z q : Nat) : Int32 := if q < z then nI (b q) else 0
theorem sg8_and' {c : Nat} (h : c ≤ 255) : sgn8 c &&& nI 255 = nI c := sg8_and c (by omega)
theorem x_n50 {p : Nat} (h : XF A b z S p) : b_X10_next_50 n (A 1) S = some (xv8 b z p, S) := by
  obtain ⟨⟨h1, h2, h3, h4, h5⟩, h6, h7, h8⟩ := h
  unfold b_X10_next_50 xv8
  rw [if_pos h8]
  simp (disch := omega) only [h1, h2, h3, h7, ob_mk, cb_mk, lt_mk, ck_if, pR_sI, pN_sI, pA_sI, pQ_sI, pR_sA, pN_sA, pI_sA, pQ_sA, pR_sF, pN_sF, pI_sF, pQ_sF, ite_true, ite_false, if_true, if_false, not_true_eq_false, not_false_eq_true, LIT, ofN, nI_add, pk_mul, ixn, nI_clamp, nI_ltI, nI_leI, nI_eq, Nat.add_zero, Nat.zero_add, Nat.mul_zero, Nat.mul_one, Nat.reduceMul]
  by_cases hp : p < z
  · rw [if_neg (by omega), if_pos hp, if_neg (by omega), (h5 p hp).2, sg8_and' (h5 p hp).1]
  · rw [if_pos (by omega), if_neg hp]
theorem x_n50E {k q : Nat} (h : XE A b z S k q) : b_X10_next_50 n (A 1) S = some (-1, S) := by
  obtain ⟨_, _, h3, _, h5, h6, _⟩ := h
  unfold b_X10_next_50
  rw [if_neg (by rw [h3]; exact nI_ne0 (by omega) (by omega))]
/-- the loop over blanks -/
theorem x_n0 {R : Int32 × pq_S} : ∀ (m p f : Nat) (S : pq_S), z - p ≤ m → m < f → p ≤ z → BX A b z S → pI S 1003 (A 1) = nI p → b_X10_next_50 n (A 1) (if sk b z p = p then S else sI S 1003 (A 1) (nI (sk b z p))) = some R → b_X10_next_0 n f (A 1) S = some R := by
  intro m
  induction m with
  | zero =>
    intro p f S h1 h2 h3 h4 h5 h6
    obtain ⟨f, rfl⟩ : ∃ g, f = g + 1 := ⟨f - 1, by omega⟩
    have hp : p = z := by omega
    subst hp
    rw [if_pos (sk_fix b (fun q => by omega))] at h6
    rw [b_X10_next_0, h4.2.2.1, h5, if_pos (Int32.le_refl _)]
    exact h6
  | succ m ih =>
    intro p f S h1 h2 h3 h4 h5 h6
    obtain ⟨f, rfl⟩ : ∃ g, f = g + 1 := ⟨f - 1, by omega⟩
    rw [b_X10_next_0]
    by_cases hp : p = z
    · subst hp
      rw [if_pos (sk_fix b (fun q => by omega))] at h6
      rw [h4.2.2.1, h5, if_pos (Int32.le_refl _)]
      exact h6
    · have hb := h4.2.2.2.2 p (by omega)
      have hz := h4.2.2.2.1
      rw [h4.2.2.1, h5, if_neg (nI_ge (by omega) (by omega)), h4.1, ob_mk, h4.2.1, ofN, if_neg (nI_ge (b := 600) (by omega) (by omega)), ob_mk, h4.2.1, ck_pos (ix_nI (by omega) (by decide)), nI_clamp (by omega), hb.2]
      by_cases e : b p = 32
      · rw [if_pos ((sg8_32 _ (by omega)).mpr e)]
        have e1 := sk_s (b := b) (z := z) (p := p) (by omega) e
        have g1 := sk_ge b z (p + 1)
        refine ih (p + 1) f _ (by omega) (by omega) (by omega) (h4.tt ((TT.rf _ _ _).wI (by decide) (by decide))) (by rw [pI_e]; exact (nI_succ p).symm) ?_
        rw [if_neg (by omega)] at h6
        by_cases e2 : sk b z (p + 1) = p + 1
        · rw [if_pos e2]
          rw [e1, e2] at h6
          rw [← nI_succ]
          exact h6
        · rw [if_neg e2]
          rw [e1] at h6
          have : sI (sI S 1003 (A 1) (nI p + 1)) 1003 (A 1) (nI (sk b z (p + 1))) = sI S 1003 (A 1) (nI (sk b z (p + 1))) := by
            have : (fun f1 a1 => if f1 = 1003 ∧ a1 = A 1 then nI (sk b z (p + 1)) else pI (sI S 1003 (A 1) (nI p + 1)) f1 a1) = (fun f1 a1 => if f1 = 1003 ∧ a1 = A 1 then nI (sk b z (p + 1)) else pI S f1 a1) := by
              funext f1 a1
              by_cases q : f1 = 1003 ∧ a1 = A 1
              · rw [if_pos q, if_pos q]
              · rw [if_neg q, if_neg q, pI_sI, if_neg q]
            unfold sI
            unfold sI at this
            rw [this]
            rfl
          rw [this]
          exact h6
      · rw [if_neg (fun q => e ((sg8_32 _ (by omega)).mp q))]
        rw [if_pos (sk_fix b (fun _ => e))] at h6
        exact h6
theorem x_next {p : Nat} (h : XF A b z S p) (hn : 20000 ≤ n) : ∃ S', m_X10_next n (A 1) S = some (xv8 b z (sk b z p), S') ∧ TT 1003 1006 S S' ∧ XF A b z S' (sk b z p) := by
  have hz := h.1.2.2.2.1
  unfold m_X10_next
  by_cases e : sk b z p = p
  · exact ⟨S, x_n0 z p n S (by omega) (by omega) h.2.1 h.1 h.2.2.1 (by rw [if_pos e, x_n50 h, e]), TT.rf _ _ _, by rw [e]; exact h⟩
  · have h' := h.mv (sk_le b h.2.1)
    exact ⟨_, x_n0 z p n S (by omega) (by omega) h.2.1 h.1 h.2.2.1 (by rw [if_neg e, x_n50 h']), (TT.rf _ _ _).wI (by decide) (by decide), h'⟩
theorem x_nextE {k q : Nat} (h : XE A b z S k q) (hn : 20000 ≤ n) : ∃ S', m_X10_next n (A 1) S = some (-1, S') ∧ TT 1003 1006 S S' ∧ XE A b z S' k q := by
  have hz := h.1.2.2.2.1
  obtain ⟨p, hp, e1⟩ := h.2.1
  unfold m_X10_next
  by_cases e : sk b z p = p
  · exact ⟨S, x_n0 z p n S (by omega) (by omega) hp h.1 e1 (by rw [if_pos e, x_n50E h]), TT.rf _ _ _, h⟩
  · have h' := h.mv (sk_le b hp)
    exact ⟨_, x_n0 z p n S (by omega) (by omega) hp h.1 e1 (by rw [if_neg e, x_n50E h']), (TT.rf _ _ _).wI (by decide) (by decide), h'⟩
theorem r_h38 {p : Nat} (h : BM A b z S) (hp : p ≤ z) (e : pI S 1204 (A 60) = nI p) : b_X12_here_38 n (A 60) S = some (mv8 b z p, S) := by
  obtain ⟨h1, h2, h3, h4, h5⟩ := h
  unfold b_X12_here_38 mv8
  simp (disch := omega) only [h1, h2, h3, e, ob_mk, cb_mk, lt_mk, ck_if, pR_sI, pN_sI, pA_sI, pQ_sI, pR_sA, pN_sA, pI_sA, pQ_sA, pR_sF, pN_sF, pI_sF, pQ_sF, ite_true, ite_false, if_true, if_false, not_true_eq_false, not_false_eq_true, nI_leI, nI_clamp]
  by_cases hp : p < z
  · rw [if_neg (by omega), if_pos hp, e, h2, if_pos (ix_nI (by omega) (by decide)), (h5 p hp).2]
  · rw [if_pos (by omega), if_neg hp]
theorem r_h0 : ∀ (m p f : Nat) (S : pq_S), z - p ≤ m → m < f → p ≤ z → BM A b z S → pI S 1204 (A 60) = nI p → ∃ S', b_X12_here_0 n f (A 60) S = some (mv8 b z (sk b z p), S') ∧ TT 1204 1204 S S' ∧ pI S' 1204 (A 60) = nI (sk b z p) := by
  intro m
  induction m with
  | zero =>
    intro p f S h1 h2 h3 h4 h5
    obtain ⟨f, rfl⟩ : ∃ g, f = g + 1 := ⟨f - 1, by omega⟩
    have hp : p = z := by omega
    subst hp
    have e := sk_fix b (z := p) (p := p) (fun q => by omega)
    rw [b_X12_here_0, h4.2.2.1, h5, if_pos (Int32.le_refl _), e]
    exact ⟨S, r_h38 h4 (Nat.le_refl _) h5, TT.rf _ _ _, h5⟩
  | succ m ih =>
    intro p f S h1 h2 h3 h4 h5
    obtain ⟨f, rfl⟩ : ∃ g, f = g + 1 := ⟨f - 1, by omega⟩
    rw [b_X12_here_0]
    by_cases hp : p = z
    · subst hp
      have e := sk_fix b (z := p) (p := p) (fun q => by omega)
      rw [h4.2.2.1, h5, if_pos (Int32.le_refl _), e]
      exact ⟨S, r_h38 h4 (Nat.le_refl _) h5, TT.rf _ _ _, h5⟩
    · have hb := h4.2.2.2.2 p (by omega)
      have hz := h4.2.2.2.1
      rw [h4.2.2.1, h5, if_neg (nI_ge (by omega) (by omega)), h4.1, ob_mk, h4.2.1, ck_pos (ix_nI (by omega) (by decide)), nI_clamp (by omega), hb.2]
      by_cases e : b p = 32
      · rw [if_pos (by rw [e]; rfl), sk_s (by omega) e]
        obtain ⟨S', t1, t2, t3⟩ := ih (p + 1) f (sI S 1204 (A 60) (nI p + 1)) (by omega) (by omega) (by omega) (h4.tt ((TT.rf _ _ _).wI (by decide) (by decide))) (by rw [pI_e]; exact (nI_succ p).symm)
        exact ⟨S', t1, ((TT.rf _ _ _).wI (by decide) (by decide)).tr t2, t3⟩
      · rw [if_neg (show ¬ nI (b p) = 32 from fun q => e ((nI_eq (b := 32) (by omega) (by decide)).mp q)), sk_fix b (fun _ => e)]
        exact ⟨S, r_h38 h4 h3 h5, TT.rf _ _ _, h5⟩
theorem TT.up {lo hi lo2 hi2 : Nat} {S T : pq_S} (h : TT lo hi S T) (h1 : lo2 ≤ lo) (h2 : hi ≤ hi2) : TT lo2 hi2 S T := ⟨h.1, fun f a q => h.2 f a (fun z => q (by omega))⟩
theorem r_here {p : Nat} (h : MF A b z S p) (hn : 20000 ≤ n) : ∃ S', m_X12_here n (A 60) S = some (mv8 b z (sk b z p), S') ∧ TT 1204 1206 S S' ∧ MF A b z S' (sk b z p) := by
  have hz := h.1.2.2.2.1
  obtain ⟨S', t1, t2, t3⟩ := r_h0 (n := n) z p n S (by omega) (by omega) h.2.1 h.1 h.2.2.1
  exact ⟨S', t1, t2.up (by decide) (by decide), h.1.tt (t2.up (by decide) (by decide)), sk_le b h.2.1, t3, by rw [t2.2 _ _ (by decide)]; exact h.2.2.2⟩
theorem r_hereE {k q : Nat} (h : ME A b z S k q) (hn : 20000 ≤ n) : ∃ v S', m_X12_here n (A 60) S = some (v, S') ∧ TT 1204 1206 S S' ∧ ME A b z S' k q := by
  have hz := h.1.2.2.2.1
  obtain ⟨p, hp, e1⟩ := h.2.1
  obtain ⟨S', t1, t2, t3⟩ := r_h0 (n := n) z p n S (by omega) (by omega) hp h.1 e1
  exact ⟨_, S', t1, t2.up (by decide) (by decide), h.1.tt (t2.up (by decide) (by decide)), ⟨_, sk_le b hp, t3⟩, by rw [t2.2 _ _ (by decide)]; exact h.2.2.1, by rw [t2.2 _ _ (by decide)]; exact h.2.2.2.1, h.2.2.2.2⟩
/-! faults -/
theorem x_ref {p k q : Nat} (h : XF A b z S p) (hk : 1 ≤ k ∧ k ≤ 3) (hq : q ≤ 600) : ∃ S', m_X10_refuse n (A 1) (nI k) (nI q) S = some S' ∧ TT 1003 1006 S S' ∧ XE A b z S' k q := by
  unfold m_X10_refuse
  rw [if_pos h.2.2.2]
  refine ⟨_, rfl, ((TT.rf _ _ _).wI (by decide) (by decide)).wI (by decide) (by decide), ?_⟩
  exact ⟨h.1.tt (((TT.rf _ _ _).wI (by decide) (by decide)).wI (by decide) (by decide)), ⟨p, h.2.1, by rw [pI_n (by decide), pI_n (by decide)]; exact h.2.2.1⟩, by rw [pI_n (by decide), pI_e], by rw [pI_e], hk.1, hk.2, hq⟩
theorem x_refE {k q : Nat} (h : XE A b z S k q) (x y : Int32) : m_X10_refuse n (A 1) x y S = some S := by
  unfold m_X10_refuse
  rw [if_neg (by rw [h.2.2.1]; exact nI_ne0 (by have := h.2.2.2.2; omega) (by have := h.2.2.2.2; omega))]
theorem r_wr {p k q : Nat} (h : MF A b z S p) (hk : 1 ≤ k ∧ k ≤ 3) (hq : q ≤ 600) : ∃ S', m_X12_wrong n (A 60) (nI k) (nI q) S = some S' ∧ TT 1204 1206 S S' ∧ ME A b z S' k q := by
  unfold m_X12_wrong
  rw [if_pos h.2.2.2]
  refine ⟨_, rfl, ((TT.rf _ _ _).wI (by decide) (by decide)).wI (by decide) (by decide), ?_⟩
  exact ⟨h.1.tt (((TT.rf _ _ _).wI (by decide) (by decide)).wI (by decide) (by decide)), ⟨p, h.2.1, by rw [pI_n (by decide), pI_n (by decide)]; exact h.2.2.1⟩, by rw [pI_e], by rw [pI_n (by decide), pI_e], hk.1, hk.2, hq⟩
theorem r_wrE {k q : Nat} (h : ME A b z S k q) (x y : Int32) : m_X12_wrong n (A 60) x y S = some S := by
  unfold m_X12_wrong
  rw [if_neg (by rw [h.2.2.2.1]; exact nI_nm1 (by have := h.2.2.2.2; omega))]
theorem r_fine {p : Nat} (h : MF A b z S p) : m_X12_fine n (A 60) S = some (1, S) := by unfold m_X12_fine; rw [if_pos h.2.2.2]
theorem r_fineE {k q : Nat} (h : ME A b z S k q) : m_X12_fine n (A 60) S = some (0, S) := by unfold m_X12_fine; rw [if_neg (by rw [h.2.2.2.1]; exact nI_nm1 (by have := h.2.2.2.2; omega))]
theorem x_well {p : Nat} (h : XF A b z S p) : m_X10_isWell n (A 1) S = some (1, S) := by unfold m_X10_isWell; rw [if_pos h.2.2.2]
theorem x_wellE {k q : Nat} (h : XE A b z S k q) : m_X10_isWell n (A 1) S = some (0, S) := by unfold m_X10_isWell; rw [if_neg (by rw [h.2.2.1]; exact nI_ne0 (by have := h.2.2.2.2; omega) (by have := h.2.2.2.2; omega))]
theorem xv8_eq {c q : Nat} (hb : q < z → b q ≤ 255) (hc : c ≤ 255) : xv8 b z q = nI c ↔ q < z ∧ b q = c := by
  unfold xv8
  by_cases h : q < z
  · have := hb h
    rw [if_pos h, nI_eq (by omega) (by omega)]
    exact ⟨fun e => ⟨h, e⟩, fun e => e.2⟩
  · rw [if_neg h]
    exact ⟨fun e => absurd e.symm (nI_nm1 (by omega)), fun e => absurd e.1 h⟩
theorem mv8_eq {c q : Nat} (hb : q < z → b q ≤ 255) (hc : 1 ≤ c ∧ c ≤ 255) : mv8 b z q = nI c ↔ q < z ∧ b q = c := by
  unfold mv8
  by_cases h : q < z
  · have := hb h
    rw [if_pos h, nI_eq (by omega) (by omega)]
    exact ⟨fun e => ⟨h, e⟩, fun e => e.2⟩
  · rw [if_neg h]
    exact ⟨fun e => absurd e.symm (nI_ne0 (by omega) (by omega)), fun e => absurd e.1 h⟩
end
