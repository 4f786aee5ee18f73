/-! nights: what fits, as a search and as a least of orders -/
def up1 (t : Nat → Nat) (w x : Nat) : Nat → Nat := fun i => if i = w then t i + x else t i
/-- the things k, k + 1, .. (v of them) fit into K nights of D hours over what t has taken -/
def FB (h : Nat → Nat) (D K : Nat) : Nat → Nat → (Nat → Nat) → Prop
  | 0, _, _ => True
  | v + 1, k, t => ∃ w, w < K ∧ t w + h k ≤ D ∧ FB h D K v (k + 1) (up1 t w (h k))
/-- the hours that f puts on night w of the things in s, the first v of them, from thing k on -/
def ld (h : Nat → Nat) (k : Nat) (f : Nat → Nat) (w s : Nat) : Nat → Nat
  | 0 => 0
  | v + 1 => ld h k f w s v + if s.testBit v = true ∧ f v = w then h (k + v) else 0
section
variable {h : Nat → Nat} {D K : Nat}
theorem ld_cg {k w s s' : Nat} {f f' : Nat → Nat} : ∀ v, (∀ i, i < v → s.testBit i = s'.testBit i ∧ (s.testBit i = true → (f i = w ↔ f' i = w))) → ld h k f w s v = ld h k f' w s' v := by
  intro v
  induction v with
  | zero => intro _; rfl
  | succ v ih =>
    intro hq
    obtain ⟨a, c⟩ := hq v (by omega)
    unfold ld
    rw [ih (fun i hi => hq i (by omega)), ← a]
    by_cases e : s.testBit v = true
    · by_cases e2 : f v = w
      · rw [if_pos ⟨e, e2⟩, if_pos ⟨e, (c e).mp e2⟩]
      · rw [if_neg (fun z => e2 z.2), if_neg (fun z => e2 ((c e).mpr z.2))]
    · rw [if_neg (fun z => e z.1), if_neg (fun z => e z.1)]
/-- one thing taken out of the set -/
theorem ld_one {k w s s' i : Nat} {f : Nat → Nat} (h1 : s.testBit i = true) (h2 : s'.testBit i = false) (h3 : ∀ j, j ≠ i → s'.testBit j = s.testBit j) : ∀ v, i < v → ld h k f w s v = ld h k f w s' v + if f i = w then h (k + i) else 0 := by
  intro v
  induction v with
  | zero => intro hv; omega
  | succ v ih =>
    intro hv
    unfold ld
    by_cases e : i = v
    · subst e
      rw [ld_cg (s := s) (s' := s') (f := f) (f' := f) i (fun j hj => ⟨(h3 j (by omega)).symm, fun _ => Iff.rfl⟩), h1, h2]
      simp
    · rw [ih (by omega), h3 v (by omega)]
      omega
theorem ld_le {k w s : Nat} {f : Nat → Nat} : ∀ v, ld h k f w s v ≤ ld h k f w (2 ^ v - 1) v := by
  intro v
  have : ∀ u, u ≤ v → ld h k f w s u ≤ ld h k f w (2 ^ v - 1) u := by
    intro u
    induction u with
    | zero => intro _; exact Nat.le_refl _
    | succ u ih =>
      intro hu
      have := ih (by omega)
      unfold ld
      rw [Nat.testBit_two_pow_sub_one]
      by_cases e : f u = w
      · rw [if_pos (show decide (u < v) = true ∧ f u = w from ⟨by simp; omega, e⟩)]
        by_cases e2 : s.testBit u = true
        · rw [if_pos ⟨e2, e⟩]; omega
        · rw [if_neg (fun z => e2 z.1)]; omega
      · rw [if_neg (fun z => e z.2), if_neg (fun z => e z.2)]; omega
  exact this v (Nat.le_refl _)
theorem ld_sh {k w s : Nat} {f : Nat → Nat} : ∀ v, ld h k f w (2 ^ (v + 1) - 1) (v + 1) = (if f 0 = w then h k else 0) + ld h (k + 1) (fun i => f (i + 1)) w (2 ^ v - 1) v := by
  have gen : ∀ N u, u ≤ N → ld h k f w (2 ^ (N + 1) - 1) (u + 1) = (if f 0 = w then h k else 0) + ld h (k + 1) (fun i => f (i + 1)) w (2 ^ N - 1) u := by
    intro N u
    induction u with
    | zero =>
      intro _
      simp [ld, Nat.testBit_two_pow_sub_one]
    | succ u ih =>
      intro hu
      have := ih (by omega)
      rw [ld, this, ld, Nat.testBit_two_pow_sub_one, Nat.testBit_two_pow_sub_one]
      rw [show decide (u + 1 < N + 1) = true by simp; omega, show decide (u < N) = true by simp; omega, show k + (u + 1) = k + 1 + u by omega]
      omega
  exact fun v => gen v v (Nat.le_refl _)
/-- where the next thing goes, before = night * 32 + hours -/
def ptn (t : Nat → Nat) (D x : Nat) : Nat → Nat → Nat
  | 0, _ => 1024
  | c + 1, w => if t w + x ≤ D then w * 32 + t w + x else ptn t D x c (w + 1)
def ptI (t : Nat → Nat) (D K v x : Nat) : Nat := if v < 1024 then (if v % 32 + x ≤ D then v + x else ptn t D x (K - (v / 32 + 1)) (v / 32 + 1)) else 1024
theorem ptn_ok {t : Nat → Nat} {x : Nat} : ∀ c w, (∃ u, w ≤ u ∧ u < w + c ∧ t u + x ≤ D ∧ ptn t D x c w = u * 32 + t u + x ∧ ∀ y, w ≤ y → y < u → ¬ t y + x ≤ D) ∨ (ptn t D x c w = 1024 ∧ ∀ y, w ≤ y → y < w + c → ¬ t y + x ≤ D) := by
  intro c
  induction c with
  | zero => intro w; exact Or.inr ⟨rfl, fun y h1 h2 => by omega⟩
  | succ c ih =>
    intro w
    unfold ptn
    by_cases e : t w + x ≤ D
    · rw [if_pos e]
      exact Or.inl ⟨w, Nat.le_refl _, by omega, e, rfl, fun y h1 h2 => by omega⟩
    · rw [if_neg e]
      rcases ih (w + 1) with ⟨u, h1, h2, h3, h4, h5⟩ | ⟨h1, h2⟩
      · refine Or.inl ⟨u, by omega, by omega, h3, h4, fun y q1 q2 => ?_⟩
        by_cases z : y = w
        · rw [z]; exact e
        · exact h5 y (by omega) q2
      · refine Or.inr ⟨h1, fun y q1 q2 => ?_⟩
        by_cases z : y = w
        · rw [z]; exact e
        · exact h2 y (by omega) (by omega)
/-- a least row over sets: what it must be -/
def RCH (h : Nat → Nat) (t : Nat → Nat) (D K k v : Nat) (R : Nat → Nat) : Prop := R 0 = t 0 ∧ ∀ s, 0 < s → s < 2 ^ v → (∀ i, i < v → s.testBit i = true → R s ≤ ptI t D K (R (s - 2 ^ i)) (h (k + i))) ∧ (R s = 1024 ∨ ∃ i, i < v ∧ s.testBit i = true ∧ R s = ptI t D K (R (s - 2 ^ i)) (h (k + i)))
theorem bit_out {s i : Nat} (hb : s.testBit i = true) : 2 ^ i ≤ s ∧ (s - 2 ^ i).testBit i = false ∧ ∀ j, j ≠ i → (s - 2 ^ i).testBit j = s.testBit j := by
  have h1 : 2 ^ i ≤ s := Nat.ge_two_pow_of_testBit hb
  obtain ⟨x, rfl⟩ : ∃ x, s = 2 ^ i + x := ⟨s - 2 ^ i, by omega⟩
  have hp : 0 < 2 ^ i := Nat.two_pow_pos i
  rw [show 2 ^ i + x - 2 ^ i = x by omega]
  have h2 : x.testBit i = false := by
    rw [Nat.testBit_two_pow_add_eq] at hb
    revert hb
    cases x.testBit i <;> simp
  refine ⟨h1, h2, fun j hj => ?_⟩
  rcases Nat.lt_or_ge j i with c | c
  · exact (Nat.testBit_two_pow_add_gt c x).symm
  · obtain ⟨d, rfl⟩ : ∃ d, j = d + (i + 1) := ⟨j - (i + 1), by omega⟩
    rw [← Nat.testBit_div_two_pow, ← Nat.testBit_div_two_pow, Nat.pow_succ, ← Nat.div_div_eq_div_mul, ← Nat.div_div_eq_div_mul, Nat.add_div_left _ hp]
    rw [Nat.testBit_eq_decide_div_mod_eq] at h2
    have h3 := of_decide_eq_false h2
    rw [show (x / 2 ^ i + 1) / 2 = x / 2 ^ i / 2 by omega]
/-- a row of least values keeps under what a way f gives -/
theorem rch_le {t R f : Nat → Nat} {k v : Nat} (hD : D ≤ 24) (hK : K ≤ 12) (hR : RCH h t D K k v R) (ht : ∀ w, w < K → t w ≤ D) (hf : ∀ w, w < K → t w + ld h k f w (2 ^ v - 1) v ≤ D) : ∀ c s w, s + w ≤ c → s < 2 ^ v → w < K → (∀ i, i < v → s.testBit i = true → f i ≤ w) → R s ≤ w * 32 + t w + ld h k f w s v := by
  intro c
  induction c with
  | zero =>
    intro s w hc hs hw _
    obtain rfl : s = 0 := by omega
    obtain rfl : w = 0 := by omega
    rw [hR.1]; omega
  | succ c ih =>
    intro s w hc hs hw hall
    by_cases e0 : s = 0
    · subst e0
      rw [hR.1]
      by_cases ew : w = 0
      · subst ew; omega
      · have := ht 0 (by omega); omega
    have hlw := fun x hx => Nat.le_trans (Nat.add_le_add_left (ld_le (h := h) (k := k) (w := x) (s := s) (f := f) v) (t x)) (hf x hx)
    by_cases ex : ∃ i, i < v ∧ s.testBit i = true ∧ f i = w
    · obtain ⟨i, hi, hb, hfi⟩ := ex
      obtain ⟨g1, g2, g3⟩ := bit_out hb
      have hp : 0 < 2 ^ i := Nat.two_pow_pos i
      have hl := ld_one (h := h) (k := k) (w := w) (f := f) hb g2 g3 v hi
      rw [if_pos hfi] at hl
      have hs' := ih (s - 2 ^ i) w (by omega) (by omega) hw (fun j hj hbj => by
        by_cases ej : j = i
        · subst ej; rw [g2] at hbj; cases hbj
        · exact hall j hj (by rw [← g3 j ej]; exact hbj))
      have hle := ((hR.2 s (by omega) hs).1 i hi hb)
      have hlim := hlw w hw
      refine Nat.le_trans hle ?_
      rw [hl]
      rw [hl] at hlim
      generalize ld h k f w (s - 2 ^ i) v = L at *
      generalize R (s - 2 ^ i) = r at *
      generalize h (k + i) = x at *
      unfold ptI
      rw [if_pos (by omega)]
      by_cases e1 : r % 32 + x ≤ D
      · rw [if_pos e1]; omega
      · rw [if_neg e1]
        have hrw : r / 32 < w := by
          rcases Nat.lt_or_ge (r / 32) w with q | q
          · exact q
          · exfalso; omega
        rcases ptn_ok (D := D) (t := t) (x := x) (K - (r / 32 + 1)) (r / 32 + 1) with ⟨u, u1, u2, u3, u4, u5⟩ | ⟨_, u2⟩
        · rw [u4]
          rcases Nat.lt_trichotomy u w with q | q | q
          · omega
          · subst q; omega
          · exact absurd (show t w + x ≤ D by omega) (u5 w (by omega) q)
        · exact absurd (show t w + x ≤ D by omega) (u2 w (by omega) (by omega))
    · have hlow : ∀ i, i < v → s.testBit i = true → f i < w := fun i hi hb => by
        have := hall i hi hb
        rcases Nat.lt_or_ge (f i) w with q | q
        · exact q
        · exact absurd ⟨i, hi, hb, by omega⟩ ex
      have hw0 : 0 < w := by
        obtain ⟨i, _, hi⟩ := Nat.exists_ge_and_testBit_of_ge_two_pow (n := 0) (x := s) (by omega)
        have hiv : i < v := by
          rcases Nat.lt_or_ge i v with q | q
          · exact q
          · rw [Nat.testBit_lt_two_pow (Nat.lt_of_lt_of_le hs (Nat.pow_le_pow_right (by decide) q))] at hi; cases hi
        have := hlow i hiv hi
        omega
      have := ih s (w - 1) (by omega) hs (by omega) (fun i hi hb => by have := hlow i hi hb; omega)
      have h2 := hlw (w - 1) (by omega)
      omega
/-- and is a way itself -/
theorem rch_way {t R : Nat → Nat} {k v : Nat} (hD : D ≤ 24) (hK : K ≤ 12) (hK0 : 0 < K) (hR : RCH h t D K k v R) (ht : ∀ w, w < K → t w ≤ D) : ∀ c s, s ≤ c → s < 2 ^ v → R s < 1024 → ∃ f : Nat → Nat, (∀ i, f i ≤ R s / 32) ∧ R s / 32 < K ∧ (∀ w, w < K → t w + ld h k f w s v ≤ D) ∧ t (R s / 32) + ld h k f (R s / 32) s v = R s % 32 := by
  have z0 : ∀ f w, ld h k f w 0 v = 0 := by
    intro f w
    clear hR
    induction v with
    | zero => rfl
    | succ v ih => unfold ld; rw [ih]; simp
  intro c
  induction c with
  | zero =>
    intro s hc hs hr
    obtain rfl : s = 0 := by omega
    have h0 := ht 0 hK0
    rw [hR.1]
    refine ⟨fun _ => 0, fun _ => Nat.zero_le _, ?_, fun w hw => ?_, ?_⟩
    · rw [Nat.div_eq_of_lt (by omega)]; exact hK0
    · rw [z0]; exact ht w hw
    · rw [Nat.div_eq_of_lt (by omega), z0]; omega
  | succ c ih =>
    intro s hc hs hr
    by_cases e0 : s = 0
    · exact ih s (by omega) hs hr
    rcases (hR.2 s (by omega) hs).2 with q | ⟨i, hi, hb, q⟩
    · omega
    obtain ⟨g1, g2, g3⟩ := bit_out hb
    have hp : 0 < 2 ^ i := Nat.two_pow_pos i
    have hr' : R (s - 2 ^ i) < 1024 := by
      rcases Nat.lt_or_ge (R (s - 2 ^ i)) 1024 with z | z
      · exact z
      · unfold ptI at q; rw [if_neg (by omega)] at q; omega
    obtain ⟨f, f1, f2, f3, f4⟩ := ih (s - 2 ^ i) (by omega) (by omega) hr'
    -- the thing i goes to night u
    have put : ∀ u, (∀ w, ld h k (fun j => if j = i then u else f j) w s v = ld h k f w (s - 2 ^ i) v + if w = u then h (k + i) else 0) := by
      intro u w
      rw [ld_one (h := h) (k := k) (w := w) (f := fun j => if j = i then u else f j) hb g2 g3 v hi, ld_cg (s := s - 2 ^ i) (s' := s - 2 ^ i) (f := fun j => if j = i then u else f j) (f' := f) v (fun j _ => ⟨rfl, fun hj => by
        by_cases ej : j = i
        · subst ej; rw [g2] at hj; cases hj
        · simp [ej]⟩)]
      by_cases e : w = u
      · simp [e]
      · simp [e]
        intro z
        exact absurd z.symm e
    unfold ptI at q
    rw [if_pos hr'] at q
    by_cases e1 : R (s - 2 ^ i) % 32 + h (k + i) ≤ D
    · rw [if_pos e1] at q
      have d1 : R s / 32 = R (s - 2 ^ i) / 32 := by omega
      have d2 : R s % 32 = R (s - 2 ^ i) % 32 + h (k + i) := by omega
      refine ⟨fun j => if j = i then R (s - 2 ^ i) / 32 else f j, fun j => ?_, by omega, fun w hw => ?_, ?_⟩
      · rw [d1]
        show (if j = i then R (s - 2 ^ i) / 32 else f j) ≤ _
        by_cases ej : j = i
        · rw [if_pos ej]; exact Nat.le_refl _
        · rw [if_neg ej]; exact f1 j
      · rw [put]
        by_cases e : w = R (s - 2 ^ i) / 32
        · rw [if_pos e, e]; omega
        · rw [if_neg e]; exact f3 w hw
      · rw [put, d1, if_pos rfl]; omega
    · rw [if_neg e1] at q
      rcases ptn_ok (D := D) (t := t) (x := h (k + i)) (K - (R (s - 2 ^ i) / 32 + 1)) (R (s - 2 ^ i) / 32 + 1) with ⟨u, u1, u2, u3, u4, _⟩ | ⟨u1, _⟩
      · rw [u4] at q
        have hz : ld h k f u (s - 2 ^ i) v = 0 := by
          have : ∀ N, ld h k f u (s - 2 ^ i) N = 0 := by
            intro N
            induction N with
            | zero => rfl
            | succ N ihN =>
              unfold ld
              rw [ihN, if_neg (fun z => by have := f1 N; omega)]
          exact this v
        have d1 : R s / 32 = u := by omega
        have d2 : R s % 32 = t u + h (k + i) := by omega
        refine ⟨fun j => if j = i then u else f j, fun j => ?_, by omega, fun w hw => ?_, ?_⟩
        · rw [d1]
          show (if j = i then u else f j) ≤ _
          by_cases ej : j = i
          · rw [if_pos ej]; exact Nat.le_refl _
          · rw [if_neg ej]; have := f1 j; omega
        · rw [put]
          by_cases e : w = u
          · rw [if_pos e, e, hz]; omega
          · rw [if_neg e]; exact f3 w hw
        · rw [put, d1, if_pos rfl, hz]; omega
      · omega
/-- the search finds a way if there is one -/
theorem fb_iff : ∀ v k t, (∀ w, w < K → t w ≤ D) → (FB h D K v k t ↔ ∃ f : Nat → Nat, (∀ i, i < v → f i < K) ∧ ∀ w, w < K → t w + ld h k f w (2 ^ v - 1) v ≤ D) := by
  intro v
  induction v with
  | zero =>
    intro k t ht
    exact ⟨fun _ => ⟨fun _ => 0, fun i hi => by omega, fun w hw => by simp [ld]; exact ht w hw⟩, fun _ => trivial⟩
  | succ v ih =>
    intro k t ht
    constructor
    · rintro ⟨w, hw, hd, hf⟩
      have ht' : ∀ x, x < K → up1 t w (h k) x ≤ D := fun x hx => by
        unfold up1
        by_cases e : x = w
        · subst e; rw [if_pos rfl]; exact hd
        · rw [if_neg e]; exact ht x hx
      obtain ⟨f, f1, f2⟩ := (ih (k + 1) (up1 t w (h k)) ht').mp hf
      refine ⟨fun i => if i = 0 then w else f (i - 1), fun i hi => ?_, fun x hx => ?_⟩
      · by_cases e : i = 0
        · simp [e]; exact hw
        · simp [e]; exact f1 _ (by omega)
      · have ef : (fun i => (fun i => if i = 0 then w else f (i - 1)) (i + 1)) = f := by funext i; simp
        rw [ld_sh (s := 0), ef]
        have := f2 x hx
        show t x + ((if (if 0 = 0 then w else f (0 - 1)) = x then h k else 0) + _) ≤ D
        rw [if_pos (show (0 : Nat) = 0 from rfl)]
        unfold up1 at this
        by_cases e : x = w
        · rw [if_pos e] at this; rw [if_pos e.symm]; omega
        · rw [if_neg e] at this; rw [if_neg (fun z => e z.symm)]; omega
    · rintro ⟨f, f1, f2⟩
      have key : ∀ x, x < K → t x + (if f 0 = x then h k else 0) + ld h (k + 1) (fun i => f (i + 1)) x (2 ^ v - 1) v ≤ D := fun x hx => by
        have := f2 x hx
        rw [ld_sh (s := 0)] at this
        omega
      have h0 := f1 0 (by omega)
      refine ⟨f 0, h0, ?_, ?_⟩
      · have := key (f 0) h0
        rw [if_pos rfl] at this
        omega
      · refine (ih (k + 1) (up1 t (f 0) (h k)) (fun x hx => ?_)).mpr ⟨fun i => f (i + 1), fun i hi => f1 _ (by omega), fun x hx => ?_⟩
        · have := key x hx
          unfold up1
          by_cases e : x = f 0
          · rw [if_pos e]; rw [if_pos e.symm] at this; omega
          · rw [if_neg e]; omega
        · have := key x hx
          unfold up1
          by_cases e : x = f 0
          · rw [if_pos e]; rw [if_pos e.symm] at this; omega
          · rw [if_neg e]; rw [if_neg (fun z => e z.symm)] at this; omega
/-- the last set's value says whether the rest fits, and into how many nights -/
theorem rch_fb {t R : Nat → Nat} {k v : Nat} (hD : D ≤ 24) (hK : K ≤ 12) (hK0 : 0 < K) (hR : RCH h t D K k v R) (ht : ∀ w, w < K → t w ≤ D) : R (2 ^ v - 1) < 1024 ↔ FB h D K v k t := by
  have hp : 0 < 2 ^ v := Nat.two_pow_pos v
  rw [fb_iff v k t ht]
  constructor
  · intro hr
    obtain ⟨f, f1, f2, f3, _⟩ := rch_way hD hK hK0 hR ht (2 ^ v - 1) (2 ^ v - 1) (Nat.le_refl _) (by omega) hr
    exact ⟨f, fun i _ => Nat.lt_of_le_of_lt (f1 i) f2, f3⟩
  · rintro ⟨f, f1, f2⟩
    have := rch_le hD hK hR ht f2 (2 ^ v - 1 + (K - 1)) (2 ^ v - 1) (K - 1) (Nat.le_refl _) (by omega) (by omega) (fun i hi _ => by have := f1 i hi; omega)
    have h2 := f2 (K - 1) (by omega)
    omega
theorem rch_min {R : Nat → Nat} {v : Nat} (hD : D ≤ 24) (hK : K ≤ 12) (hK0 : 0 < K) (hR : RCH h (fun _ => 0) D K 0 v R) (hr : R (2 ^ v - 1) < 1024) : FB h D (R (2 ^ v - 1) / 32 + 1) v 0 (fun _ => 0) ∧ R (2 ^ v - 1) / 32 + 1 ≤ K ∧ ∀ M, M ≤ K → FB h D M v 0 (fun _ => 0) → M ≠ 0 → R (2 ^ v - 1) / 32 + 1 ≤ M := by
  have hp : 0 < 2 ^ v := Nat.two_pow_pos v
  have ht : ∀ w, w < K → (fun _ : Nat => 0) w ≤ D := fun _ _ => Nat.zero_le _
  obtain ⟨f, f1, f2, f3, _⟩ := rch_way hD hK hK0 hR ht (2 ^ v - 1) (2 ^ v - 1) (Nat.le_refl _) (by omega) hr
  refine ⟨(fb_iff v 0 _ (fun _ _ => Nat.zero_le _)).mpr ⟨f, fun i _ => by have := f1 i; omega, fun w hw => f3 w (by omega)⟩, f2, fun M hM hF h0 => ?_⟩
  obtain ⟨f, g1, g2⟩ := (fb_iff v 0 _ (fun _ _ => Nat.zero_le _)).mp hF
  have z : ∀ w, M ≤ w → ld h 0 f w (2 ^ v - 1) v = 0 := by
    intro w hw
    have : ∀ N, N ≤ v → ld h 0 f w (2 ^ v - 1) N = 0 := by
      intro N
      induction N with
      | zero => intro _; rfl
      | succ N ih =>
        intro hN
        unfold ld
        rw [ih (by omega), if_neg (fun z => by have := g1 N (by omega); omega)]
    exact this v (Nat.le_refl _)
  have := rch_le hD hK hR ht (f := f) (fun w hw => by
    by_cases e : w < M
    · exact g2 w e
    · rw [z w (by omega)]; exact Nat.zero_le _) (2 ^ v - 1 + (M - 1)) (2 ^ v - 1) (M - 1) (Nat.le_refl _) (by omega) (by omega) (fun i hi _ => by have := g1 i hi; omega)
  have h2 := g2 (M - 1) (by omega)
  omega
end
