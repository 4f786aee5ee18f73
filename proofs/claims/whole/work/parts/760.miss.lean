/-- one place stands ahead of another in the row -/
def ahd (X : Nat → Nat) (p q : Nat) : Bool := decide (X p < X q ∨ (X p = X q ∧ p < q))
theorem ah_iff {X : Nat → Nat} {p q : Nat} : ahd X p q = true ↔ X p < X q ∨ (X p = X q ∧ p < q) := by unfold ahd; exact decide_eq_true_iff
theorem ah_tr {X : Nat → Nat} {p q r : Nat} (h1 : ahd X p q = true) (h2 : ahd X q r = true) : ahd X p r = true := by
  rw [ah_iff] at *; omega
theorem ah_ir {X : Nat → Nat} {p : Nat} : ¬ ahd X p p = true := by rw [ah_iff]; omega
theorem ah_tot {X : Nat → Nat} {p q : Nat} (h : p ≠ q) : ahd X p q = true ∨ ahd X q p = true := by
  rw [ah_iff, ah_iff]; omega
def nbS (X : Nat → Nat) (bf : Bool) (i : Nat) : Option Nat → Option Nat
  | none => some i
  | some j => if ahd X j i = bf then some i else some j
/-- the next one on a side: of k from the i-th on -/
def nbF (X : Nat → Nat) (p : Nat) (bf : Bool) : Nat → Nat → Option Nat → Option Nat
  | 0, _, o => o
  | k + 1, i, o => nbF X p bf k (i + 1) (if i ≠ p ∧ ahd X i p = bf then nbS X bf i o else o)
/-- what the next one is -/
def isN (X : Nat → Nat) (p : Nat) (bf : Bool) (c : Nat) : Option Nat → Prop
  | none => ∀ r, r < c → r ≠ p → ahd X r p ≠ bf
  | some q => q < c ∧ q ≠ p ∧ ahd X q p = bf ∧ ∀ r, r < c → r ≠ p → ahd X r p = bf → r = q ∨ ahd X r q = bf
theorem nb_is {X : Nat → Nat} {p : Nat} {bf : Bool} : ∀ k i o, isN X p bf i o → isN X p bf (i + k) (nbF X p bf k i o) := by
  intro k
  induction k with
  | zero => intro i o h; exact h
  | succ k ih =>
    intro i o h
    rw [nbF, show i + (k + 1) = (i + 1) + k by omega]
    apply ih
    by_cases c : i ≠ p ∧ ahd X i p = bf
    · rw [if_pos c]
      cases o with
      | none =>
        refine ⟨by omega, c.1, c.2, fun r hr hp hb => ?_⟩
        by_cases e : r = i
        · exact Or.inl e
        · exact absurd hb (h r (by omega) hp)
      | some j =>
        obtain ⟨h1, h2, h3, h4⟩ := h
        by_cases c2 : ahd X j i = bf
        · show isN X p bf (i + 1) (if ahd X j i = bf then some i else some j)
          rw [if_pos c2]
          refine ⟨by omega, c.1, c.2, fun r hr hp hb => ?_⟩
          by_cases e : r = i
          · exact Or.inl e
          · right
            rcases h4 r (by omega) hp hb with e2 | e2
            · rw [e2]; exact c2
            · cases bf with
              | true => exact ah_tr e2 c2
              | false =>
                by_cases rj : r = j
                · rw [rj]; exact c2
                have t1 : ahd X j r = true := (ah_tot rj).elim (fun q => by rw [q] at e2; cases e2) id
                have t2 : ahd X i j = true := (ah_tot (show j ≠ i by omega)).elim (fun q => by rw [q] at c2; cases c2) id
                have t3 := ah_tr t2 t1
                cases hh : ahd X r i with
                | false => rfl
                | true => exact absurd (ah_tr t3 hh) ah_ir
        · show isN X p bf (i + 1) (if ahd X j i = bf then some i else some j)
          rw [if_neg c2]
          refine ⟨by omega, h2, h3, fun r hr hp hb => ?_⟩
          by_cases e : r = i
          · right
            rw [e]
            cases bf with
            | true => exact (ah_tot (show j ≠ i by omega)).elim (fun q => absurd q c2) id
            | false =>
              cases hh : ahd X i j with
              | false => rfl
              | true =>
                cases h5 : ahd X j i with
                | false => exact absurd h5 c2
                | true => exact absurd (ah_tr hh h5) ah_ir
          · exact h4 r (by omega) hp hb
    · rw [if_neg c]
      cases o with
      | none =>
        intro r hr hp hb
        by_cases e : r = i
        · exact c ⟨e ▸ hp, e ▸ hb⟩
        · exact h r (by omega) hp hb
      | some j =>
        obtain ⟨h1, h2, h3, h4⟩ := h
        refine ⟨by omega, h2, h3, fun r hr hp hb => ?_⟩
        by_cases e : r = i
        · exact absurd ⟨e ▸ hp, e ▸ hb⟩ c
        · exact h4 r (by omega) hp hb
theorem isN_u {X : Nat → Nat} {p : Nat} {bf : Bool} {c : Nat} {o o' : Option Nat} (h : isN X p bf c o) (h' : isN X p bf c o') : o = o' := by
  cases o with
  | none =>
    cases o' with
    | none => rfl
    | some q => exact absurd h'.2.2.1 (h q h'.1 h'.2.1)
  | some q =>
    cases o' with
    | none => exact absurd h.2.2.1 (h' q h.1 h.2.1)
    | some r =>
      by_cases z : q = r
      · rw [z]
      · exfalso
        rcases h.2.2.2 r h'.1 h'.2.1 h'.2.2.1 with e | e
        · exact z e.symm
        · rcases h'.2.2.2 q h.1 h.2.1 h.2.2.1 with e2 | e2
          · exact z e2
          · cases bf with
            | true => exact ah_ir (ah_tr e e2)
            | false =>
              rcases ah_tot (X := X) z with t | t
              · rw [t] at e2; cases e2
              · rw [t] at e; cases e
/-- the row of places, c of them put in -/
def SRT (X : Nat → Nat) (al : Nat → Nat) (c : Nat) : Prop := (∀ i, i < c → al i < c) ∧ (∀ i j, i < j → j < c → ahd X (al i) (al j) = true) ∧ ∀ q, q < c → ∃ i, i < c ∧ al i = q
def insF (al : Nat → Nat) (c k i : Nat) : Nat := if i < k then al i else if i = k then c else al (i - 1)
theorem srt_ins {X : Nat → Nat} {al : Nat → Nat} {c k : Nat} (h : SRT X al c) (hk : k ≤ c) (h1 : k = 0 ∨ X (al (k - 1)) ≤ X c) (h2 : ∀ i, k ≤ i → i < c → X c < X (al i)) : SRT X (insF al c k) (c + 1) := by
  obtain ⟨a1, a2, a3⟩ := h
  have lo : ∀ i, i < k → ahd X (al i) c = true := fun i hi => by
    rcases h1 with e | e
    · omega
    · have q1 := a1 i (by omega)
      by_cases z : i = k - 1
      · rw [ah_iff, z]; rw [z] at q1; omega
      · have := ah_iff.mp (a2 i (k - 1) (by omega) (by omega))
        rw [ah_iff]; omega
  have hi' : ∀ i, k ≤ i → i < c → ahd X c (al i) = true := fun i q1 q2 => by
    rw [ah_iff]; exact Or.inl (h2 i q1 q2)
  refine ⟨fun i hi => ?_, fun i j hij hj => ?_, fun q hq => ?_⟩
  · unfold insF
    split
    · have := a1 i (by omega); omega
    · split
      · omega
      · have := a1 (i - 1) (by omega); omega
  · unfold insF
    by_cases c1 : j < k
    · rw [if_pos (by omega), if_pos c1]; exact a2 i j hij (by omega)
    · rw [if_neg c1]
      by_cases c2 : j = k
      · rw [if_pos (by omega), if_pos c2]; exact lo i (by omega)
      · rw [if_neg c2]
        by_cases c3 : i < k
        · rw [if_pos c3]
          exact ah_tr (lo i c3) (hi' (j - 1) (by omega) (by omega))
        · rw [if_neg c3]
          by_cases c4 : i = k
          · rw [if_pos c4]; exact hi' (j - 1) (by omega) (by omega)
          · rw [if_neg c4]; exact a2 (i - 1) (j - 1) (by omega) (by omega)
  · by_cases e : q = c
    · exact ⟨k, by omega, by unfold insF; rw [if_neg (by omega), if_pos rfl, e]⟩
    · obtain ⟨i, q1, q2⟩ := a3 q (by omega)
      by_cases z : i < k
      · exact ⟨i, by omega, by unfold insF; rw [if_pos z, q2]⟩
      · exact ⟨i + 1, by omega, by unfold insF; rw [if_neg (by omega), if_neg (by omega), show i + 1 - 1 = i by omega, q2]⟩
theorem srt_inj {X : Nat → Nat} {al : Nat → Nat} {c i j : Nat} (h : SRT X al c) (hi : i < c) (hj : j < c) (e : al i = al j) : i = j := by
  by_cases z : i = j
  · exact z
  · exfalso
    by_cases c1 : i < j
    · have := h.2.1 i j c1 hj; rw [e] at this; exact ah_ir this
    · have := h.2.1 j i (by omega) hi; rw [e] at this; exact ah_ir this
theorem srt_lt {X : Nat → Nat} {al : Nat → Nat} {c i j : Nat} (h : SRT X al c) (hi : i < c) (hj : j < c) (e : ahd X (al i) (al j) = true) : i < j := by
  by_cases z : i < j
  · exact z
  · exfalso
    by_cases c1 : i = j
    · rw [c1] at e; exact ah_ir e
    · exact ah_ir (ah_tr e (h.2.1 j i (by omega) hi))
/-- the row's neighbours are the next ones -/
theorem srt_N1 {X : Nat → Nat} {al : Nat → Nat} {c k : Nat} (h : SRT X al c) (hk : k < c) : isN X (al k) true c (if k = 0 then none else some (al (k - 1))) := by
  by_cases z : k = 0
  · rw [if_pos z]
    intro r hr hp hb
    obtain ⟨i, q1, q2⟩ := h.2.2 r hr
    rw [← q2] at hb
    have := srt_lt h q1 hk hb
    omega
  · rw [if_neg z]
    refine ⟨h.1 _ (by omega), fun e => ?_, h.2.1 _ _ (by omega) hk, fun r hr hp hb => ?_⟩
    · have := srt_inj h (by omega) hk e; omega
    · obtain ⟨i, q1, q2⟩ := h.2.2 r hr
      rw [← q2] at hb ⊢
      have := srt_lt h q1 hk hb
      by_cases e : i = k - 1
      · exact Or.inl (by rw [e])
      · exact Or.inr (h.2.1 _ _ (by omega) (by omega))
theorem srt_N0 {X : Nat → Nat} {al : Nat → Nat} {c k : Nat} (h : SRT X al c) (hk : k < c) : isN X (al k) false c (if k + 1 < c then some (al (k + 1)) else none) := by
  have F : ∀ i j, i < c → j < c → j ≠ i → ahd X (al i) (al j) = false → j < i := fun i j q1 q2 q3 q4 => by
    by_cases z : j < i
    · exact z
    · have := h.2.1 i j (by omega) q2; rw [this] at q4; cases q4
  have G : ∀ i j, i < j → j < c → ahd X (al j) (al i) = false := fun i j q1 q2 => by
    cases e : ahd X (al j) (al i) with
    | false => rfl
    | true => have := srt_lt h q2 (by omega) e; omega
  by_cases z : k + 1 < c
  · rw [if_pos z]
    refine ⟨h.1 _ z, fun e => ?_, G _ _ (by omega) z, fun r hr hp hb => ?_⟩
    · have := srt_inj h z hk e; omega
    · obtain ⟨i, q1, q2⟩ := h.2.2 r hr
      rw [← q2] at hb hp ⊢
      have := F i k q1 hk (fun e => hp (by rw [e])) hb
      by_cases e : i = k + 1
      · exact Or.inl (by rw [e])
      · exact Or.inr (G _ _ (by omega) q1)
  · rw [if_neg z]
    intro r hr hp hb
    obtain ⟨i, q1, q2⟩ := h.2.2 r hr
    rw [← q2] at hb hp
    have := F i k q1 hk (fun e => hp (by rw [e])) hb
    omega
/-- what a place misses -/
def btF (set : Int32) (o : Option Nat) : Int32 := match o with | none => 0 | some q => (set >>> (nI q &&& (31 : Int32))) &&& (1 : Int32)
def xF (g : GH) (p : Nat) : Nat := gpl g (4 * p)
def msF (g : GH) (p : Nat) (set : Int32) : Int32 := (2 : Int32) * btF set (some p) + btF set (nbF (xF g) p true (gP g) 0 none) + btF set (nbF (xF g) p false (gP g) 0 none)
section
variable {g : GH} {A : Nat → Nat} {S : pq_S} {st : Nat → Int32} {n : Nat}
def b1 (b : Bool) : Int32 := if b then 1 else 0
theorem xv_ah (h : XV g A S st) {p q : Nat} (hp : p < gP g) (hq : q < gP g) : m_X1_standsAhead n (A 4) (nI p) (nI q) S = some (b1 (ahd (xF g) p q), S) := by
  have hb := h.2.1.b
  have g1 := h.2.1.p (i := 4 * p) (by omega)
  have g2 := h.2.1.p (i := 4 * q) (by omega)
  have e1 : m_X9_at n (A 5) (nI p) 0 S = some (nI (xF g p), S) := h.pl (n := n) (p := p) (c := 0) hp (by decide)
  have e2 : m_X9_at n (A 5) (nI q) 0 S = some (nI (xF g q), S) := h.pl (n := n) (p := q) (c := 0) hq (by decide)
  have g1 : xF g p ≤ 99 := g1
  have g2 : xF g q ≤ 99 := g2
  unfold m_X1_standsAhead
  rw [h.1.r4_100, ob_mk, e1, cb_mk, h.1.r4_100, ob_mk, e2, cb_mk]
  by_cases c1 : xF g p < xF g q
  · rw [if_pos (nI_lt c1 (by omega)), b_X1_standsAhead_38, show ahd (xF g) p q = true from ah_iff.mpr (Or.inl c1)]
    rfl
  · rw [if_neg (nI_nlt (by omega) (by omega))]
    by_cases c2 : xF g p = xF g q
    · rw [if_pos (by rw [c2])]
      by_cases c3 : p < q
      · rw [if_neg (nI_ge c3 (by omega)), b_X1_standsAhead_38, show ahd (xF g) p q = true from ah_iff.mpr (Or.inr ⟨c2, c3⟩)]
        rfl
      · rw [if_pos (nI_le (by omega) (by omega)), show ahd (xF g) p q = false from Bool.eq_false_iff.mpr (fun e => by have := ah_iff.mp e; omega)]
        rfl
    · rw [if_neg (fun e => c2 ((nI_eq (by omega) (by omega)).mp e)), show ahd (xF g) p q = false from Bool.eq_false_iff.mpr (fun e => by have := ah_iff.mp e; omega)]
      rfl
theorem b1_eq {a b : Bool} : b1 a = b1 b ↔ a = b := by cases a <;> cases b <;> decide
theorem xv_nb (h : XV g A S st) {p : Nat} {bf : Bool} (hp : p < gP g) : ∀ (f i : Nat) (o : Option Nat), (∀ j, o = some j → j < gP g) → i ≤ gP g → gP g < i + f → b_X1_neighbour_5 n f (A 4) (nI p) (b1 bf) (eO o) (nI i) S = some (eO (nbF (xF g) p bf (gP g - i) i o), S) := by
  have hb := h.2.1.b
  intro f
  induction f with
  | zero => intro i o h0 h1 h2; omega
  | succ f ih =>
    intro i o h0 h1 h2
    have hm := eO_m1 (o := o) (fun j e => by have := h0 j e; omega)
    rw [b_X1_neighbour_5, h.1.r4_100, ob_mk, h.I.1]
    by_cases c : gP g ≤ i
    · rw [if_pos (nI_le c (by omega)), show gP g - i = 0 by omega, nbF]
    · rw [if_neg (nI_ge (by omega) (by omega)), show gP g - i = (gP g - (i + 1)) + 1 by omega, nbF]
      by_cases c1 : i = p
      · rw [if_pos (by rw [c1]), b_X1_neighbour_53, nI_1, if_neg (show ¬ (i ≠ p ∧ ahd (xF g) i p = bf) from fun q => q.1 c1)]
        exact ih (i + 1) o h0 (by omega) (by omega)
      · rw [if_neg (fun e => c1 ((nI_eq (by omega) (by omega)).mp e)), xv_ah h (by omega) hp, cb_mk]
        by_cases c2 : ahd (xF g) i p = bf
        · rw [if_pos (b1_eq.mpr c2), if_pos (show i ≠ p ∧ ahd (xF g) i p = bf from ⟨c1, c2⟩)]
          cases o with
          | none =>
            rw [if_pos (show eO none = -1 from rfl), b_X1_neighbour_50, b_X1_neighbour_53, nI_1]
            exact ih (i + 1) (some i) (fun j e => by cases e; omega) (by omega) (by omega)
          | some j =>
            have hj := h0 j rfl
            rw [if_neg (fun e => by have := hm.mp e; cases this)]
            show cb (m_X1_standsAhead n (A 4) (nI j) (nI i) S) _ = _
            rw [xv_ah h hj (by omega), cb_mk]
            by_cases c3 : ahd (xF g) j i = bf
            · rw [if_pos (b1_eq.mpr c3), b_X1_neighbour_50, b_X1_neighbour_53, nI_1]
              show _ = some (eO (nbF (xF g) p bf _ _ (if ahd (xF g) j i = bf then some i else some j)), S)
              rw [if_pos c3]
              exact ih (i + 1) (some i) (fun j e => by cases e; omega) (by omega) (by omega)
            · rw [if_neg (fun e => c3 (b1_eq.mp e)), b_X1_neighbour_53, nI_1]
              show _ = some (eO (nbF (xF g) p bf _ _ (if ahd (xF g) j i = bf then some i else some j)), S)
              rw [if_neg c3]
              exact ih (i + 1) (some j) (fun j e => by cases e; exact hj) (by omega) (by omega)
        · rw [if_neg (fun e => c2 (b1_eq.mp e)), if_neg (show ¬ (i ≠ p ∧ ahd (xF g) i p = bf) from fun q => c2 q.2), b_X1_neighbour_53, nI_1]
          exact ih (i + 1) o h0 (by omega) (by omega)
theorem bt_X {set : Int32} {o : Option Nat} (h : ∀ j, o = some j → j < 100) : m_X1_bitOf n set (eO o) S = some (btF set o, S) := by
  unfold m_X1_bitOf
  cases o with
  | none => rw [if_pos (show eO none < 0 by decide)]; rfl
  | some j => rw [if_neg (show ¬ eO (some j) < 0 from nI_pos (by have := h j rfl; omega))]; rfl
theorem nb_lt {X : Nat → Nat} {p c : Nat} {bf : Bool} : ∀ j, nbF X p bf c 0 none = some j → j < c := fun j e => by
  have h := nb_is (X := X) (p := p) (bf := bf) c 0 none (fun r hr => by omega)
  rw [e, Nat.zero_add] at h
  exact h.1
theorem xv_ms (h : XV g A S st) (hn : 20 ≤ n) {p : Nat} (hp : p < gP g) (set : Int32) : m_X1_missing n (A 4) (nI p) set S = some (msF g p set, S) := by
  have hb := h.2.1.b
  have e1 : m_X1_neighbour n (A 4) (nI p) 1 S = some (eO (nbF (xF g) p true (gP g) 0 none), S) := xv_nb (n := n) (bf := true) h hp n 0 none (fun j e => by cases e) (by omega) (by omega)
  have e2 : m_X1_neighbour n (A 4) (nI p) 0 S = some (eO (nbF (xF g) p false (gP g) 0 none), S) := xv_nb (n := n) (bf := false) h hp n 0 none (fun j e => by cases e) (by omega) (by omega)
  have e3 : m_X1_bitOf n set (nI p) S = some (btF set (some p), S) := bt_X (o := some p) (fun j e => by cases e; omega)
  unfold m_X1_missing msF
  rw [e3, cb_mk, e1, cb_mk, bt_X (fun j e => by have := nb_lt j e; omega), cb_mk, e2, cb_mk, bt_X (fun j e => by have := nb_lt j e; omega), cb_mk]
/-! the reference's row -/
theorem m_ins {K : Nat → Int32 → pq_S → Option pq_S} {T : pq_S} (hL : LAY A T) (hg : GB g) (hc : CM g T A) {al : Nat → Nat} {c : Nat} (hcP : c < gP g) (hS : SRT (xF g) al c) : ∀ (f k : Nat) (u : Nat → Int32), k ≤ c → k < f → (∀ i, i < k → u i = nI (al i)) → (∀ i, k < i → i ≤ c → u i = nI (al (i - 1))) → (∀ i, k ≤ i → i < c → xF g c < xF g (al i)) → ∃ j u', b_X12_findAlong_12 n K f (A 60) (nI c) (nI k) (sF T (A 90) u) = K (A 60) (nI (c + 1)) (sF T (A 90) u') ∧ (∀ i, i < c + 1 → u' i = nI (insF al c j i)) ∧ SRT (xF g) (insF al c j) (c + 1) := by
  have hb := hg.b
  intro f
  induction f with
  | zero => intro k u h1 h2; omega
  | succ f ih =>
    intro k u h1 h2 hlo hhi hX
    have R1 : ∀ v, pR (sF T (A 90) v) 1264 (A 60) = some (A 90) := fun _ => hL.r60_1264
    have R2 : ∀ v, pR (sF T (A 90) v) 1214 (A 60) = some (A 67) := fun _ => hL.r60_1214
    have N1 : ∀ v, pN (sF T (A 90) v) (A 90) = 6 := fun _ => hL.n90
    have N2 : ∀ v, pN (sF T (A 90) v) (A 67) = 24 := fun _ => hL.n67
    have d : A 67 ≠ A 90 := hL.ne (by decide) (by decide) (by decide)
    have eA : ∀ v i, pA (sF T (A 90) v) (A 90) i = v i := fun v i => by rw [pA_sF, if_pos rfl]
    have eX : ∀ v i, i < gP g → pA (sF T (A 90) v) (A 67) (4 * i) = nI (xF g i) := fun v i hi => by rw [pA_sF, if_neg d]; exact hc.2.1 _ (by omega)
    have fin : (k = 0 ∨ xF g (al (k - 1)) ≤ xF g c) → ∃ j u', b_X12_findAlong_62 n K (A 60) (nI c) (nI k) (sF T (A 90) u) = K (A 60) (nI (c + 1)) (sF T (A 90) u') ∧ (∀ i, i < c + 1 → u' i = nI (insF al c j i)) ∧ SRT (xF g) (insF al c j) (c + 1) := fun h0 => by
      refine ⟨k, upd u k (nI c), ?_, fun i hi => ?_, srt_ins hS h1 h0 hX⟩
      · rw [b_X12_findAlong_62, R1, ob_mk, N1, ck_pos (ixn (by omega) (by omega)), nI_clamp (by omega), sA_sF, nI_1]
      · unfold insF
        by_cases z : i = k
        · subst z; rw [upd_eq, if_neg (by omega), if_pos rfl]
        · rw [upd_ne z]
          by_cases z2 : i < k
          · rw [if_pos z2]; exact hlo i z2
          · rw [if_neg z2, if_neg z]; exact hhi i (by omega) (by omega)
    rw [b_X12_findAlong_12]
    by_cases c0 : k = 0
    · subst c0
      rw [if_pos (by decide)]
      exact fin (Or.inl rfl)
    · have q1 := hS.1 (k - 1) (by omega)
      have x1 : xF g (al (k - 1)) ≤ 99 := hg.p (i := 4 * al (k - 1)) (by omega)
      have x2 : xF g c ≤ 99 := hg.p (i := 4 * c) (by omega)
      have kk : (nI (k - 1)).toNatClampNeg = k - 1 := nI_clamp (by omega)
      have kc : (nI k).toNatClampNeg = k := nI_clamp (by omega)
      rw [if_neg (nI_nle (by omega) (by omega)), R2, ob_mk, R1, ob_mk, N1, show nI k - (1 : Int32) = nI (k - 1) from pk_sub (b := 1) (by omega), kk, kc, ck_pos (ixn (by omega) (by omega)), eA, hlo (k - 1) (by omega), show (4 : Int32) * nI (al (k - 1)) = nI (4 * al (k - 1)) from pk_mul 4 _, show (4 : Int32) * nI c = nI (4 * c) from pk_mul 4 c, N2, ck_pos (ixn (by omega) (by omega)), ob_mk, N2, ck_pos (ixn (by omega) (by omega)), nI_clamp (show 4 * al (k - 1) < 2 ^ 31 by omega), nI_clamp (show 4 * c < 2 ^ 31 by omega), eX _ _ (by omega), eX _ _ (by omega)]
      by_cases c1 : xF g (al (k - 1)) ≤ xF g c
      · rw [if_pos (nI_le c1 (by omega))]
        exact fin (Or.inr c1)
      · rw [if_neg (nI_ge (by omega) (by omega)), ob_mk, ob_mk, N1, ck_pos (ixn (by omega) (by omega)), ck_pos (ixn (by omega) (by omega)), lt_mk, eA, hlo (k - 1) (by omega), sA_sF, sb_m1 (by omega)]
        refine ih (k - 1) _ (by omega) (by omega) (fun i hi => ?_) (fun i i1 i2 => ?_) (fun i i1 i2 => ?_)
        · rw [upd_ne (by omega)]; exact hlo i (by omega)
        · by_cases z : i = k
          · rw [z, upd_eq]
          · rw [upd_ne z]; exact hhi i (by omega) i2
        · by_cases z : i = k - 1
          · rw [z]; omega
          · exact hX i (by omega) i2
theorem m_along {T : pq_S} (hL : LAY A T) (hg : GB g) (hc : CM g T A) (hn : 20 ≤ n) : ∀ (f c : Nat) (al : Nat → Nat) (u : Nat → Int32), c ≤ gP g → gP g < c + f → SRT (xF g) al c → (∀ i, i < c → u i = nI (al i)) → ∃ al' u', b_X12_findAlong_2 n f (A 60) (nI c) (sF T (A 90) u) = some (sF T (A 90) u') ∧ (∀ i, i < gP g → u' i = nI (al' i)) ∧ SRT (xF g) al' (gP g) := by
  have hb := hg.b
  intro f
  induction f with
  | zero => intro c al u h1 h2; omega
  | succ f ih =>
    intro c al u h1 h2 hS hu
    have I1 : pI (sF T (A 90) u) 1224 (A 60) = nI (gP g) := hc.1.1
    rw [b_X12_findAlong_2, I1]
    by_cases c0 : gP g ≤ c
    · rw [if_pos (nI_le c0 (by omega))]
      have : c = gP g := by omega
      subst this
      exact ⟨al, u, rfl, hu, hS⟩
    · rw [if_neg (nI_ge (by omega) (by omega))]
      obtain ⟨j, u', e1, e2, e3⟩ := m_ins (n := n) (K := b_X12_findAlong_2 n f) hL hg hc (by omega) hS n c u (by omega) (by omega) hu (fun i i1 i2 => by omega) (fun i i1 i2 => by omega)
      rw [e1]
      exact ih (c + 1) _ u' (by omega) (by omega) e3 e2
theorem m_along' {T : pq_S} (hL : LAY A T) (hg : GB g) (hc : CM g T A) (hn : 20 ≤ n) : ∃ al u, m_X12_findAlong n (A 60) T = some (sF T (A 90) u) ∧ (∀ i, i < gP g → u i = nI (al i)) ∧ SRT (xF g) al (gP g) := by
  have hb := hg.b
  obtain ⟨al, u, e1, e2, e3⟩ := m_along (n := n) hL hg hc hn n 0 (fun i => i) (pA T (A 90)) (by omega) (by omega) ⟨fun i hi => by omega, fun i j h1 h2 => by omega, fun q hq => by omega⟩ (fun i hi => by omega)
  rw [sF_self] at e1
  exact ⟨al, u, e1, e2, e3⟩
theorem m_ms {T : pq_S} (hL : LAY A T) (hg : GB g) (hc : CM g T A) (hn : 20 ≤ n) {al : Nat → Nat} (hS : SRT (xF g) al (gP g)) (hu : ∀ i, i < gP g → pA T (A 90) i = nI (al i)) {p : Nat} (hp : p < gP g) (set : Int32) : m_X12_missOf n (A 60) (nI p) set T = some (msF g p set, T) := by
  have hb := hg.b
  obtain ⟨k, hk, ek⟩ := hS.2.2 p hp
  have n1 := isN_u (nb_is (X := xF g) (p := p) (bf := true) (gP g) 0 none (fun r hr => by omega)) (by rw [Nat.zero_add, ← ek]; exact srt_N1 hS hk)
  have n0 := isN_u (nb_is (X := xF g) (p := p) (bf := false) (gP g) 0 none (fun r hr => by omega)) (by rw [Nat.zero_add, ← ek]; exact srt_N0 hS hk)
  -- behind the place nothing more is added
  have tail : ∀ (f i : Nat) (x : Int32), k < i → i ≤ gP g → gP g < i + f → b_X12_missOf_11 n f (A 60) (nI p) set x (nI i) T = some (x, T) := by
    intro f
    induction f with
    | zero => intro i x h1 h2 h3; omega
    | succ f ih =>
      intro i x h1 h2 h3
      rw [b_X12_missOf_11, hc.1.1]
      by_cases c : gP g ≤ i
      · rw [if_pos (nI_le c (by omega))]
      · have q := hS.1 i (by omega)
        rw [if_neg (nI_ge (by omega) (by omega)), hL.r60_1264, ob_mk, hL.n90, ck_pos (ixn (by omega) (by omega)), nI_clamp (by omega), hu i (by omega), if_neg (fun e => by
          have := (nI_eq (by omega) (by omega)).mp e
          rw [← ek] at this
          have := srt_inj hS (by omega) hk this
          omega), b_X12_missOf_82, nI_1]
        exact ih (i + 1) x (by omega) (by omega) (by omega)
  have head : ∀ (f i : Nat) (x : Int32), i ≤ k → gP g < i + f → b_X12_missOf_11 n f (A 60) (nI p) set x (nI i) T = some (x + btF set (nbF (xF g) p true (gP g) 0 none) + btF set (nbF (xF g) p false (gP g) 0 none), T) := by
    intro f
    induction f with
    | zero => intro i x h1 h2; omega
    | succ f ih =>
      intro i x h1 h2
      have q := hS.1 i (by omega)
      have e53 : ∀ (y : Int32), b_X12_missOf_55 n (b_X12_missOf_11 n f) (A 60) (nI p) set y (nI k) T = b_X12_missOf_11 n f (A 60) (nI p) set (y + btF set (if k + 1 < gP g then some (al (k + 1)) else none)) (nI (k + 1)) T := fun y => by
        rw [b_X12_missOf_55, hc.1.1, nI_1]
        by_cases z : k + 1 < gP g
        · rw [if_neg (nI_ge z (by omega)), hL.r60_1264, ob_mk, hL.n90, ck_pos (ixn (by omega) (by omega)), nI_clamp (by omega), hu _ z, lt_mk, b_X12_missOf_82, nI_1, if_pos z]
          rfl
        · rw [if_pos (nI_le (by omega) (by omega)), b_X12_missOf_82, nI_1, if_neg z]
          show _ = b_X12_missOf_11 n f (A 60) (nI p) set (y + 0) (nI (k + 1)) T
          rw [Int32.add_zero]
      rw [b_X12_missOf_11, hc.1.1, if_neg (nI_ge (by omega) (by omega)), hL.r60_1264, ob_mk, hL.n90, ck_pos (ixn (by omega) (by omega)), nI_clamp (by omega), hu i (by omega)]
      by_cases c : i = k
      · subst c
        rw [if_pos (by rw [ek])]
        by_cases z : i = 0
        · subst z
          rw [if_pos (by decide), e53, tail _ _ _ (by omega) (by omega) (by omega), n1, n0, if_pos rfl]
          show _ = some (x + 0 + _, T)
          rw [Int32.add_zero]
        · rw [if_neg (nI_nle (by omega) (by omega)), ob_mk, show nI i - (1 : Int32) = nI (i - 1) from pk_sub (b := 1) (by omega), hL.n90, ck_pos (ixn (by omega) (by omega)), nI_clamp (by omega), hu _ (by omega), lt_mk, e53, tail _ _ _ (by omega) (by omega) (by omega), n1, n0, if_neg z]
          rfl
      · rw [if_neg (fun e => by
          have := (nI_eq (by omega) (by omega)).mp e
          rw [← ek] at this
          have := srt_inj hS (by omega) hk this
          omega), b_X12_missOf_82, nI_1]
        exact ih (i + 1) x (by omega) (by omega)
  unfold m_X12_missOf msF
  rw [lt_mk]
  exact head n 0 _ (by omega) (by omega)
end
theorem shl6 : ∀ P, P < 7 → (1 : Int32) <<< (nI P &&& (31 : Int32)) = nI (2 ^ P) := by decide
theorem smd6 : ∀ P, P < 7 → ((nI P &&& (31 : Int32)).toBitVec.smod 32).toNat = P := by decide
theorem pw6 {P : Nat} (h : P ≤ 6) : 1 ≤ 2 ^ P ∧ 2 ^ P ≤ 64 := ⟨Nat.pow_pos (by decide), by have := Nat.pow_le_pow_right (n := 2) (by decide) h; omega⟩
theorem ob_26 (n xa ma : Nat) (hn : 20000 ≤ n) : OB_26 n xa ma (JJ xa ma) := by
  rintro S f ⟨A, V, g, rfl, rfl, h⟩ y z
  have h : JG A V g S := h
  have hb := h.gb.b
  have p6 := pw6 hb.1
  refine ⟨200, 8000, by decide, by decide, 1, 6, by decide, by decide, wrP h (fun i hi e => ?_) (fun q => Or.inl ⟨rfl, ki_miss h (b := 0) (by decide) ?_⟩)⟩
  · subst e
    have sh := shl6 (gP g) (by omega)
    have lim : nI (2 ^ gP g) - (1 : Int32) = nI (2 ^ gP g - 1) := pk_sub (b := 1) (by omega)
    have Mb : ¬ (0 ≤ z ∧ z ≤ nI (2 ^ gP g - 1)) → pb_X11_misses_32 n (A 0) (nI i) z (A 0) S (200 - 1) (8000 - 6) (fun (k : Nat) (S1 : pq_S) => (k = 2 ∧ (KI (JJ (A 0) (A 60)) (A 60) (m_X12_misses n (A 60) (nI i) z)) 1 f S1) ∨ (k = 1 ∧ (KI (JJ (A 0) (A 60)) (A 60) (m_X12_misses n (A 60) (nI i) z)) 2 f S1)) (fun r (S1 : pq_S) => (KI (JJ (A 0) (A 60)) (A 60) (m_X12_misses n (A 60) (nI i) z)) 0 (vp_updL f 0 (Int32.toInt64 r)) S1) := fun hz => by
      refine ⟨1, 6, by decide, by decide, wr_need0 (by decide) (by decide) (Or.inr ⟨rfl, ki_bad h (b := 0) (by decide) ?_⟩)⟩
      unfold m_X12_misses
      rw [jg_P1b h hi, cb_mk, if_neg (by decide), pI_n (by decide), pI_n (by decide), h.cm.1.1, sh, lim, sp_within, if_neg hz, cb_mk, jg_bad h (by decide), cb_mk, if_pos rfl]
    by_cases c0 : z < 0
    · rw [if_pos c0]
      exact Mb (fun q => absurd q.1 (Int32.not_le.mpr c0))
    · rw [if_neg c0]
      refine ⟨_, h.lay.r0_1101, _, h.lay.r3_700, _, h.lay.r4_100, ?_⟩
      obtain ⟨k, hk, ek⟩ := nI_of c0
      subst ek
      rw [h.cx.1.1, pk_shrN hk _ (gP g) (smd6 (gP g) (by omega))]
      by_cases c1 : k < 2 ^ gP g
      · rw [if_pos (by rw [Nat.div_eq_of_lt c1]; rfl)]
        refine ⟨1, 6, by decide, by decide, wr_need1 ⟨_, h.lay.r0_1101, _, h.lay.r3_700, _, _, xv_ms h.xv (by omega) hi (nI k), ?_⟩⟩
        have hz : 0 ≤ nI k ∧ nI k ≤ nI (2 ^ gP g - 1) := ⟨nI_pos' hk, nI_le (by omega) (by omega)⟩
        obtain ⟨al, u, e1, e2, e3⟩ := m_along' (n := n) (T := st0 S (A 60)) h.st0.lay h.gb h.st0.cm (by omega)
        have kp : KP A S (sF (st0 S (A 60)) (A 90) u) := KPL.wF (KPL.st0 (KPL.rf _ _ _ _ _)) (by decide)
        have hT := h.kp kp
        refine ki_ok h (S2 := sF (st0 S (A 60)) (A 90) u) ?_ kp (st0_th S (A 60))
        unfold m_X12_misses
        rw [jg_P1 h hi, cb_mk, if_neg (by decide), pI_n (by decide), h.cm.1.1, sh, lim, sp_within, if_pos hz, cb_mk, sp_mayS1, cb_mk, if_neg (by decide), e1, ob_mk, m_ms hT.lay h.gb hT.cm (by omega) e3 (fun j hj => by rw [pA_sF, if_pos rfl]; exact e2 j hj) hi, cb_mk]
      · have hq : 1 ≤ k / 2 ^ gP g := Nat.div_pos (by omega) (by omega)
        have hq2 : k / 2 ^ gP g ≤ k := Nat.div_le_self _ _
        rw [if_neg (nI_ne0 (by omega) (by omega))]
        exact Mb (fun q => absurd q.2 (nI_ge (by omega) (by omega)))
  · unfold m_X12_misses
    rw [jg_P0 h q, cb_mk, if_pos rfl]
