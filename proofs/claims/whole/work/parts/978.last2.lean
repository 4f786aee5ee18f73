/-! nights: the least row, made -/
section
variable {A : Nat → Nat} {n : Nat} {g : GH} {S S0 : pq_S} {V : Nat → Prop} {m : Nat} {q : Nat → Nat} {D K : Nat} {t : Nat → Nat}
def RIS (h : Nat → Nat) (t : Nat → Nat) (D K k v r : Nat) (R : Nat → Nat) (S : pq_S) (s : Nat) : Prop := (∀ s', s' < s → pA S r s' = nI (R s') ∧ R s' ≤ 1024 ∧ (R s' < 1024 → R s' / 32 < K)) ∧ R 0 = t 0 ∧ ∀ s', 0 < s' → s' < s → (∀ i, i < v → s'.testBit i = true → R s' ≤ ptI t D K (R (s' - 2 ^ i)) (h (k + i))) ∧ (R s' = 1024 ∨ ∃ i, i < v ∧ s'.testBit i = true ∧ R s' = ptI t D K (R (s' - 2 ^ i)) (h (k + i)))
theorem NX.on {r : Nat} (hX : NX A g m q D K t S0) (h : JG A V g S0) (hr : pR S0 404 (A 32) = some r) (k : ONL r S0 S) : NX A g m q D K t S := by
  have ne : ∀ c, c < 92 → A c ≠ r := fun c hc z => (h.hi.2.2.2.2.1 r hr).2.2 c (h.hi.2.2.1 c hc) z.symm
  refine ⟨hX.1, by rw [k.1.2.2.1]; exact hX.2.1, fun i hi => ⟨(hX.2.2.1 i hi).1, by rw [k.2 _ _ (ne 33 (by decide))]; exact (hX.2.2.1 i hi).2⟩, fun w hw => ⟨(hX.2.2.2 w hw).1, by rw [k.2 _ _ (ne 34 (by decide))]; exact (hX.2.2.2 w hw).2⟩⟩
theorem w_l59 {r k v bc bs : Nat} {Q : Int32 → pq_S → Prop} (hn : 20000 ≤ n) (h : JG A V g S0) (hD : D ≤ 24) (hK : K ≤ 12) (hX : NX A g m q D K t S0) (hr : pR S0 404 (A 32) = some r) (hkv : k + v = m) (hQ : ∀ S' R', ONL r S0 S' → RCH (fun i => gwa g (4 * q i + 1)) t D K k v R' → R' (2 ^ v - 1) ≤ 1024 → Q (if R' (2 ^ v - 1) < 1024 then nI (R' (2 ^ v - 1) / 32 + 1) else 1024) S') : ∀ c s f S R, s + c = 2 ^ v → c < f → 0 < s → ONL r S0 S → RIS (fun i => gwa g (4 * q i + 1)) t D K k v r R S s → pb_X4_lastNight_59 n f (A 32) (nI k) (nI D) (nI K) (nI (2 ^ v)) (nI s) S bc bs Q := by
  have hm := hX.1
  have p12 : 2 ^ v ≤ 2 ^ 12 := Nat.pow_le_pow_right (by decide) (by omega)
  have e12 : (2 : Nat) ^ 12 = 4096 := by decide
  have hp := Nat.two_pow_pos v
  have hN0 : pN S0 r = 4096 := (h.hi.2.2.2.2.1 r hr).2.1
  intro c
  induction c with
  | zero =>
    intro s f S R h1 h2 h3 k1 hR
    obtain ⟨f, rfl⟩ : ∃ g, f = g + 1 := ⟨f - 1, by omega⟩
    obtain ⟨R1, R2, R3⟩ := hR
    have hl := R1 (2 ^ v - 1) (by omega)
    rw [pb_X4_lastNight_59, if_pos (nI_le (by omega) (by omega))]
    unfold pb_X4_lastNight_88
    refine ⟨r, by rw [k1.1.2.2.2.1]; exact hr, ?_, ?_⟩
    · rw [k1.1.2.2.2.2.1, hN0, show nI (2 ^ v) - (1 : Int32) = nI (2 ^ v - 1) from nI_sub' (b := 1) (by omega)]
      exact ix_nI (by omega) (by decide)
    · rw [lt_mk, show nI (2 ^ v) - (1 : Int32) = nI (2 ^ v - 1) from nI_sub' (b := 1) (by omega), nI_clamp (by omega), hl.1]
      have := hQ S R k1 ⟨R2, fun s' q1 q2 => R3 s' q1 (by omega)⟩ hl.2.1
      by_cases e : R (2 ^ v - 1) < 1024
      · rw [if_pos e] at this
        rw [if_pos (show nI (R (2 ^ v - 1)) < (1024 : Int32) from nI_lt (b := 1024) e (by decide)), dv32 _ e, nI_1]
        exact this
      · rw [if_neg e] at this
        rw [if_neg (show ¬ nI (R (2 ^ v - 1)) < (1024 : Int32) from nI_nlt (b := 1024) (by omega) (by omega))]
        exact this
  | succ c ih =>
    intro s f S R h1 h2 h3 k1 hR
    obtain ⟨f, rfl⟩ : ∃ g, f = g + 1 := ⟨f - 1, by omega⟩
    obtain ⟨R1, R2, R3⟩ := hR
    have hS : JG A V g S := h.kp ((k1.kp hr).mono (by simp) (by simp) (by simp))
    have hrS : pR S 404 (A 32) = some r := by rw [k1.1.2.2.2.1]; exact hr
    have hXS := hX.on h hr k1
    rw [pb_X4_lastNight_59, if_neg (nI_ge (by omega) (by omega))]
    obtain ⟨b', b1, b2, b3, b4, b5⟩ := x_bos (n := n) (k := k) (v := v) (s := s) (R := R) hn hS hD hK hXS hrS hkv (by omega) R1 12 0 n 1024 (by omega) (by omega) ⟨Nat.le_refl _, fun z => by omega, fun j hj => by omega, Or.inl rfl⟩
    refine ⟨r, hrS, nI b', S, b1, by rw [k1.1.2.2.2.2.1, hN0]; exact ix_nI (by omega) (by decide), ?_⟩
    rw [nI_clamp (by omega), show nI s + 1 = nI (s + 1) from nI_1 s]
    obtain ⟨R', e1, e2⟩ : ∃ R' : Nat → Nat, R' s = b' ∧ ∀ x, x ≠ s → R' x = R x := ⟨fun x => if x = s then b' else R x, if_pos rfl, fun x hx => if_neg hx⟩
    refine ih (s + 1) f _ R' (by omega) (by omega) (by omega) k1.w ⟨fun s' hs' => ?_, by rw [e2 0 (by omega)]; exact R2, fun s' q1 q2 => ?_⟩
    · by_cases e : s' = s
      · rw [pA_sA, if_pos ⟨rfl, e⟩, e, e1]; exact ⟨rfl, b2, b3⟩
      · rw [pA_sA, if_neg (fun z => e z.2), e2 s' e]; exact R1 s' (by omega)
    · have hlow : ∀ i, s'.testBit i = true → s' - 2 ^ i ≠ s := fun i hi => by
        have := (bit_out hi).1
        have := Nat.two_pow_pos i
        omega
      by_cases e : s' = s
      · subst e
        rw [e1]
        refine ⟨fun i hi hb => ?_, ?_⟩
        · rw [e2 _ (hlow i hb)]; exact b4 i hi hi hb
        · rcases b5 with z | ⟨j, j1, j2, j3⟩
          · exact Or.inl z
          · exact Or.inr ⟨j, j1, j2, by rw [e2 _ (hlow j j2)]; exact j3⟩
      · rw [e2 s' e]
        obtain ⟨c1, c2⟩ := R3 s' q1 (by omega)
        refine ⟨fun i hi hb => ?_, ?_⟩
        · rw [e2 _ (hlow i hb)]; exact c1 i hi hb
        · rcases c2 with z | ⟨j, j1, j2, j3⟩
          · exact Or.inl z
          · exact Or.inr ⟨j, j1, j2, by rw [e2 _ (hlow j j2)]; exact j3⟩
theorem w_last {k v mc ms : Nat} {Q : Int32 → pq_S → Prop} (hn : 20000 ≤ n) (h : JG A V g S) (hD : D ≤ 24) (hK : K ≤ 12) (hX : NX A g m q D K t S) (hK0 : 0 < v → 0 < K) (hkv : k + v = m) (hmc : pR S 404 (A 32) = none → 1 ≤ mc ∧ 4096 ≤ ms) (hQ0 : v = 0 → Q 0 S) (hQ : ∀ S' R', 0 < v → KPL [] [] [] A S S' → RCH (fun i => gwa g (4 * q i + 1)) t D K k v R' → R' (2 ^ v - 1) ≤ 1024 → pR S' 404 (A 32) ≠ none → Q (if R' (2 ^ v - 1) < 1024 then nI (R' (2 ^ v - 1) / 32 + 1) else 1024) S') : wp_X4_lastNight n (A 32) (nI k) (nI D) (nI K) S mc ms Q := by
  have hm := hX.1
  unfold wp_X4_lastNight
  rw [hX.2.1, nI_sub' (by omega), show m - k = v by omega]
  by_cases hv : v = 0
  · rw [if_neg (by rw [hv]; decide)]
    exact hQ0 hv
  rw [if_pos (show (0 : Int32) < nI v from nI_lt (a := 0) (by omega) (by omega))]
  have p12 : 2 ^ v ≤ 2 ^ 12 := Nat.pow_le_pow_right (by decide) (by omega)
  have e12 : (2 : Nat) ^ 12 = 4096 := by decide
  have hp := Nat.two_pow_pos v
  have main : ∀ S1 r bc bs, JG A V g S1 → NX A g m q D K t S1 → pR S1 404 (A 32) = some r → KPL [] [] [] A S S1 → pb_X4_lastNight_31 n (A 32) (nI k) (nI D) (nI K) (nI v) S1 bc bs Q := by
    intro S1 r bc bs h1 hX1 hr kS
    have hN : pN S1 r = 4096 := (h1.hi.2.2.2.2.1 r hr).2.1
    unfold pb_X4_lastNight_31
    have ht0 := hX1.2.2.2 0 (hK0 (by omega))
    have l1 := h1.lay
    refine ⟨r, hr, nI (t 0), S1, x_tk (w := 0) l1 (by decide) ht0.2, by rw [hN]; exact ix_nI (k := 0) (by decide) (by decide), r, hr, ?_⟩
    rw [lt_mk]
    have hN' : pN (sA S1 r (Int32.toNatClampNeg 0) (nI (t 0))) r = 4096 := hN
    rw [hN', shl13 v (by omega), if_neg (show ¬ Int32.ofNat 4096 < nI (2 ^ v) from nI_nlt (by omega) (by decide))]
    refine w_l59 (n := n) (r := r) hn h1 hD hK hX1 hr hkv (fun S' R' o1 o2 o3 => hQ S' R' (by omega) (h.tr kS (o1.kp hr)) o2 o3 (by rw [o1.1.2.2.2.1, hr]; simp)) (2 ^ v - 1) 1 n _ (fun _ => t 0) (by omega) (by omega) (by omega) (ONL.rf _ _).w ⟨fun s' hs' => ?_, rfl, fun s' q1 q2 => by omega⟩
    obtain rfl : s' = 0 := by omega
    rw [pA_sA, if_pos ⟨rfl, rfl⟩]
    have h24 : t 0 ≤ 24 := by omega
    exact ⟨rfl, show t 0 ≤ 1024 by omega, fun _ => show t 0 / 32 < K by rw [Nat.div_eq_of_lt (by omega)]; exact hK0 (by omega)⟩
  cases hr : pR S 404 (A 32) with
  | none =>
    rw [if_pos rfl]
    refine ⟨(hmc hr).1, (hmc hr).2, fun p hp => ?_⟩
    have kn := kpl_new hr hp
    have hn1 : JG A V g (sR (nA S p 14 4096) 404 (A 32) (some p)) := h.kp (kn.mono (by simp) (by simp) (by simp))
    have np : ∀ c, c < 92 → A c ≠ p := fun c hc z => hp (z ▸ h.hi.2.1 c (h.hi.2.2.1 c hc))
    refine main _ p _ _ hn1 ⟨hX.1, hX.2.1, fun i hi => ⟨(hX.2.2.1 i hi).1, ?_⟩, fun w hw => ⟨(hX.2.2.2 w hw).1, ?_⟩⟩ (by rw [pR_sR, if_pos ⟨rfl, rfl⟩]) kn
    · rw [pA_sR, pA_nA, if_neg (np 33 (by decide))]; exact (hX.2.2.1 i hi).2
    · rw [pA_sR, pA_nA, if_neg (np 34 (by decide))]; exact (hX.2.2.2 w hw).2
  | some r =>
    rw [if_neg (by simp)]
    exact main S r _ _ h hX hr (KPL.rf _ _ _ _ _)
end
