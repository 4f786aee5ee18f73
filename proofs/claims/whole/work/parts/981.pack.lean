/-! nights: the wants of a place; the class's packing -/
def cw (g : GH) (p : Nat) : Nat → Nat
  | 0 => 0
  | c + 1 => cw g p c + if gwa g (4 * c) = p then 1 else 0
def qf (g : GH) (p : Nat) : Nat → Nat → Nat
  | 0, _ => 0
  | c + 1, i => if gwa g (4 * c) = p ∧ cw g p c = i then c else qf g p c i
theorem cw_le {g : GH} {p : Nat} : ∀ c, cw g p c ≤ c := by
  intro c
  induction c with
  | zero => exact Nat.le_refl _
  | succ c ih => unfold cw; by_cases e : gwa g (4 * c) = p <;> simp [e] <;> omega
theorem cw_mono {g : GH} {p c : Nat} : ∀ v, cw g p c ≤ cw g p (c + v) := by
  intro v
  induction v with
  | zero => exact Nat.le_refl _
  | succ v ih => show _ ≤ cw g p (c + v) + _; omega
theorem cw_s {g : GH} {p c : Nat} (h : gwa g (4 * c) = p) : cw g p (c + 1) = cw g p c + 1 := by
  show cw g p c + (if gwa g (4 * c) = p then 1 else 0) = _
  rw [if_pos h]
theorem cw_n {g : GH} {p c : Nat} (h : ¬ gwa g (4 * c) = p) : cw g p (c + 1) = cw g p c := by
  show cw g p c + (if gwa g (4 * c) = p then 1 else 0) = _
  rw [if_neg h]; rfl
theorem qf_at {g : GH} {p c : Nat} (hp : gwa g (4 * c) = p) : ∀ W, c < W → qf g p W (cw g p c) = c := by
  intro W
  induction W with
  | zero => intro h; omega
  | succ W ih =>
    intro h
    unfold qf
    by_cases e : c = W
    · subst e; rw [if_pos ⟨hp, rfl⟩]
    · have h1 := cw_s hp
      have h2 := cw_mono (g := g) (p := p) (c := c + 1) (W - (c + 1))
      rw [show c + 1 + (W - (c + 1)) = W by omega] at h2
      rw [if_neg (fun z => by have := z.2; omega)]
      exact ih (by omega)
theorem qf_ok {g : GH} {p : Nat} : ∀ W i, i < cw g p W → qf g p W i < W ∧ gwa g (4 * qf g p W i) = p ∧ cw g p (qf g p W i) = i := by
  intro W
  induction W with
  | zero => intro i h; exact absurd h (Nat.not_lt_zero i)
  | succ W ih =>
    intro i h
    unfold qf
    by_cases e : gwa g (4 * W) = p ∧ cw g p W = i
    · rw [if_pos e]; exact ⟨by omega, e.1, e.2⟩
    · rw [if_neg e]
      have : i < cw g p W := by
        by_cases e2 : gwa g (4 * W) = p
        · rw [cw_s e2] at h
          have : cw g p W ≠ i := fun z => e ⟨e2, z⟩
          omega
        · rw [cw_n e2] at h; exact h
      obtain ⟨a, c, d⟩ := ih i this
      exact ⟨by omega, c, d⟩
section
variable {A : Nat → Nat} {n : Nat} {g : GH} {S S0 : pq_S} {V : Nat → Prop} {m : Nat} {q : Nat → Nat} {D K p : Nat} {t : Nat → Nat}
theorem x_gath (hn : 20000 ≤ n) (h : JG A V g S) (hp : p < 100) : ∃ S', m_X4_gather n (A 32) (nI p) S = some S' ∧ FX [405] [] [33] A S S' ∧ pI S' 405 (A 32) = nI (cw g p (gW g)) ∧ ∀ i, i < cw g p (gW g) → pA S' (A 33) i = nI (qf g p (gW g) i) := by
  have hW := h.gb.b.2.1
  have loop : ∀ v c f S1, c + v = gW g → v < f → FX [405] [] [33] A S S1 → pI S1 405 (A 32) = nI (cw g p c) → (∀ i, i < cw g p c → pA S1 (A 33) i = nI (qf g p (gW g) i)) → ∃ S', b_X4_gather_7 n f (A 32) (nI p) (nI c) S1 = some S' ∧ FX [405] [] [33] A S S' ∧ pI S' 405 (A 32) = nI (cw g p (gW g)) ∧ ∀ i, i < cw g p (gW g) → pA S' (A 33) i = nI (qf g p (gW g) i) := by
    intro v
    induction v with
    | zero =>
      intro c f S1 h1 h2 k e1 e2
      obtain ⟨f, rfl⟩ : ∃ g, f = g + 1 := ⟨f - 1, by omega⟩
      have hJ : JG A V g S1 := h.kp (k.kpl.mono (by decide) (by simp) (by decide))
      have l1 := hJ.lay
      obtain rfl : c = gW g := by omega
      refine ⟨S1, ?_, k, e1, e2⟩
      rw [b_X4_gather_7, l1.r32_400, ob_mk, l1.r3_700, ob_mk, l1.r4_101, ob_mk, hJ.cx.1.2.1, if_pos (nI_le (Nat.le_refl _) (by omega))]
    | succ v ih =>
      intro c f S1 h1 h2 k e1 e2
      obtain ⟨f, rfl⟩ : ∃ g, f = g + 1 := ⟨f - 1, by omega⟩
      have hJ : JG A V g S1 := h.kp (k.kpl.mono (by decide) (by simp) (by decide))
      have l1 := hJ.lay
      have hcl := cw_le (g := g) (p := p) c
      have hpl : gwa g (4 * c) < 100 := by have := (h.gb.2.2.1 c (by omega)).1; have := h.gb.b.1; omega
      rw [b_X4_gather_7, l1.r32_400, ob_mk, l1.r3_700, ob_mk, l1.r4_101, ob_mk, hJ.cx.1.2.1, if_neg (nI_ge (by omega) (by omega)), ob_mk, l1.r3_700, ob_mk, l1.r4_101, ob_mk, show m_X9_at n (A 7) (nI c) 0 S1 = some (nI (gwa g (4 * c)), S1) from hJ.xv.wa (c := 0) (by omega) (by decide), cb_mk]
      by_cases e : gwa g (4 * c) = p
      · rw [if_pos (by rw [e]), l1.r32_401, ob_mk, l1.n33, e1, if_neg (show ¬ Int32.ofNat 12 ≤ nI (cw g p c) from nI_ge (by omega) (by decide)), ob_mk, l1.n33, ck_pos (ix_nI (by omega) (by decide)), lt_mk, nI_clamp (by omega), b_X4_gather_75, show nI c + 1 = nI (c + 1) from nI_1 c]
        have e405 : pI (sA S1 (A 33) (cw g p c) (nI c)) 405 (A 32) + (1 : Int32) = nI (cw g p c + 1) := by
          show pI S1 405 (A 32) + _ = _
          rw [e1]; exact nI_1 _
        rw [e405]
        refine ih (c + 1) f _ (by omega) (by omega) ((k.wA (by decide)).wI (by decide)) (by rw [pI_e, cw_s e]) (fun i hi => ?_)
        rw [cw_s e] at hi
        rw [pA_sI, pA_sA]
        by_cases ei : i = cw g p c
        · rw [if_pos ⟨rfl, ei⟩, ei, qf_at e (gW g) (by omega)]
        · rw [if_neg (fun z => ei z.2)]; exact e2 i (by omega)
      · rw [if_neg (fun z => e ((nI_eq (by omega) (by omega)).mp z)), b_X4_gather_75, show nI c + 1 = nI (c + 1) from nI_1 c]
        exact ih (c + 1) f S1 (by omega) (by omega) k (by rw [cw_n e]; exact e1) (fun i hi => e2 i (by rw [cw_n e] at hi; exact hi))
  exact loop (gW g) 0 n _ (by omega) (by omega) ((FX.rf _ _ _ _ _).wI (by decide)) (pI_e ..) (fun i hi => absurd hi (Nat.not_lt_zero i))
theorem w_p52 {Q : pq_S → Prop} (hn : 20000 ≤ n) (hD : D ≤ 24) (hK : K ≤ 12) : ∀ v k t f S bc bs, k + v = m → v < f → NS A V g m q D K t S → FB (fun i => gwa g (4 * q i + 1)) D K v k t → (∀ S' a, LXO (fun i => gwa g (4 * q i + 1)) D K v k t a → (∀ i, k ≤ i → i < m → pA S' (A 35) i = nI (a i)) → (∀ i, i < k → pA S' (A 35) i = pA S (A 35) i) → KPL [] [] [34, 35] A S S' → (∃ t', NS A V g m q D K t' S') → Q S') → pb_X4_pack_52 n f (A 32) (nI D) (nI k) S bc bs Q := by
  intro v
  induction v with
  | zero =>
    intro k t f S bc bs h1 h2 hS hf hQ
    obtain ⟨f, rfl⟩ : ∃ g, f = g + 1 := ⟨f - 1, by omega⟩
    have hm := hS.2.1.1
    rw [pb_X4_pack_52, hS.2.1.2.1, if_pos (nI_le (by omega) (by omega))]
    exact hQ S (fun _ => 0) trivial (fun i h1 h2 => by omega) (fun _ _ => rfl) (KPL.rf _ _ _ _ _) ⟨t, hS⟩
  | succ v ih =>
    intro k t f S bc bs h1 h2 hS hf hQ
    obtain ⟨f, rfl⟩ : ∃ g, f = g + 1 := ⟨f - 1, by omega⟩
    have hm := hS.2.1.1
    have lS := hS.1.lay
    obtain ⟨qk1, qk2⟩ := hS.2.1.2.2.1 k (by omega)
    rw [pb_X4_pack_52, hS.2.1.2.1, if_neg (nI_ge (by omega) (by omega))]
    refine ⟨A 33, lS.r32_401, ?_⟩
    rw [lS.n33, if_neg (show ¬ Int32.ofNat 12 ≤ nI k from nI_ge (by omega) (by decide))]
    refine ⟨A 35, lS.r32_403, 0, 0, Nat.zero_le _, Nat.zero_le _, ?_⟩
    unfold wp_X4_leastNight
    refine ⟨_, _, x_hrs (n := n) hS.1 (by omega) qk2 qk1, ?_⟩
    refine w_l9 (n := n) (k := k) (v := v) hn hD hK (by omega) hf (fun S' w w1 w2 w3 w4 kS' hS' => ?_) hS K 0 n S 0 0 (by omega) (by omega) (KPL.rf _ _ _ _ _) hS (fun u hu => by omega)
    have l' := hS'.1.lay
    refine ⟨by rw [l'.n35]; exact ix_nI (by omega) (by decide), ?_⟩
    rw [nI_clamp (by omega), show nI k + 1 = nI (k + 1) from nI_1 k]
    have kw : KPL [] [] [34, 35] A S' (sA S' (A 35) k (nI w)) := KPL.wA (KPL.rf _ _ _ _ _) (by decide)
    have hW : NS A V g m q D K (up1 t w (gwa g (4 * q k + 1))) (sA S' (A 35) k (nI w)) := by
      refine ⟨hS'.1.kp (kw.mono (by simp) (by simp) (by decide)), ⟨hm, hS'.2.1.2.1, fun i hi => ⟨(hS'.2.1.2.2.1 i hi).1, ?_⟩, fun x hx => ⟨(hS'.2.1.2.2.2 x hx).1, ?_⟩⟩, hS'.2.2.1, hS'.2.2.2⟩
      · rw [pA_sA, if_neg (fun z => absurd (l'.2.2.2.2 _ _ (by decide) (by decide) z.1) (by decide))]; exact (hS'.2.1.2.2.1 i hi).2
      · rw [pA_sA, if_neg (fun z => absurd (l'.2.2.2.2 _ _ (by decide) (by decide) z.1) (by decide))]; exact (hS'.2.1.2.2.2 x hx).2
    have h404 : pR S 404 (A 32) ≠ some (A 35) := fun z => (hS.1.hi.2.2.2.2.1 _ z).2.2 35 (hS.1.hi.2.2.1 35 (by decide)) rfl
    refine ih (k + 1) _ f _ _ _ (by omega) (by omega) hW w3 (fun S2 a a1 a2 a3 a4 a5 => hQ S2 (fun i => if i = k then w else a i) ⟨?_, ?_⟩ (fun i i1 i2 => ?_) (fun i hi => ?_) (hS.1.tr (hS.1.tr (kS'.mono (by simp) (by simp) (by decide)) kw) a4) a5)
    · show (if k = k then w else a k) < K ∧ _
      rw [if_pos rfl]
      have ek : (fun i => if i = k then w else a i) k = w := if_pos rfl
      rw [ek]
      exact ⟨w1, w2, w3, w4⟩
    · have ek : (fun i => if i = k then w else a i) k = w := if_pos rfl
      rw [ek]
      exact LXO.cg v (k + 1) _ a _ (fun i hi => (if_neg (by omega)).symm) a1
    · by_cases e : i = k
      · rw [e, a3 k (by omega), pA_sA, if_pos ⟨rfl, rfl⟩]
        exact congrArg nI (if_pos rfl).symm
      · rw [a2 i (by omega) i2]
        exact congrArg nI (if_neg e).symm
    · rw [a3 i (by omega), pA_sA, if_neg (fun z => by have := z.2; omega)]
      exact kS'.2.2.2.2.2.1 _ i (hS.1.hi.2.1 35 (hS.1.hi.2.2.1 35 (by decide))) (fun j hj z => by
        rw [List.mem_singleton] at hj
        subst hj
        exact absurd (lS.2.2.2.2 _ _ (by decide) (by decide) z) (by decide)) h404
end
