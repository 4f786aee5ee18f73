/-! nights: the least night of a thing, class -/
section
variable {A : Nat → Nat} {n : Nat} {g : GH} {S S0 : pq_S} {V : Nat → Prop} {m : Nat} {q : Nat → Nat} {D K : Nat} {t : Nat → Nat}
theorem x_take {w x y : Nat} {z : Int32} (lS : LAY A S) (hw : w < 12) (e : pA S (A 34) w = nI x) (hz : nI x + z = nI y) : m_X4_take n (A 32) (nI w) z S = some (sA S (A 34) w (nI y)) := by
  unfold m_X4_take
  rw [if_neg (nI_pos (by omega)), lS.r32_402, ob_mk, lS.n34, if_neg (show ¬ Int32.ofNat 12 ≤ nI w from nI_ge (by omega) (by decide)), ob_mk, lS.n34, ck_pos (ix_nI hw (by decide)), ck_pos (ix_nI hw (by decide)), nI_clamp (by omega), e, hz, lt_mk]
/-- a state of the search -/
def NS (A : Nat → Nat) (V : Nat → Prop) (g : GH) (m : Nat) (q : Nat → Nat) (D K : Nat) (t : Nat → Nat) (S : pq_S) : Prop := JG A V g S ∧ NX A g m q D K t S ∧ pI S 406 (A 32) = nI K ∧ pR S 404 (A 32) ≠ none
theorem NS.kp {S' : pq_S} (h : NS A V g m q D K t S) (k : KPL [] [] [] A S S') : NS A V g m q D K t S' := by
  have hr404 : ∀ c, c < 92 → pR S 404 (A 32) ≠ some (A c) := fun c hc z => (h.1.hi.2.2.2.2.1 _ z).2.2 c (h.1.hi.2.2.1 c hc) rfl
  have mem : ∀ c, c < 92 → A c ∈ pL S := fun c hc => h.1.hi.2.1 c (h.1.hi.2.2.1 c hc)
  have kI : ∀ f c, c < 92 → pI S' f (A c) = pI S f (A c) := fun f c hc => k.2.2.2.2.1 f _ (by simp) (by simp) (mem c hc)
  have kA : ∀ c i, c < 92 → pA S' (A c) i = pA S (A c) i := fun c i hc => k.2.2.2.2.2.1 _ i (mem c hc) (by simp) (hr404 c hc)
  refine ⟨h.1.kp (k.mono (by simp) (by simp) (by simp)), ⟨h.2.1.1, by rw [kI _ _ (by decide)]; exact h.2.1.2.1, fun i hi => ⟨(h.2.1.2.2.1 i hi).1, by rw [kA _ _ (by decide)]; exact (h.2.1.2.2.1 i hi).2⟩, fun w hw => ⟨(h.2.1.2.2.2 w hw).1, by rw [kA _ _ (by decide)]; exact (h.2.1.2.2.2 w hw).2⟩⟩, by rw [kI _ _ (by decide)]; exact h.2.2.1, ?_⟩
  rcases k.2.2.2.2.2.2 with z | ⟨z, _⟩
  · rw [z]; exact h.2.2.2
  · exact absurd z h.2.2.2
theorem NS.tk {w y : Nat} {t' : Nat → Nat} (h : NS A V g m q D K t S) (ht : ∀ x, x < K → t' x ≤ D) (h1 : t' w = y) (h2 : ∀ x, x ≠ w → t' x = t x) : NS A V g m q D K t' (sA S (A 34) w (nI y)) ∧ KPL [] [] [34] A S (sA S (A 34) w (nI y)) := by
  have k : KPL [] [] [34] A S (sA S (A 34) w (nI y)) := KPL.wA (KPL.rf _ _ _ _ _) (by decide)
  refine ⟨⟨h.1.kp (k.mono (by simp) (by simp) (by decide)), ⟨h.2.1.1, h.2.1.2.1, fun i hi => ⟨(h.2.1.2.2.1 i hi).1, ?_⟩, fun x hx => ⟨ht x hx, ?_⟩⟩, h.2.2.1, h.2.2.2⟩, k⟩
  · rw [pA_sA, if_neg (fun z => absurd (h.1.lay.2.2.2.2 _ _ (by decide) (by decide) z.1) (by decide))]; exact (h.2.1.2.2.1 i hi).2
  · rw [pA_sA]
    by_cases e : x = w
    · rw [if_pos ⟨rfl, e⟩, e, h1]
    · rw [if_neg (fun z => e z.2), h2 x e]; exact (h.2.1.2.2.2 x hx).2
theorem w_l9 {k v : Nat} {Q : Int32 → pq_S → Prop} (hn : 20000 ≤ n) (hD : D ≤ 24) (hK : K ≤ 12) (hkv : k + 1 + v = m) (hfb : FB (fun i => gwa g (4 * q i + 1)) D K (v + 1) k t) (hQ : ∀ S' w, w < K → t w + gwa g (4 * q k + 1) ≤ D → FB (fun i => gwa g (4 * q i + 1)) D K v (k + 1) (up1 t w (gwa g (4 * q k + 1))) → (∀ u, u < w → ¬ (t u + gwa g (4 * q k + 1) ≤ D ∧ FB (fun i => gwa g (4 * q i + 1)) D K v (k + 1) (up1 t u (gwa g (4 * q k + 1))))) → KPL [] [] [34] A S0 S' → NS A V g m q D K (up1 t w (gwa g (4 * q k + 1))) S' → Q (nI w) S') (h0 : NS A V g m q D K t S0) : ∀ c w f S bc bs, w + c = K → c < f → KPL [] [] [34] A S0 S → NS A V g m q D K t S → (∀ u, u < w → ¬ (t u + gwa g (4 * q k + 1) ≤ D ∧ FB (fun i => gwa g (4 * q i + 1)) D K v (k + 1) (up1 t u (gwa g (4 * q k + 1))))) → pb_X4_leastNight_9 n f (A 32) (nI k) (nI D) (nI (gwa g (4 * q k + 1))) (nI w) S bc bs Q := by
  have hm := h0.2.1.1
  have hqk := h0.2.1.2.2.1 k (by omega)
  have hg12 := h0.1.gb.2.2.1 _ hqk.1
  intro c
  induction c with
  | zero =>
    intro w f S bc bs h1 h2 kS hS hno
    obtain ⟨u, u1, u2, u3⟩ := hfb
    exact absurd ⟨u2, u3⟩ (hno u (by omega))
  | succ c ih =>
    intro w f S bc bs h1 h2 kS hS hno
    obtain ⟨f, rfl⟩ : ∃ g, f = g + 1 := ⟨f - 1, by omega⟩
    obtain ⟨t1, t2⟩ := hS.2.1.2.2.2 w (by omega)
    have lS := hS.1.lay
    rw [pb_X4_leastNight_9, hS.2.2.1, if_neg (nI_ge (by omega) (by omega))]
    have next : ∀ S2 bc bs, KPL [] [] [34] A S0 S2 → NS A V g m q D K t S2 → ¬ (t w + gwa g (4 * q k + 1) ≤ D ∧ FB (fun i => gwa g (4 * q i + 1)) D K v (k + 1) (up1 t w (gwa g (4 * q k + 1)))) → pb_X4_leastNight_66 n (pb_X4_leastNight_9 n f) (A 32) (nI k) (nI D) (nI (gwa g (4 * q k + 1))) (nI w) S2 bc bs Q := by
      intro S2 bc bs a1 a2 a3
      unfold pb_X4_leastNight_66
      rw [show nI w + 1 = nI (w + 1) from nI_1 w]
      refine ih (w + 1) f S2 bc bs (by omega) (by omega) a1 a2 (fun u hu => ?_)
      by_cases e : u = w
      · rw [e]; exact a3
      · exact hno u (by omega)
    refine ⟨_, _, x_tk lS (by omega) t2, ?_⟩
    rw [nI_add]
    by_cases hfit : t w + gwa g (4 * q k + 1) ≤ D
    · rw [if_neg (nI_nlt (by omega) (by omega))]
      have htU : ∀ x, x < K → up1 t w (gwa g (4 * q k + 1)) x ≤ D := fun x hx => by
        unfold up1
        by_cases e : x = w
        · rw [if_pos e, e]; exact hfit
        · rw [if_neg e]; exact (hS.2.1.2.2.2 x hx).1
      obtain ⟨hU, kU⟩ := hS.tk (w := w) (y := t w + gwa g (4 * q k + 1)) (t' := up1 t w (gwa g (4 * q k + 1))) htU (if_pos rfl) (fun x hx => if_neg hx)
      refine ⟨_, x_take (n := n) (y := t w + gwa g (4 * q k + 1)) lS (by omega) t2 (nI_add _ _), 0, 0, Nat.zero_le _, Nat.zero_le _, ?_⟩
      rw [hU.2.2.1, show nI k + (1 : Int32) = nI (k + 1) from nI_1 k]
      have k0U := h0.1.tr kS kU
      refine w_last (n := n) (k := k + 1) (v := v) hn hU.1 hD hK hU.2.1 (fun _ => by omega) hkv (fun z => absurd z hU.2.2.2) (fun hv => ?_) (fun S' R' hv kR hR hle hne => ?_)
      · rw [if_neg (by decide)]
        exact hQ _ w (by omega) hfit (by rw [hv]; trivial) hno k0U hU
      · have hS' := hU.kp kR
        have kS' := h0.1.tr k0U (kR.mono (by simp) (by simp) (by simp))
        have hiff := rch_fb (K := K) hD hK (by omega) hR htU
        by_cases e : R' (2 ^ v - 1) < 1024
        · have hlt := hiff.mp e
          rw [if_pos e, if_neg (fun z => by have := (nI_eq (b := 1024) (by omega) (by decide)).mp z; omega)]
          exact hQ _ w (by omega) hfit hlt hno kS' hS'
        · rw [if_neg e, if_pos rfl]
          have b34 := (hS'.2.1.2.2.2 w (by omega)).2
          have hup : up1 t w (gwa g (4 * q k + 1)) w = t w + gwa g (4 * q k + 1) := if_pos rfl
          rw [hup] at b34
          obtain ⟨hB, kB⟩ := hS'.tk (w := w) (y := t w) (t' := t) (fun x hx => (hS.2.1.2.2.2 x hx).1) rfl (fun x hx => (if_neg hx).symm)
          refine ⟨_, x_take (n := n) (y := t w) hS'.1.lay (by omega) b34 (by rw [nI_negadd (by omega)]; congr 1; omega), ?_⟩
          exact next _ _ _ (h0.1.tr kS' kB) hB (fun z => e (hiff.mpr z.2))
    · rw [if_pos (nI_lt (by omega) (by omega))]
      exact next S _ _ kS hS (fun z => hfit z.1)
end
