/-! nights: what comes out, on both sides -/
theorem fb_mono {h : Nat → Nat} {D K K' : Nat} (hk : K ≤ K') : ∀ v k t, FB h D K v k t → FB h D K' v k t := by
  intro v
  induction v with
  | zero => intro k t _; trivial
  | succ v ih =>
    rintro k t ⟨w, h1, h2, h3⟩
    exact ⟨w, by omega, h2, ih _ _ h3⟩
theorem fb_all {h : Nat → Nat} {D K : Nat} : ∀ v k t, FB h D K v k t → ∀ i, i < v → h (k + i) ≤ D := by
  intro v
  induction v with
  | zero => intro k t _ i hi; omega
  | succ v ih =>
    rintro k t ⟨w, h1, h2, h3⟩ i hi
    by_cases e : i = 0
    · subst e; exact Nat.le_trans (Nat.le_add_left _ _) h2
    · have := ih _ _ h3 (i - 1) (by omega)
      rw [show k + 1 + (i - 1) = k + i by omega] at this
      exact this
def hq (g : GH) (p : Nat) : Nat → Nat := fun i => gwa g (4 * qf g p (gW g) i + 1)
def NOO (g : GH) (p D : Nat) : Prop := ¬ FB (hq g p) D (cw g p (gW g)) (cw g p (gW g)) 0 (fun _ => 0)
def YOO (g : GH) (p D K : Nat) (a : Nat → Nat) : Prop := FB (hq g p) D K (cw g p (gW g)) 0 (fun _ => 0) ∧ K ≤ cw g p (gW g) ∧ (∀ M, M < K → ¬ FB (hq g p) D M (cw g p (gW g)) 0 (fun _ => 0)) ∧ LXO (hq g p) D K (cw g p (gW g)) 0 (fun _ => 0) a
theorem YOO.uq {g : GH} {p D K K' : Nat} {a a' : Nat → Nat} (h : YOO g p D K a) (h' : YOO g p D K' a') : K = K' ∧ ∀ i, i < cw g p (gW g) → a i = a' i := by
  have e : K = K' := by
    rcases Nat.lt_trichotomy K K' with z | z | z
    · exact absurd h.1 (h'.2.2.1 _ z)
    · exact z
    · exact absurd h'.1 (h.2.2.1 _ z)
  subst e
  exact ⟨rfl, fun i hi => LXO.uq _ _ _ _ _ h.2.2.2 h'.2.2.2 i (Nat.zero_le _) (by omega)⟩
theorem YOO.no {g : GH} {p D K : Nat} {a : Nat → Nat} (h : YOO g p D K a) (h' : NOO g p D) : False := h' (fb_mono h.2.1 _ _ _ h.1)
section
variable {A : Nat → Nat} {n : Nat} {g : GH} {S T : pq_S} {V : Nat → Prop} {D p : Nat}
/-- what the reference comes to -/
def RNO (A : Nat → Nat) (g : GH) (p D : Nat) (T : pq_S) (o : Option (Int32 × pq_S)) : Prop := ∃ T' r, o = some (r, T') ∧ FX [1261] [] [85, 86, 87] A T T' ∧ ((NOO g p D ∧ r = -1) ∨ ∃ K a, YOO g p D K a ∧ r = nI K ∧ ∀ i, i < cw g p (gW g) → pA T' (A 86) (qf g p (gW g) i) = nI (a i))
theorem r_capl {k46 : Nat → Int32 → Int32 → pq_S → Option (Int32 × pq_S)} {K : Nat} (hD : D ≤ 24) (hK : K ≤ 12) : ∀ v w f T, w + v = K → v < f → LAY A T → (∀ i, i < w → pA T (A 87) i = nI D) → ∃ T', b_X12_findNights_85 n k46 f (A 60) (nI D) (nI K) (nI w) T = b_X12_findNights_105 n k46 (A 60) (nI D) (nI K) T' ∧ FX [] [] [87] A T T' ∧ (∀ i, i < K → pA T' (A 87) i = nI D) := by
  intro v
  induction v with
  | zero =>
    intro w f T h1 h2 lT h3
    obtain ⟨f, rfl⟩ : ∃ g, f = g + 1 := ⟨f - 1, by omega⟩
    refine ⟨T, ?_, FX.rf _ _ _ _ _, fun i hi => h3 i (by omega)⟩
    rw [b_X12_findNights_85, if_pos (nI_le (by omega) (by omega))]
  | succ v ih =>
    intro w f T h1 h2 lT h3
    obtain ⟨f, rfl⟩ : ∃ g, f = g + 1 := ⟨f - 1, by omega⟩
    have k1 : FX [] [] [87] A T (sA T (A 87) w (nI D)) := (FX.rf _ _ _ _ _).wA (by decide)
    obtain ⟨T', a1, a2, a3⟩ := ih (w + 1) f (sA T (A 87) w (nI D)) (by omega) (by omega) (k1.lay lT (by decide) (by decide)) (fun i hi => by
      rw [pA_sA]
      by_cases e : i = w
      · rw [if_pos ⟨rfl, e⟩]
      · rw [if_neg (fun z => e z.2)]; exact h3 i (by omega))
    refine ⟨T', ?_, k1.tr a2, a3⟩
    rw [b_X12_findNights_85, if_neg (nI_ge (by omega) (by omega)), lT.r60_1260, ob_mk, lT.n87, ck_pos (ix_nI (by omega) (by decide)), nI_clamp (by omega), show nI w + 1 = nI (w + 1) from nI_1 w]
    exact a1
theorem r_find74 (hn : 20000 ≤ n) (hD : D ≤ 24) (hg : GB g) {T0 : pq_S} : ∀ v x f T, x + v = cw g p (gW g) + 1 → v < f → NQ A g (cw g p (gW g)) (qf g p (gW g)) T → FX [1261] [] [85, 86, 87] A T0 T → (∀ M, M < x → ¬ FB (hq g p) D M (cw g p (gW g)) 0 (fun _ => 0)) → RNO A g p D T0 (b_X12_findNights_74 n f (A 60) (nI D) (nI x) T) := by
  intro v
  induction v with
  | zero =>
    intro x f T h1 h2 hQ k hno
    obtain ⟨f, rfl⟩ : ∃ g, f = g + 1 := ⟨f - 1, by omega⟩
    have hm := hQ.2.1
    rw [b_X12_findNights_74, hQ.2.2.1, if_pos (nI_lt (by omega) (by omega))]
    exact ⟨T, -1, rfl, k, Or.inl ⟨hno _ (by omega), rfl⟩⟩
  | succ v ih =>
    intro x f T h1 h2 hQ k hno
    obtain ⟨f, rfl⟩ : ∃ g, f = g + 1 := ⟨f - 1, by omega⟩
    have hm := hQ.2.1
    rw [b_X12_findNights_74, hQ.2.2.1, if_neg (nI_nlt (by omega) (by omega))]
    obtain ⟨T1, a1, a2, a3⟩ := r_capl (n := n) (k46 := b_X12_findNights_74 n f) (A := A) (D := D) (K := x) hD (by omega) x 0 n T (by omega) (by omega) hQ.1 (fun i hi => by omega)
    rw [show (0 : Int32) = nI 0 from rfl, a1]
    have hQ1 := hQ.fx (a2.mono (by simp) (by simp) (by decide))
    obtain ⟨T', r, r1, r2, _, _, r5⟩ := r_fits (n := n) (m := cw g p (gW g)) (q := qf g p (gW g)) (K := x) hn hD (by omega) hg (cw g p (gW g)) 0 64 (fun _ => 0) T1 (by omega) (by omega) hQ1 ⟨fun _ _ => Nat.zero_le _, fun w hw => by rw [a3 w hw]; rfl⟩
    have kk : FX [1261] [] [85, 86, 87] A T0 T' := (k.tr (a2.mono (by simp) (by simp) (by decide))).tr (r2.mono (by simp) (by simp) (by decide))
    unfold b_X12_findNights_105
    rw [show m_X12_fitsOn n (A 60) 0 (nI x) T1 = some (r, T') from r1, cb_mk]
    rcases r5 with ⟨rfl, f1, a, f2, f3⟩ | ⟨rfl, f1⟩
    · rw [if10]
      exact ⟨T', nI x, rfl, kk, Or.inr ⟨x, a, ⟨f1, by omega, hno, f2⟩, rfl, fun i hi => f3 i (Nat.zero_le _) (by omega)⟩⟩
    · rw [if00, show nI x + 1 = nI (x + 1) from nI_1 x]
      refine ih (x + 1) f T' (by omega) (by omega) (hQ1.fx r2) kk (fun M hM => ?_)
      by_cases e : M = x
      · rw [e]; exact f1
      · exact hno M (by omega)
theorem r_find (hn : 20000 ≤ n) (hD : D ≤ 24) (hp : p < 100) (lT : LAY A T) (cm : CM g T A) (hg : GB g) : RNO A g p D T (m_X12_findNights n (A 60) (nI p) (nI D) T) := by
  have hW := hg.b.2.1
  have loop : ∀ v c f T1, c + v = gW g → v < f → FX [1261] [] [85, 86, 87] A T T1 → pI T1 1261 (A 60) = nI (cw g p c) → (∀ i, i < cw g p c → pA T1 (A 85) i = nI (qf g p (gW g) i)) → RNO A g p D T (b_X12_findNights_7 n f (A 60) (nI p) (nI D) (nI c) T1) := by
    intro v
    induction v with
    | zero =>
      intro c f T1 h1 h2 k e1 e2
      obtain ⟨f, rfl⟩ : ∃ g, f = g + 1 := ⟨f - 1, by omega⟩
      have l1 := k.lay lT (by decide) (by decide)
      obtain rfl : c = gW g := by omega
      have hcl := cw_le (g := g) (p := p) (gW g)
      rw [b_X12_findNights_7, k.I lT (by decide) (by decide) (by decide), cm.1.2.1, if_pos (nI_le (Nat.le_refl _) (by omega)), b_X12_findNights_72]
      exact r_find74 hn hD hg (cw g p (gW g) + 1) 0 n T1 (by omega) (by omega) ⟨l1, by omega, e1, fun i hi => ⟨(qf_ok _ i hi).1, e2 i hi⟩, fun i hi => by rw [k.W lT (by decide) (by decide)]; exact cm.2.2.1 i hi, fun i j hi hj z => by
        have a := (qf_ok (g := g) (p := p) _ i hi).2.2
        have c := (qf_ok (g := g) (p := p) _ j hj).2.2
        rw [z] at a
        omega⟩ k (fun M hM => by omega)
    | succ v ih =>
      intro c f T1 h1 h2 k e1 e2
      obtain ⟨f, rfl⟩ : ∃ g, f = g + 1 := ⟨f - 1, by omega⟩
      have l1 := k.lay lT (by decide) (by decide)
      have hcl := cw_le (g := g) (p := p) c
      have hwc := hg.2.2.1 c (by omega)
      have hP := hg.b.1
      have w68 : ∀ i, i < 4 * gW g → pA T1 (A 68) i = nI (gwa g i) := fun i hi => by rw [k.W lT (by decide) (by decide)]; exact cm.2.2.1 i hi
      rw [b_X12_findNights_7, k.I lT (by decide) (by decide) (by decide), cm.1.2.1, if_neg (nI_ge (by omega) (by omega)), l1.r60_1215, ob_mk, l1.n68, show (4 : Int32) * nI c = nI (4 * c) from nI_mulp 4 c, ck_pos (ix_nI (by omega) (by decide)), nI_clamp (by omega), w68 _ (by omega)]
      by_cases e : gwa g (4 * c) = p
      · rw [if_pos (by rw [e]), ob_mk, l1.n68, show nI (4 * c) + (1 : Int32) = nI (4 * c + 1) from nI_1 _, ck_pos (ix_nI (by omega) (by decide)), nI_clamp (by omega), w68 _ (by omega)]
        by_cases e3 : gwa g (4 * c + 1) ≤ D
        · rw [if_pos (nI_le e3 (by omega)), l1.r60_1252, ob_mk, l1.n85, e1, ck_pos (ix_nI (by omega) (by decide)), lt_mk, nI_clamp (by omega), b_X12_findNights_66, show nI c + 1 = nI (c + 1) from nI_1 c]
          have e61 : pI (sA T1 (A 85) (cw g p c) (nI c)) 1261 (A 60) + (1 : Int32) = nI (cw g p c + 1) := by
            show pI T1 1261 (A 60) + _ = _
            rw [e1]; exact nI_1 _
          rw [e61]
          refine ih (c + 1) f _ (by omega) (by omega) ((k.wA (by decide)).wI (by decide)) (by rw [pI_e, cw_s e]) (fun i hi => ?_)
          rw [cw_s e] at hi
          rw [pA_sI, pA_sA]
          by_cases ei : i = cw g p c
          · rw [if_pos ⟨rfl, ei⟩, ei, qf_at e (gW g) (by omega)]
          · rw [if_neg (fun z => ei z.2)]; exact e2 i (by omega)
        · rw [if_neg (nI_ge (by omega) (by omega))]
          refine ⟨T1, -1, rfl, k, Or.inl ⟨fun hF => ?_, rfl⟩⟩
          have hlt : cw g p c < cw g p (gW g) := by
            have := cw_mono (g := g) (p := p) (c := c + 1) (gW g - (c + 1))
            rw [show c + 1 + (gW g - (c + 1)) = gW g by omega, cw_s e] at this
            omega
          have := fb_all _ _ _ hF (cw g p c) hlt
          unfold hq at this
          rw [Nat.zero_add, qf_at e (gW g) (by omega)] at this
          omega
      · rw [if_neg (fun z => e ((nI_eq (by omega) (by omega)).mp z)), b_X12_findNights_66, show nI c + 1 = nI (c + 1) from nI_1 c]
        exact ih (c + 1) f T1 (by omega) (by omega) k (by rw [cw_n e]; exact e1) (fun i hi => e2 i (by rw [cw_n e] at hi; exact hi))
  exact loop (gW g) 0 n _ (by omega) (by omega) ((FX.rf _ _ _ _ _).wI (by decide)) (pI_e ..) (fun i hi => absurd hi (Nat.not_lt_zero i))
end
