def pA2 (A : Nat → Nat) (b q r : Nat) (c : Nat) : Nat := if c = b then q else if c = b + 1 then r else A c
def pV2 (V : Nat → Prop) (b : Nat) (c : Nat) : Prop := V c ∨ c = b ∨ c = b + 1
theorem HS.past {A : Nat → Nat} {V : Nat → Prop} {S : pq_S} {x q r : Nat} (hs : HS A V S) (hx : x < 3) (hv : ¬ V (cP (x + 1))) (hq : q ∉ pL S) (hr : r ∉ pL (nO S q 5)) : HS (pA2 A (cP (x + 1)) q r) (pV2 V (cP (x + 1))) (sQ (sR (nA (nO S q 5) r 16 17) 500 q (some r)) (A 58) x (some q)) ∧ GRW A V (pA2 A (cP (x + 1)) q r) (pV2 V (cP (x + 1))) S (sQ (sR (nA (nO S q 5) r 16 17) 500 q (some r)) (A 58) x (some q)) := by
  have hb : cP (x + 1) = 100 + 2 * x := by unfold cP; rw [if_neg (by omega)]; omega
  have hb2 : cQ (x + 1) = cP (x + 1) + 1 := by unfold cP cQ; rw [if_neg (by omega), if_neg (by omega)]; omega
  have hr2 := hr
  rw [pL_nO, List.mem_append, List.mem_singleton, not_or] at hr2
  obtain ⟨hr0, hrq⟩ := hr2
  have z3 : AGO S (sR (nA (nO S q 5) r 16 17) 500 q (some r)) := (((AGO.rf S).nO hq).nA hr).sR hq
  have tq : TY (sR (nA (nO S q 5) r 16 17) 500 q (some r)) q 5 := ⟨by show q ∈ pL (nA (nO S q 5) r 16 17); rw [pL_nA, pL_nO]; simp, by show pK (nA (nO S q 5) r 16 17) q = 5; rw [pK_nA, if_neg (fun e => hrq e.symm), pK_nO, if_pos rfl]⟩
  have tr : TY (sR (nA (nO S q 5) r 16 17) 500 q (some r)) r 16 := ⟨by show r ∈ pL (nA (nO S q 5) r 16 17); rw [pL_nA]; simp, by show pK (nA (nO S q 5) r 16 17) r = 16; rw [pK_nA, if_pos rfl]⟩
  have rq : pR (sR (nA (nO S q 5) r 16 17) 500 q (some r)) 500 q = some r := by rw [pR_sR, if_pos ⟨rfl, rfl⟩]
  have nr : pN (sR (nA (nO S q 5) r 16 17) 500 q (some r)) r = 17 := by show pN (nA (nO S q 5) r 16 17) r = 17; rw [pN_nA, if_pos rfl]
  have qr : ∀ i, pQ (sR (nA (nO S q 5) r 16 17) 500 q (some r)) r i = none := fun i => by show pQ (nA (nO S q 5) r 16 17) r i = none; rw [pQ_nA, if_pos rfl]
  generalize sR (nA (nO S q 5) r 16 17) 500 q (some r) = T at *
  obtain ⟨h1, h2, h3, h4, h5, h6, h7⟩ := hs
  have hdead : pQ S (A 58) x = none ∧ ∀ c, V c → c ≠ cQ (x + 1) ∧ ∀ i q, q < 10 → i < 20 → c ≠ cS (x + 1) i + q := by
    rcases h7 x hx with ⟨q1, _⟩ | ⟨_, q2, q3⟩
    · exact absurd q1 hv
    · exact ⟨q2, q3⟩
  have n1 : ∀ c, V c → c ≠ cP (x + 1) := fun c hc e => hv (e ▸ hc)
  have n2 : ∀ c, V c → c ≠ cP (x + 1) + 1 := fun c hc e => (hdead.2 c hc).1 (e.trans hb2.symm)
  have eA : ∀ c, V c → pA2 A (cP (x + 1)) q r c = A c := fun c hc => by unfold pA2; rw [if_neg (n1 c hc), if_neg (n2 c hc)]
  have eq0 : pA2 A (cP (x + 1)) q r (cP (x + 1)) = q := by unfold pA2; rw [if_pos rfl]
  have eq1 : pA2 A (cP (x + 1)) q r (cP (x + 1) + 1) = r := by unfold pA2; rw [if_neg (by omega), if_pos rfl]
  have G : GRW A V (pA2 A (cP (x + 1)) q r) (pV2 V (cP (x + 1))) S (sQ T (A 58) x (some q)) := ⟨fun c hc => ⟨Or.inl hc, eA c hc⟩, fun a k y => z3.ty y, z3.2.2.1, z3.2.2.2.1, z3.2.2.2.2.1, z3.2.2.2.2.2.1⟩
  have m58 := h2 _ (h3 58 (by decide))
  have PL : ∀ y, y ≤ 3 → PLAY A V S y → PLAY (pA2 A (cP (x + 1)) q r) (pV2 V (cP (x + 1))) (sQ T (A 58) x (some q)) y := by
    intro y hy hp
    obtain ⟨x1, x2, x3, x4, x5, x6, x7⟩ := hp
    refine ⟨Or.inl x1, Or.inl x2, ?_, ?_, ?_, ?_, fun i hi => ?_⟩
    · rw [eA _ x1]; exact z3.ty x3
    · rw [eA _ x2]; exact z3.ty x4
    · rw [eA _ x1, eA _ x2]; exact (z3.2.2.2.2.1 _ _ (h2 _ x1)).trans x5
    · rw [eA _ x2]; exact (z3.2.2.2.2.2.1 _ (h2 _ x2)).trans x6
    · rw [eA _ x2]
      have hne : A (cQ y) ≠ A 58 := fun e => by
        have := h1 _ _ x2 (h3 58 (by decide)) e
        unfold cQ at this
        by_cases b : y = 0
        · rw [if_pos b] at this; omega
        · rw [if_neg b] at this; omega
      have hQ : pQ (sQ T (A 58) x (some q)) (A (cQ y)) i = pQ S (A (cQ y)) i := by
        rw [pQ_sQ, if_neg (fun z => hne z.1), z3.2.2.2.2.2.2 _ _ (h2 _ x2)]
      rcases x7 i hi with ⟨q1, q2, q3⟩ | ⟨q1, q2⟩
      · exact Or.inl ⟨Or.inl q1, by rw [hQ, q2, eA _ q1], q3.gr h2 G⟩
      · refine Or.inr ⟨fun l hl z => ?_, by rw [hQ, q2]⟩
        have := cS_big y i
        rcases z with z | z | z
        · exact q1 l hl z
        · omega
        · omega
  refine ⟨⟨fun c d hc hd e => ?_, fun c hc => ?_, fun c hc => Or.inl (h3 c hc), fun c hc => ?_, fun s hs => ?_, PL 0 (by decide) h6, fun y hy => ?_⟩, G⟩
  · rcases hc with hc | hc | hc
    · rw [eA c hc] at e
      rcases hd with hd | hd | hd
      · rw [eA d hd] at e; exact h1 c d hc hd e
      · subst hd; rw [eq0] at e; exact absurd (e ▸ h2 c hc) hq
      · subst hd; rw [eq1] at e; exact absurd (e ▸ h2 c hc) hr0
    · subst hc
      rw [eq0] at e
      rcases hd with hd | hd | hd
      · rw [eA d hd] at e; exact absurd (e.symm ▸ h2 d hd) hq
      · exact hd.symm
      · subst hd; rw [eq1] at e; exact absurd e.symm hrq
    · subst hc
      rw [eq1] at e
      rcases hd with hd | hd | hd
      · rw [eA d hd] at e; exact absurd (e.symm ▸ h2 d hd) hr0
      · subst hd; rw [eq0] at e; exact absurd e hrq
      · exact hd.symm
  · show _ ∈ pL T
    rcases hc with hc | hc | hc
    · rw [eA c hc]; exact z3.1 _ (h2 c hc)
    · subst hc; rw [eq0]; exact tq.1
    · subst hc; rw [eq1]; exact tr.1
  · rcases hc with hc | hc | hc
    · exact h4 c hc
    · omega
    · omega
  · rw [eA 32 (h3 32 (by decide))] at hs
    have hs : pR T 404 (A 32) = some s := hs
    rw [z3.2.2.2.2.1 _ _ (h2 _ (h3 32 (by decide)))] at hs
    obtain ⟨r1, r2, r3⟩ := h5 s hs
    refine ⟨z3.ty r1, (z3.2.2.2.2.2.1 _ r1.1).trans r2, fun c hc => ?_⟩
    rcases hc with hc | hc | hc
    · rw [eA c hc]; exact r3 c hc
    · subst hc; rw [eq0]; exact fun z => hq (z ▸ r1.1)
    · subst hc; rw [eq1]; exact fun z => hr0 (z ▸ r1.1)
  · rw [eA 58 (h3 58 (by decide))]
    by_cases e : y = x
    · subst e
      refine Or.inl ⟨Or.inr (Or.inl rfl), by rw [pQ_sQ, if_pos ⟨rfl, rfl⟩, eq0], Or.inr (Or.inl rfl), Or.inr (Or.inr hb2), ?_, ?_, ?_, ?_, fun i hi => Or.inr ⟨fun l hl z => ?_, ?_⟩⟩
      · rw [eq0]; exact tq
      · rw [hb2, eq1]; exact tr
      · rw [eq0, hb2, eq1]; exact rq
      · rw [hb2, eq1]; exact nr
      · have := cS_big (y + 1) i
        rcases z with z | z | z
        · exact (hdead.2 _ z).2 i l hl (by omega) rfl
        · omega
        · omega
      · rw [hb2, eq1, pQ_sQ, if_neg (fun (z : r = A 58 ∧ i = y) => hr0 (z.1 ▸ m58)), qr]
    · have hQ : pQ (sQ T (A 58) x (some q)) (A 58) y = pQ S (A 58) y := by rw [pQ_sQ, if_neg (fun z => e z.2), z3.2.2.2.2.2.2 _ _ m58]
      rw [hQ]
      rcases h7 y hy with ⟨q1, q2, q3⟩ | ⟨q1, q2, q3⟩
      · exact Or.inl ⟨Or.inl q1, by rw [q2, eA _ q1], PL _ (by omega) q3⟩
      · have c1 : cP (y + 1) = 100 + 2 * y := by unfold cP; rw [if_neg (by omega)]; omega
        have c2 : cQ (y + 1) = 101 + 2 * y := by unfold cQ; rw [if_neg (by omega)]; omega
        refine Or.inr ⟨fun z => ?_, q2, fun c hc => ?_⟩
        · rcases z with z | z | z
          · exact q1 z
          · omega
          · omega
        · rcases hc with hc | hc | hc
          · exact q3 c hc
          · refine ⟨by omega, fun i l _ _ z => ?_⟩
            have := cS_big (y + 1) i
            omega
          · refine ⟨by omega, fun i l _ _ z => ?_⟩
            have := cS_big (y + 1) i
            omega
