def reF : List Nat := scrF ++ [501, 1241, 1112, 1272, 1114, 1242]
def reP : List (Nat × Nat) := scrP ++ [(902, 14), (902, 16), (902, 18), (803, 13), (804, 13)]
def reA : List Nat := scrA ++ [15, 17, 19, 80, 82, 91]
theorem JG.re {A A2 : Nat → Nat} {V : Nat → Prop} {g : GH} {S T : pq_S} {st : Nat → Int32} (h : JG A V g S) (hl : LAY A2 T) (kI : ∀ f c, c < 92 → f ∉ reF → (f, c) ∉ reP → pI T f (A2 c) = pI S f (A c)) (kA : ∀ c i, c < 92 → c ∉ reA → pA T (A2 c) i = pA S (A c) i) (ht : pI T 1114 (A2 0) = pI T 1242 (A2 60)) (hs : SB g st) (h13 : STC g A2 T 13 st) (h80 : ∀ i, i < 50 → pA T (A2 80) i = st i) : CORE (gS g st) T A2 ∧ LW (gS g st) T A2 ∧ BOOK (gS g st) T A2 ∧ TAPE T A2 := by
  refine ⟨⟨hl, h.gb, hs, ?_, ?_, h13, h80⟩, ?_, ?_, ?_⟩
  · obtain ⟨⟨x0, x1, x2, x3, x4, x5⟩, y0, y1, y2, y3⟩ := h.cx
    exact ⟨⟨(kI _ _ (by decide) (by decide) (by decide)).trans x0, (kI _ _ (by decide) (by decide) (by decide)).trans x1, (kI _ _ (by decide) (by decide) (by decide)).trans x2, (kI _ _ (by decide) (by decide) (by decide)).trans x3, (kI _ _ (by decide) (by decide) (by decide)).trans x4, (kI _ _ (by decide) (by decide) (by decide)).trans x5⟩, fun i hi => (kA _ _ (by decide) (by decide)).trans (y0 i hi), fun i hi => (kA _ _ (by decide) (by decide)).trans (y1 i hi), fun i hi => (kA _ _ (by decide) (by decide)).trans (y2 i hi), fun i hi => (kA _ _ (by decide) (by decide)).trans (y3 i hi)⟩
  · obtain ⟨⟨x0, x1, x2, x3, x4, x5⟩, y0, y1, y2, y3⟩ := h.cm
    exact ⟨⟨(kI _ _ (by decide) (by decide) (by decide)).trans x0, (kI _ _ (by decide) (by decide) (by decide)).trans x1, (kI _ _ (by decide) (by decide) (by decide)).trans x2, (kI _ _ (by decide) (by decide) (by decide)).trans x3, (kI _ _ (by decide) (by decide) (by decide)).trans x4, (kI _ _ (by decide) (by decide) (by decide)).trans x5⟩, fun i hi => (kA _ _ (by decide) (by decide)).trans (y0 i hi), fun i hi => (kA _ _ (by decide) (by decide)).trans (y1 i hi), fun i hi => (kA _ _ (by decide) (by decide)).trans (y2 i hi), fun i hi => (kA _ _ (by decide) (by decide)).trans (y3 i hi)⟩
  · intro w hw
    obtain ⟨h1, h2, h3, h4, h5⟩ := h.2.1 w hw
    have hw2 : w = 0 ∨ w = 1 := by omega
    refine ⟨h1, ?_, (kA _ _ (by decide) (by decide)).trans h3, fun q hq => ⟨(h4 q hq).1, ?_, (kA _ _ (by decide) (by decide)).trans (h4 q hq).2.2.1, (kA _ _ (by decide) (by decide)).trans (h4 q hq).2.2.2⟩, h5⟩
    · rcases hw2 with e | e <;> subst e
      · exact (kI _ _ (by decide) (by decide) (by decide)).trans h2
      · exact (kI _ _ (by decide) (by decide) (by decide)).trans h2
    · rcases hw2 with e | e <;> subst e
      · exact (kA _ _ (by decide) (by decide)).trans (h4 q hq).2.1
      · exact (kA _ _ (by decide) (by decide)).trans (h4 q hq).2.1
  · obtain ⟨h1, h2, h3, h4, h5, h6⟩ := h.2.2.1
    exact ⟨⟨h1.1, (kA 59 0 (by decide) (by decide)).trans h1.2.1, (kA 59 1 (by decide) (by decide)).trans h1.2.2⟩, (kI _ _ (by decide) (by decide) (by decide)).trans h2, (kI _ _ (by decide) (by decide) (by decide)).trans h3, fun i hi => ⟨(h4 i hi).1, (h4 i hi).2.1, (kA _ _ (by decide) (by decide)).trans (h4 i hi).2.2.1, (kA _ _ (by decide) (by decide)).trans (h4 i hi).2.2.2.1, (kA _ _ (by decide) (by decide)).trans (h4 i hi).2.2.2.2⟩, h5, fun p hp hq => (kA _ _ (by decide) (by decide)).trans (h6 p hp hq)⟩
  · obtain ⟨h1, h2, h3, h4, tp, h5, h6, h7, h8⟩ := h.tp
    refine ⟨?_, ?_, ?_, ht, tp, h5, (kI _ _ (by decide) (by decide) (by decide)).trans h6, (kI _ _ (by decide) (by decide) (by decide)).trans h7, fun i hi => ?_⟩
    · rw [kI _ _ (by decide) (by decide) (by decide), kI _ _ (by decide) (by decide) (by decide), h1]
    · rw [kI _ _ (by decide) (by decide) (by decide), kA _ _ (by decide) (by decide), h2]
    · rw [kI _ _ (by decide) (by decide) (by decide), kA _ _ (by decide) (by decide), h3]
    · obtain ⟨b, hb, e1, e2⟩ := h8 i hi
      exact ⟨b, hb, (kA _ _ (by decide) (by decide)).trans e1, (kA _ _ (by decide) (by decide)).trans e2⟩
theorem LAY.fr {h : Nat} {A A2 : Nat → Nat} {V V2 : Nat → Prop} {S T : pq_S} (hl : LAY A S) (hV : ∀ c, c < 92 → V c) (k : FRH h A V A2 V2 S T) : LAY A2 T := by
  have e1 : ∀ e ∈ ly_R, e.1 < 92 ∧ e.2.2 < 92 := by decide
  have e2 : ∀ e ∈ ly_K, e.1 < 92 := by decide
  have e3 : ∀ e ∈ ly_N, e.1 < 92 := by decide
  have e4 : ∀ e ∈ ly_W, e.1 < 92 := by decide
  have eA : ∀ c, c < 92 → A2 c = A c := fun c hc => (k.1 c (hV c hc)).2
  refine ⟨fun e he => ?_, fun e he => ?_, fun e he => ?_, fun e he => ?_, fun i j hi hj e => ?_⟩
  · rw [eA _ (e1 e he).1, eA _ (e1 e he).2, k.2.2.2.2.1 _ _ (hV _ (e1 e he).1)]; exact hl.1 e he
  · rw [eA _ (e2 e he)]; exact k.2.1 _ _ (hl.2.1 e he)
  · rw [eA _ (e3 e he), k.2.2.2.2.2 _ (hV _ (e3 e he))]; exact hl.2.2.1 e he
  · rw [eA _ (e4 e he), k.2.2.1 _ _ (hV _ (e4 e he)) (fun z => absurd z.1 (by decide)) (fun i q _ _ z => by have := cS_big h i; have := e4 e he; omega)]; exact hl.2.2.2.1 e he
  · rw [eA _ hi, eA _ hj] at e; exact hl.2.2.2.2 i j hi hj e
theorem LAY.eqv {A : Nat → Nat} {S T : pq_S} (hl : LAY A S) (h1 : pL T = pL S) (h2 : pK T = pK S) (h3 : pR T = pR S) (h4 : pN T = pN S) (h5 : ∀ a, pI T 901 a = pI S 901 a) : LAY A T := ⟨fun e he => by rw [h3]; exact hl.1 e he, fun e he => ⟨by rw [h1]; exact (hl.2.1 e he).1, by rw [h2]; exact (hl.2.1 e he).2⟩, fun e he => by rw [h4]; exact hl.2.2.1 e he, fun e he => by rw [h5]; exact hl.2.2.2.1 e he, hl.2.2.2.2⟩
theorem SCO.eq {g : GH} {A : Nat → Nat} {V : Nat → Prop} {S T : pq_S} {h i : Nat} {st : Nat → Int32} (hh : SCO g A V S h i st) (kI : ∀ f a, f = 902 ∨ f = 803 ∨ f = 804 → pI T f a = pI S f a) (kA : ∀ q l, q < 7 → pA T (A (cS h i + q)) l = pA S (A (cS h i + q)) l) : SCO g A V T h i st := ⟨hh.1, hh.2.1, hh.2.2.cg (kI _ _ (Or.inl rfl)) (kI _ _ (Or.inl rfl)) (kI _ _ (Or.inl rfl)) (kI _ _ (Or.inr (Or.inl rfl))) (kI _ _ (Or.inr (Or.inr rfl))) (fun l => kA 2 l (by decide)) (fun l => kA 4 l (by decide)) (fun l => kA 6 l (by decide))⟩
/-- the codes under 92 are no past states -/
theorem cS_no {c h : Nat} (hc : c < 92) : ∀ i q, i < 17 → q < 7 → c ≠ cS h i + q := fun i q _ _ z => by have := cS_big h i; omega
theorem image_end {n : Nat} {A A3 : Nat → Nat} {V V3 : Nat → Prop} {g : GH} {S U : pq_S} {wk im : Nat} {ps : Nat → Nat → Int32} {iw : Nat → Nat} {is : Nat → Nat → Nat → Int32} (hn : 20000 ≤ n) (h : JG A V g S) (b : HB g A V S wk im ps iw is) (hm : im < 3) (hv : V (cP (im + 1))) (hs3 : HS A3 V3 U) (F : FRH (im + 1) A V A3 V3 S U) (h5 : pI U 501 (A3 (cP (im + 1))) = nI (wk + 1)) (hp : ∀ i, i < wk → SCO g A3 V3 U (im + 1) i (ps i)) (hl : SCO g A3 V3 U (im + 1) wk (gst g)) : ∃ S2, m_X12_image n (A 60) (sI U 1112 (A 0) (nI (im + 1))) = some (nI (im + 1), S2) ∧ JJ (A 0) (A 60) S2 := by
  have hs := h.hi.hs
  have eA : ∀ c, c < 92 → A3 c = A c := fun c hc => (F.1 c (hs.2.2.1 c hc)).2
  have kI : ∀ f c, c < 92 → f ≠ 501 → pI U f (A3 c) = pI S f (A c) := fun f c hc hf => by rw [eA c hc, F.2.2.1 f c (hs.2.2.1 c hc) (fun z => hf z.1) (cS_no hc)]
  have kA : ∀ c i, c < 92 → pA U (A3 c) i = pA S (A c) i := fun c i hc => by rw [eA c hc, F.2.2.2.1 c i (hs.2.2.1 c hc) (cS_no hc)]
  have k56 : pI U 501 (A3 56) = nI wk := by
    rw [eA 56 (by decide), F.2.2.1 501 56 (hs.2.2.1 56 (by decide)) (fun z => by have := z.2; have := cP_big im; omega) (cS_no (by decide))]
    exact b.2.2.2.2.2.1.1
  have lU : LAY A3 U := h.lay.fr hs.2.2.1 F
  obtain ⟨b1, b2, b3, b4, b5, b6, b7, b8⟩ := b
  rw [← eA 0 (by decide), ← eA 60 (by decide)]
  have lW : LAY A3 (sI (sI U 1112 (A3 0) (nI (im + 1))) 1200 (A3 60) 0) := lU.eqv rfl rfl rfl rfl (fun a => by rw [pI_n (by decide), pI_n (by decide)])
  have e1241 : pI (sI (sI U 1112 (A3 0) (nI (im + 1))) 1200 (A3 60) 0) 1241 (A3 60) = nI wk := by rw [pI_n (by decide), pI_n (by decide), kI _ _ (by decide) (by decide), b3]
  obtain ⟨T, t1, t2, t3, t4, t5, t6⟩ := r_all1 (n := n) (x := im) hn lW hm e1241
  have tI : ∀ f a, f ≠ 1112 → f ≠ 1200 → pI T f a = pI U f a := fun f a q1 q2 => by rw [t2.2.2.2.2.2.1, pI_n q2, pI_n q1]
  have tA : ∀ a i, a ≠ A3 91 → pA T a i = pA U a i := fun a i q => t2.2.2.2.2.2.2 a i q
  have fI : ∀ f a, f ≠ 1112 → f ≠ 1200 → f ≠ 1272 → pI (sI T 1272 (A3 60) (nI (im + 1))) f a = pI U f a := fun f a q1 q2 q3 => by rw [pI_n q3, tI f a q1 q2]
  have hsT : HS A3 V3 (sI T 1272 (A3 60) (nI (im + 1))) := hs3.eqv t2.1 t2.2.1 t2.2.2.1 t2.2.2.2.1 t2.2.2.2.2.1
  have lT : LAY A3 (sI T 1272 (A3 60) (nI (im + 1))) := lU.eqv t2.1 t2.2.1 t2.2.2.1 t2.2.2.2.1 (fun a => fI _ _ (by decide) (by decide) (by decide))
  have n91 : ∀ c, c < 92 → c ≠ 91 → A3 c ≠ A3 91 := fun c hc e => lU.ne hc (by decide) e
  have v91 := hs3.2.2.1 91 (by decide)
  have SE : ∀ y i st, i < 17 → y ≤ 3 → SCO g A3 V3 U y i st → SCO g A3 V3 (sI T 1272 (A3 60) (nI (im + 1))) y i st := fun y i st hi hy q => by
    have hpl : SLAY A3 V3 U (cS y i) := by
      by_cases e : V3 (cP y)
      · exact ((PLAY.gr0 hs3 hy e).sl hi q.1).2
      · by_cases e0 : y = 0
        · subst e0; exact absurd hs3.2.2.2.2.2.1.1 e
        · obtain ⟨x, rfl⟩ : ∃ x, y = x + 1 := ⟨y - 1, by omega⟩
          rcases hs3.2.2.2.2.2.2 x (by omega) with ⟨z, _⟩ | ⟨_, _, z⟩
          · exact absurd z e
          · exact absurd rfl ((z _ q.1).2 i 0 (by decide) (by omega))
    refine q.eq (fun f a hf => fI f a (by omega) (by omega) (by omega)) (fun r l hr => tA _ _ (fun e => ?_))
    have := hs3.1 _ _ (hpl.1 r hr) v91 e
    have := cS_big y i
    omega
  have R := h.re (T := sI T 1272 (A3 60) (nI (im + 1))) (A2 := A3) (st := gst g) lT (fun f c hc q1 q2 => by
    have hf : f ≠ 1112 ∧ f ≠ 1200 ∧ f ≠ 1272 ∧ f ≠ 501 := ⟨fun e => q1 (by rw [e]; decide), fun e => q1 (by rw [e]; decide), fun e => q1 (by rw [e]; decide), fun e => q1 (by rw [e]; decide)⟩
    rw [fI f _ hf.1 hf.2.1 hf.2.2.1, kI f c hc hf.2.2.2]) (fun c i hc q => by
    have e : c ≠ 91 := fun e => q (by rw [e]; decide)
    show pA T (A3 c) i = _
    rw [tA _ _ (n91 c hc e), kA c i hc]) (by
    rw [fI _ _ (by decide) (by decide) (by decide), fI _ _ (by decide) (by decide) (by decide), kI _ _ (by decide) (by decide), kI _ _ (by decide) (by decide), h.tp.2.2.2.1]) h.sb (by
    have q : STC g A3 U 13 (gst g) := by
      show STX g U (A3 13) (A3 14) (A3 16) (A3 18) (A3 15) (A3 17) (A3 19) (gst g)
      rw [eA 13 (by decide), eA 14 (by decide), eA 16 (by decide), eA 18 (by decide), eA 15 (by decide), eA 17 (by decide), eA 19 (by decide)]
      have kI2 : ∀ f c, c < 92 → f ≠ 501 → pI U f (A c) = pI S f (A c) := fun f c hc hf => by rw [← eA c hc, kI f c hc hf, eA c hc]
      have kA2 : ∀ c i, c < 92 → pA U (A c) i = pA S (A c) i := fun c i hc => by rw [← eA c hc, kA c i hc, eA c hc]
      exact h.sx.cg (kI2 _ _ (by decide) (by decide)) (kI2 _ _ (by decide) (by decide)) (kI2 _ _ (by decide) (by decide)) (kI2 _ _ (by decide) (by decide)) (kI2 _ _ (by decide) (by decide)) (fun i => kA2 15 i (by decide)) (fun i => kA2 17 i (by decide)) (fun i => kA2 19 i (by decide))
    exact q.cg (fI _ _ (by decide) (by decide) (by decide)) (fI _ _ (by decide) (by decide) (by decide)) (fI _ _ (by decide) (by decide) (by decide)) (fI _ _ (by decide) (by decide) (by decide)) (fI _ _ (by decide) (by decide) (by decide)) (fun i => tA _ _ (n91 15 (by decide) (by decide))) (fun i => tA _ _ (n91 17 (by decide) (by decide))) (fun i => tA _ _ (n91 19 (by decide) (by decide)))) (fun i hi => by
    show pA T (A3 80) i = _
    rw [tA _ _ (n91 80 (by decide) (by decide)), kA 80 i (by decide), h.nw i hi])
  have e91 : ∀ i, pA (sI T 1272 (A3 60) (nI (im + 1))) (A3 91) i = pA T (A3 91) i := fun _ => rfl
  have o91 : ∀ i, ¬ (851 * im ≤ i ∧ i < 851 * im + 851) → pA T (A3 91) i = pA S (A 91) i := fun i q => by
    rw [t3 i q]
    exact kA 91 i (by decide)
  have B : HB g A3 V3 (sI T 1272 (A3 60) (nI (im + 1))) wk (im + 1) ps (fun x => if x = im then wk else iw x) (fun x => if x = im then (fun i => if i = wk then gst g else ps i) else is x) := by
    refine ⟨b1, by omega, ?_, ?_, pI_e .., ⟨(fI 501 _ (by decide) (by decide) (by decide)).trans k56, by omega, fun i hi => ?_⟩, fun i j hi hj => ?_, fun x hx => ?_⟩
    · rw [fI _ _ (by decide) (by decide) (by decide), kI _ _ (by decide) (by decide), b3]
    · rw [pI_n (by decide), t2.2.2.2.2.2.1, pI_n (by decide), pI_e]
    · have q : SCO g A V S 0 i (ps i) := b6.2.2 i hi
      exact SE 0 i _ (by omega) (by decide) (q.fr (hs.2.2.2.2.2.1.sl (by omega) q.1).2 (by omega) (by omega) F (by omega))
    · show pA T (A3 82) _ = _
      rw [tA _ _ (n91 82 (by decide) (by decide)), kA _ _ (by decide), b7 i j hi hj]
    · by_cases e : x = im
      · subst e
        simp only [if_true]
        refine ⟨(F.1 _ hv).1, b1, ⟨(fI 501 _ (by decide) (by decide) (by decide)).trans h5, by omega, fun i hi => ?_⟩, ?_, fun j hj => ?_, fun i j hi hj => ?_⟩
        · show SCO g A3 V3 _ (x + 1) i (if i = wk then gst g else ps i)
          by_cases e : i = wk
          · subst e; rw [if_pos rfl]; exact SE _ _ _ (by omega) (by omega) hl
          · rw [if_neg e]; exact SE _ _ _ (by omega) (by omega) (hp i (by omega))
        · exact t6
        · rw [e91, t4 j hj]
          show pA U (A3 80) j = _
          rw [kA 80 j (by decide), h.nw j hj]
        · rw [if_neg (show ¬ i = wk by omega), e91, show 851 * x + 50 + 50 * i + j = 851 * x + 50 + (50 * i + j) by omega, t5 _ (by omega)]
          show pA U (A3 82) _ = _
          rw [kA _ _ (by decide), b7 i j hi hj]
      · simp only [if_neg e]
        obtain ⟨c1, c2, c3, c4, c5, c6⟩ := b8 x (by omega)
        have hPl : PLAY A V S (x + 1) := PLAY.gr0 hs (by omega) c1
        refine ⟨(F.1 _ c1).1, c2, ⟨?_, c3.2.1, fun i hi => ?_⟩, ?_, fun j hj => ?_, fun i j hi hj => ?_⟩
        · rw [fI 501 _ (by decide) (by decide) (by decide), (F.1 _ c1).2, F.2.2.1 _ _ c1 (fun z => by have := cP_ne z.2; omega) (fun i q _ _ => cP_S (by omega))]
          exact c3.1
        · have q : SCO g A V S (x + 1) i (is x i) := c3.2.2 i hi
          have := c3.2.1
          exact SE _ i _ (by omega) (by omega) (q.fr (hPl.sl (by omega) q.1).2 (by omega) (by omega) F (by omega))
        · rw [e91, o91 _ (by omega), c4]
        · rw [e91, o91 _ (by omega), c5 j hj]
        · rw [e91, o91 _ (by omega), c6 i j hi hj]
  refine ⟨sI T 1272 (A3 60) (nI (im + 1)), ?_, A3, V3, g, rfl, rfl, R.1, R.2.1, R.2.2.1, R.2.2.2, hsT.mk B⟩
  unfold m_X12_image
  have e1272 : pI (sI (sI U 1112 (A3 0) (nI (im + 1))) 1200 (A3 60) 0) 1272 (A3 60) = nI im := by rw [pI_n (by decide), pI_n (by decide), kI _ _ (by decide) (by decide), b5]
  rw [e1272, if_neg (show ¬ nI im = 3 by simp (disch := omega) only [LIT, ofN, nI_add, pk_mul, ixn, nI_clamp, nI_ltI, nI_leI, nI_eq, Nat.add_zero, Nat.zero_add, Nat.mul_zero, Nat.mul_one, Nat.reduceMul]; omega), t1, ob_mk, t2.2.2.2.2.2.1, e1272, show nI im + 1 = nI (im + 1) from nI_add im 1, pI_e]
theorem w_img42 {n : Nat} {A : Nat → Nat} {V : Nat → Prop} {g : GH} {S : pq_S} {wk im bc bs : Nat} {ps : Nat → Nat → Int32} {iw : Nat → Nat} {is : Nat → Nat → Nat → Int32} (hn : 20000 ≤ n) (h : JG A V g S) (b : HB g A V S wk im ps iw is) (hm : im < 3) (hv : V (cP (im + 1))) (hbc : 120 ≤ bc) (hbs : 1100 ≤ bs) : pb_X11_image_42 n (A 0) S bc bs (fun r (S1 : pq_S) => ∃ S2, m_X12_image n (A 60) S1 = some (r, S2) ∧ JJ (A 0) (A 60) S2) := by
  have hs := h.hi.hs
  have b1 := b.1
  have b4 := b.2.2.2.1
  have b6 := b.2.2.2.2.2.1
  have q58 : pQ S (A 58) im = some (A (cP (im + 1))) := by
    rcases hs.2.2.2.2.2.2 im hm with ⟨_, q, _⟩ | ⟨q, _⟩
    · exact q
    · exact absurd hv q
  have n56 : A 56 ≠ A (cP (im + 1)) := fun e => by
    have := hs.1 _ _ (hs.2.2.1 56 (by decide)) hv e
    have := cP_big im
    omega
  unfold pb_X11_image_42
  rw [b4]
  refine ⟨_, h.lay.r0_1110, by rw [h.lay.n58]; exact ix_nI (by omega) (by decide), A (cP (im + 1)), by rw [nI_clamp (show im < 2 ^ 31 by omega)]; exact q58, A 56, h.lay.r0_1109, 112, 992, by omega, by omega, ?_⟩
  unfold wp_X5_copyFrom
  have hs0 : HS A V (sI S 501 (A (cP (im + 1))) 0) := hs.eqv rfl rfl rfl rfl rfl
  have F0 : FRH (im + 1) A V A V S (sI S 501 (A (cP (im + 1))) 0) := ⟨fun _ q => ⟨q, rfl⟩, fun _ _ q => q, fun f c hc q1 _ => by rw [pI_sI, if_neg (fun z => q1 ⟨z.1, hs.1 _ _ hc hv z.2⟩)], fun _ _ _ _ => rfl, fun _ _ _ => rfl, fun _ _ => rfl⟩
  refine w_cf n (g := g) (h := im + 1) (y := 0) (m := wk) (ps := ps) h.gb (by omega) (by decide) (by omega) b1 wk 0 n A V _ 112 992 _ (by omega) (by omega) hs0 hv (hs.2.2.1 56 (by decide)) ?_ (pI_e ..) (fun i hi => ?_) (fun i hi => by omega) (by omega) (by omega) (fun A2 V2 T t1 t2 t3 t4 => ?_)
  · rw [pI_sI, if_neg (fun z => n56 z.2)]
    exact b6.1
  · have q : SCO g A V S 0 i (ps i) := b6.2.2 i hi
    exact q.eq (fun f a hf => pI_n (by omega)) (fun _ _ _ => rfl)
  · have F := F0.tr t2
    have lT : LAY A2 T := h.lay.fr hs.2.2.1 F
    have eA : ∀ c, c < 92 → A2 c = A c := fun c hc => (F.1 c (hs.2.2.1 c hc)).2
    have kI : ∀ f c, c < 92 → f ≠ 501 → pI T f (A c) = pI S f (A c) := fun f c hc hf => F.2.2.1 f c (hs.2.2.1 c hc) (fun z => hf z.1) (cS_no hc)
    have kA : ∀ c i, c < 92 → pA T (A c) i = pA S (A c) i := fun c i hc => F.2.2.2.1 c i (hs.2.2.1 c hc) (cS_no hc)
    have v2 := (F.1 _ hv).1
    have q58b : pQ T (A2 58) im = some (A2 (cP (im + 1))) := by
      rcases t1.2.2.2.2.2.2 im hm with ⟨_, q, _⟩ | ⟨q, _⟩
      · exact q
      · exact absurd v2 q
    have l0 := lT.r0_1110
    have l1 := lT.r0_1101
    have l2 := lT.r3_701
    have l3 := lT.n58
    rw [eA 0 (by decide), eA 58 (by decide)] at l0
    rw [eA 0 (by decide), eA 3 (by decide)] at l1
    rw [eA 3 (by decide)] at l2
    rw [eA 58 (by decide)] at l3 q58b
    rw [kI 1112 0 (by decide) (by decide), b4]
    refine ⟨_, l0, by rw [l3]; exact ix_nI (by omega) (by decide), A2 (cP (im + 1)), by rw [nI_clamp (show im < 2 ^ 31 by omega)]; exact q58b, _, l1, _, l2, 7, 62, by omega, by omega, ?_⟩
    have st13 : STC g A2 T 13 (gst g) := by
      show STX g T (A2 13) (A2 14) (A2 16) (A2 18) (A2 15) (A2 17) (A2 19) (gst g)
      rw [eA 13 (by decide), eA 14 (by decide), eA 16 (by decide), eA 18 (by decide), eA 15 (by decide), eA 17 (by decide), eA 19 (by decide)]
      exact h.sx.cg (kI _ _ (by decide) (by decide)) (kI _ _ (by decide) (by decide)) (kI _ _ (by decide) (by decide)) (kI _ _ (by decide) (by decide)) (kI _ _ (by decide) (by decide)) (fun i => kA 15 i (by decide)) (fun i => kA 17 i (by decide)) (fun i => kA 19 i (by decide))
    have hcb := fun i => cS_big (im + 1) i
    refine w_one n (g := g) (h := im + 1) (k := wk) (d := 13) (ps := ps) (st := gst g) h.gb (by omega) t1 v2 (by omega) t3 (sl13 lT t1.2.2.1) (fun q r i _ _ _ e => by have := hcb i; omega) (Or.inr (by have := hcb wk; omega)) st13 h.sb t4 (Nat.le_refl _) (Nat.le_refl _) (fun A3 V3 U u1 u2 u3 u4 u5 => ?_)
    have F3 := F.tr u2
    rw [pI_e, F3.2.2.1 1112 0 (hs.2.2.1 0 (by decide)) (fun z => absurd z.1 (by decide)) (cS_no (by decide)), b4, show nI im + 1 = nI (im + 1) from nI_add im 1]
    exact image_end hn h b hm hv u1 F3 u3 u4 u5
theorem ob_38 (n xa ma : Nat) (hn : 20000 ≤ n) : OB_38 n xa ma (JJ xa ma) := by
  rintro S ⟨A, V, g, rfl, rfl, h⟩
  have h : JG A V g S := h
  obtain ⟨_, _, _, _, _, _, _, wk, im, ps, iw, is, b⟩ := h.hi
  have b : HB g A V S wk im ps iw is := b
  have hs := h.hi.hs
  have b2 := b.2.1
  have b4 := b.2.2.2.1
  have b5 := b.2.2.2.2.1
  refine ⟨200, 8000, by decide, by decide, _, _, sp_isWithin _ _ _ _ _, ?_⟩
  by_cases hm : im = 3
  · subst hm
    rw [b4, if_neg (show ¬ ((0 : Int32) ≤ nI 3 ∧ nI 3 ≤ 2) by decide), if_pos rfl]
    refine ⟨st0 S (A 60), ?_, h.st0.jj⟩
    unfold m_X12_image
    rw [pI_n (by decide), b5, if_pos (show nI 3 = 3 from rfl)]
  · rw [b4, if_pos (show (0 : Int32) ≤ nI im ∧ nI im ≤ 2 from ⟨nI_pos' (by omega), by simp (disch := omega) only [LIT, ofN, nI_add, pk_mul, ixn, nI_clamp, nI_ltI, nI_leI, nI_eq, Nat.add_zero, Nat.zero_add, Nat.mul_zero, Nat.mul_one, Nat.reduceMul]; omega⟩), if_neg (by decide)]
    refine ⟨_, h.lay.r0_1110, by rw [h.lay.n58]; exact ix_nI (by omega) (by decide), ?_⟩
    rw [nI_clamp (show im < 2 ^ 31 by omega)]
    rcases hs.2.2.2.2.2.2 im (by omega) with ⟨q1, q2, q3⟩ | ⟨q1, q2, q3⟩
    · rw [q2, if_neg (by simp)]
      exact w_img42 hn h b (by omega) q1 (by decide) (by decide)
    · rw [q2, if_pos rfl]
      refine ⟨_, h.lay.r0_1110, by decide, by decide, fun q hq => ⟨1, 17, by decide, by decide, ?_⟩⟩
      unfold wp_X5_init
      refine ⟨by decide, by decide, fun r hr => ⟨?_, ?_⟩⟩
      · have z3 : AGO S (sR (nA (nO S q 5) r 16 17) 500 q (some r)) := (((AGO.rf S).nO hq).nA hr).sR hq
        rw [z3.2.2.2.2.2.1 _ (hs.2.1 _ (hs.2.2.1 58 (by decide))), h.lay.n58]
        exact ix_nI (by omega) (by decide)
      · obtain ⟨G1, G2⟩ := hs.past (x := im) (by omega) q1 hq hr
        have := w_img42 (n := n) (bc := 200 - (1 + 1)) (bs := 8000 - (2 + 17)) hn (h.gr G1 G2) (b.gr hs G2) (by omega) (Or.inr (Or.inl rfl)) (by decide) (by decide)
        rw [(G2.1 0 (hs.2.2.1 0 (by decide))).2, (G2.1 60 (hs.2.2.1 60 (by decide))).2] at this
        exact this
