theorem SCO.c13 {g : GH} {A : Nat → Nat} {V : Nat → Prop} {S T : pq_S} {x i : Nat} {st : Nat → Int32} (hh : SCO g A V S x i st) (hI : ∀ c d, V c → V d → A c = A d → c = d) (hV : ∀ c, c < 92 → V c) (hl : SLAY A V S (cS x i)) (k : CPT A 13 S T) : SCO g A V T x i st := by
  obtain ⟨h1, h2, h3⟩ := hh
  have ne : ∀ q r, q < 7 → r < 7 → A (cS x i + q) ≠ A (13 + r) := fun q r hq hr e => by
    have := hI _ _ (hl.1 q hq) (hV (13 + r) (by omega)) e
    have := cS_big x i
    omega
  have kI : ∀ f q, q < 7 → pI T f (A (cS x i + q)) = pI S f (A (cS x i + q)) := fun f q hq => by
    rw [k.2.2.2.2.2.1 _ _ (fun z => ?_) (fun z => ?_)]
    · rcases z.2 with e | e | e
      · exact ne q 1 hq (by decide) e
      · exact ne q 3 hq (by decide) e
      · exact ne q 5 hq (by decide) e
    · exact ne q 0 hq (by decide) z.2
  have kA : ∀ q l, q < 7 → pA T (A (cS x i + q)) l = pA S (A (cS x i + q)) l := fun q l hq => k.2.2.2.2.2.2 _ _ (ne q 2 hq (by decide)) (ne q 4 hq (by decide)) (ne q 6 hq (by decide))
  exact ⟨h1, h2, h3.cg (kI 902 1 (by decide)) (kI 902 3 (by decide)) (kI 902 5 (by decide)) (kI 803 0 (by decide)) (kI 804 0 (by decide)) (fun l => kA 2 l (by decide)) (fun l => kA 4 l (by decide)) (fun l => kA 6 l (by decide))⟩
theorem c13_I {A : Nat → Nat} {S T : pq_S} (hl : LAY A S) (k : CPT A 13 S T) {f c : Nat} (hc : c < 92) (h : (f, c) ∉ [(902, 14), (902, 16), (902, 18), (803, 13), (804, 13)]) : pI T f (A c) = pI S f (A c) := by
  simp only [List.mem_cons, Prod.mk.injEq, List.not_mem_nil, or_false, not_or] at h
  have e : ∀ d, d < 92 → A c = A d → c = d := fun d hd e => hl.2.2.2.2 c d hc hd e
  refine k.2.2.2.2.2.1 _ _ (fun z => ?_) (fun z => ?_)
  · rcases z.2 with q | q | q
    · exact h.1 ⟨z.1, e 14 (by decide) q⟩
    · exact h.2.1 ⟨z.1, e 16 (by decide) q⟩
    · exact h.2.2.1 ⟨z.1, e 18 (by decide) q⟩
  · have := e 13 (by decide) z.2
    rcases z.1 with q | q
    · exact h.2.2.2.1 ⟨q, this⟩
    · exact h.2.2.2.2 ⟨q, this⟩
theorem c13_A {A : Nat → Nat} {S T : pq_S} (hl : LAY A S) (k : CPT A 13 S T) {c : Nat} (i : Nat) (hc : c < 92) (h : c ∉ [15, 17, 19]) : pA T (A c) i = pA S (A c) i := by
  simp only [List.mem_cons, List.not_mem_nil, or_false, not_or] at h
  exact k.2.2.2.2.2.2 _ _ (hl.ne hc (by decide) h.1) (hl.ne hc (by decide) h.2.1) (hl.ne hc (by decide) h.2.2)
theorem restore_end {n : Nat} {A A2 : Nat → Nat} {V V2 : Nat → Prop} {g : GH} {S S16 T : pq_S} {wk x : Nat} {ps : Nat → Nat → Int32} {iw : Nat → Nat} {is : Nat → Nat → Nat → Int32} (hn : 20000 ≤ n) (h : JG A V g S) (b : HB g A V S wk (x + 1) ps iw is) (k16 : CPT A 13 (sI (sI S 1112 (A 0) (nI x)) 501 (A (cP (x + 1))) (nI (iw x))) S16) (c16 : CPC A 13 (cS (x + 1) (iw x)) (sI (sI S 1112 (A 0) (nI x)) 501 (A (cP (x + 1))) (nI (iw x))) S16) (hs2 : HS A2 V2 T) (F : FRH 0 A V A2 V2 (sI S16 501 (A 56) 0) T) (h5 : pI T 501 (A2 (cP 0)) = nI (iw x)) (hp : ∀ i, i < iw x → SCO g A2 V2 T 0 i (is x i)) : ∃ S2, m_X12_restore n (A 60) (sI T 1114 (A 0) 0) = some (pI (sI T 1114 (A 0) 0) 1112 (A 0), S2) ∧ JJ (A 0) (A 60) S2 := by
  have hs := h.hi.hs
  have hV := hs.2.2.1
  obtain ⟨b1, b2, b3, b4, b5, b6, b7, b8⟩ := b
  obtain ⟨c1, c2, c3, c4, c5, c6⟩ := b8 x (by omega)
  have hPl : PLAY A V S (x + 1) := PLAY.gr0 hs (by omega) c1
  have la : LAY A (sI (sI S 1112 (A 0) (nI x)) 501 (A (cP (x + 1))) (nI (iw x))) := h.lay.eqv rfl rfl rfl rfl (fun a => by rw [pI_n (by decide), pI_n (by decide)])
  have lb : LAY A (sI S16 501 (A 56) 0) := h.lay.eqv k16.1 k16.2.1 k16.2.2.1 k16.2.2.2.1 (fun a => by rw [pI_n (by decide), k16.2.2.2.2.2.1 _ _ (fun z => absurd z.1 (by decide)) (fun z => absurd z.1 (by decide)), pI_n (by decide), pI_n (by decide)])
  have lT : LAY A2 T := lb.fr hV F
  have eA : ∀ c, c < 92 → A2 c = A c := fun c hc => (F.1 c (hV c hc)).2
  have kI : ∀ f c, c < 92 → f ≠ 501 → f ≠ 1112 → (f, c) ∉ [(902, 14), (902, 16), (902, 18), (803, 13), (804, 13)] → pI T f (A2 c) = pI S f (A c) := fun f c hc hf hg hh => by rw [eA c hc, F.2.2.1 f c (hV c hc) (fun z => hf z.1) (cS_no hc), pI_n hf, c13_I la k16 hc hh, pI_n hf, pI_n hg]
  have kA : ∀ c i, c < 92 → c ∉ [15, 17, 19] → pA T (A2 c) i = pA S (A c) i := fun c i hc hh => by rw [eA c hc, F.2.2.2.1 c i (hV c hc) (cS_no hc), pA_sI, c13_A la k16 i hc hh, pA_sI, pA_sI]
  have e1112 : pI T 1112 (A2 0) = nI x := by rw [eA 0 (by decide), F.2.2.1 1112 0 (hV 0 (by decide)) (fun z => absurd z.1 (by decide)) (cS_no (by decide)), pI_n (by decide), c13_I la k16 (by decide) (by decide), pI_n (by decide), pI_e]
  rw [← eA 0 (by decide), ← eA 60 (by decide)]
  have e1272 : pI (sI (sI T 1114 (A2 0) 0) 1200 (A2 60) 0) 1272 (A2 60) = nI (x + 1) := by rw [pI_n (by decide), pI_n (by decide), kI _ _ (by decide) (by decide) (by decide) (by decide), b5]
  have lR : LAY A2 (sI (sI (sI T 1114 (A2 0) 0) 1200 (A2 60) 0) 1272 (A2 60) (nI x)) := lT.eqv rfl rfl rfl rfl (fun a => by rw [pI_n (by decide), pI_n (by decide), pI_n (by decide)])
  obtain ⟨T1, T2, r1, r2, r3, r4, r5⟩ := r_all0 (n := n) (x := x) hn lR (by omega)
  have v91 : pA (sI (sI (sI T 1114 (A2 0) 0) 1200 (A2 60) 0) 1272 (A2 60) (nI x)) (A2 91) (851 * x + 850) = nI (iw x) := by
    show pA T (A2 91) _ = _
    rw [kA 91 _ (by decide) (by decide), c4]
  rw [v91] at r1
  have fI : ∀ f a, f ≠ 1242 → f ≠ 1241 → f ≠ 1272 → f ≠ 1200 → f ≠ 1114 → pI (sI (sI T2 1241 (A2 60) (nI (iw x))) 1242 (A2 60) 0) f a = pI T f a := fun f a q1 q2 q3 q4 q5 => by rw [pI_n q1, pI_n q2, r3.2.2.2.2.2.1, r2.2.2.2.2.2.1, pI_n q3, pI_n q4, pI_n q5]
  have fA : ∀ a i, a ≠ A2 80 → a ≠ A2 82 → pA (sI (sI T2 1241 (A2 60) (nI (iw x))) 1242 (A2 60) 0) a i = pA T a i := fun a i q1 q2 => by
    show pA T2 a i = _
    rw [r3.2.2.2.2.2.2 _ _ q2, r2.2.2.2.2.2.2 _ _ q1]
    rfl
  have w1 : pL T2 = pL T := r3.1.trans r2.1
  have w2 : pK T2 = pK T := r3.2.1.trans r2.2.1
  have w3 : pR T2 = pR T := r3.2.2.1.trans r2.2.2.1
  have w4 : pN T2 = pN T := r3.2.2.2.1.trans r2.2.2.2.1
  have w5 : pQ T2 = pQ T := r3.2.2.2.2.1.trans r2.2.2.2.2.1
  have hsW : HS A2 V2 (sI (sI T2 1241 (A2 60) (nI (iw x))) 1242 (A2 60) 0) := hs2.eqv w1 w2 w3 w4 w5
  have lW : LAY A2 (sI (sI T2 1241 (A2 60) (nI (iw x))) 1242 (A2 60) 0) := lT.eqv w1 w2 w3 w4 (fun a => fI _ _ (by decide) (by decide) (by decide) (by decide) (by decide))
  have n80 : ∀ c, c < 92 → c ≠ 80 → A2 c ≠ A2 80 := fun c hc e => lT.ne hc (by decide) e
  have n82 : ∀ c, c < 92 → c ≠ 82 → A2 c ≠ A2 82 := fun c hc e => lT.ne hc (by decide) e
  have SE : ∀ y i st, i < 17 → SLAY A2 V2 T (cS y i) → SCO g A2 V2 T y i st → SCO g A2 V2 (sI (sI T2 1241 (A2 60) (nI (iw x))) 1242 (A2 60) 0) y i st := fun y i st hi hpl q => by
    refine q.eq (fun f a hf => fI f a (by omega) (by omega) (by omega) (by omega) (by omega)) (fun r l hr => fA _ _ (fun e => ?_) (fun e => ?_))
    · have := hs2.1 _ _ (hpl.1 r hr) (hs2.2.2.1 80 (by decide)) e
      have := cS_big y i
      omega
    · have := hs2.1 _ _ (hpl.1 r hr) (hs2.2.2.1 82 (by decide)) e
      have := cS_big y i
      omega
  have last : SCO g A V S (x + 1) (iw x) (is x (iw x)) := c3.2.2 (iw x) (by omega)
  have st13 : STC g A2 T 13 (is x (iw x)) := by
    have q0 : STC g A (sI (sI S 1112 (A 0) (nI x)) 501 (A (cP (x + 1))) (nI (iw x))) (cS (x + 1) (iw x)) (is x (iw x)) := last.2.2.cg (by rw [pI_n (by decide), pI_n (by decide)]) (by rw [pI_n (by decide), pI_n (by decide)]) (by rw [pI_n (by decide), pI_n (by decide)]) (by rw [pI_n (by decide), pI_n (by decide)]) (by rw [pI_n (by decide), pI_n (by decide)]) (fun _ => rfl) (fun _ => rfl) (fun _ => rfl)
    have q1 : STC g A S16 13 (is x (iw x)) := c16.st h.gb q0
    show STX g T (A2 13) (A2 14) (A2 16) (A2 18) (A2 15) (A2 17) (A2 19) _
    rw [eA 13 (by decide), eA 14 (by decide), eA 16 (by decide), eA 18 (by decide), eA 15 (by decide), eA 17 (by decide), eA 19 (by decide)]
    have kI2 : ∀ f c, c < 92 → f ≠ 501 → pI T f (A c) = pI S16 f (A c) := fun f c hc hf => by rw [F.2.2.1 f c (hV c hc) (fun z => hf z.1) (cS_no hc), pI_n hf]
    have kA2 : ∀ c i, c < 92 → pA T (A c) i = pA S16 (A c) i := fun c i hc => by rw [F.2.2.2.1 c i (hV c hc) (cS_no hc), pA_sI]
    exact q1.cg (kI2 _ _ (by decide) (by decide)) (kI2 _ _ (by decide) (by decide)) (kI2 _ _ (by decide) (by decide)) (kI2 _ _ (by decide) (by decide)) (kI2 _ _ (by decide) (by decide)) (fun i => kA2 15 i (by decide)) (fun i => kA2 17 i (by decide)) (fun i => kA2 19 i (by decide))
  have R := h.re (T := sI (sI T2 1241 (A2 60) (nI (iw x))) 1242 (A2 60) 0) (A2 := A2) (st := is x (iw x)) lW (fun f c hc q1 q2 => by
    have hf : f ≠ 1112 ∧ f ≠ 1200 ∧ f ≠ 1272 ∧ f ≠ 501 ∧ f ≠ 1241 ∧ f ≠ 1242 ∧ f ≠ 1114 := ⟨fun e => q1 (by rw [e]; decide), fun e => q1 (by rw [e]; decide), fun e => q1 (by rw [e]; decide), fun e => q1 (by rw [e]; decide), fun e => q1 (by rw [e]; decide), fun e => q1 (by rw [e]; decide), fun e => q1 (by rw [e]; decide)⟩
    rw [fI f _ hf.2.2.2.2.2.1 hf.2.2.2.2.1 hf.2.2.1 hf.2.1 hf.2.2.2.2.2.2, kI f c hc hf.2.2.2.1 hf.1 (fun z => q2 (List.mem_append_right _ z))]) (fun c i hc q => by
    have e : c ≠ 80 ∧ c ≠ 82 := ⟨fun e => q (by rw [e]; decide), fun e => q (by rw [e]; decide)⟩
    rw [fA _ _ (n80 c hc e.1) (n82 c hc e.2), kA c i hc (fun z => q ?_)]
    simp only [List.mem_cons, List.not_mem_nil, or_false] at z
    rcases z with z | z | z <;> rw [z] <;> decide) (by
    rw [pI_e, pI_n (by decide), pI_n (by decide), r3.2.2.2.2.2.1, r2.2.2.2.2.2.1, pI_n (by decide), pI_n (by decide), pI_e]) last.2.1 (st13.cg (fI _ _ (by decide) (by decide) (by decide) (by decide) (by decide)) (fI _ _ (by decide) (by decide) (by decide) (by decide) (by decide)) (fI _ _ (by decide) (by decide) (by decide) (by decide) (by decide)) (fI _ _ (by decide) (by decide) (by decide) (by decide) (by decide)) (fI _ _ (by decide) (by decide) (by decide) (by decide) (by decide)) (fun i => fA _ _ (n80 15 (by decide) (by decide)) (n82 15 (by decide) (by decide))) (fun i => fA _ _ (n80 17 (by decide) (by decide)) (n82 17 (by decide) (by decide))) (fun i => fA _ _ (n80 19 (by decide) (by decide)) (n82 19 (by decide) (by decide)))) (fun i hi => by
    show pA T2 (A2 80) i = _
    rw [r4 i hi]
    show pA T (A2 91) _ = _
    rw [kA 91 _ (by decide) (by decide), c5 i hi])
  have B : HB g A2 V2 (sI (sI T2 1241 (A2 60) (nI (iw x))) 1242 (A2 60) 0) (iw x) x (is x) iw is := by
    refine ⟨c2, by omega, ?_, ?_, ?_, ⟨?_, by omega, fun i hi => ?_⟩, fun i j hi hj => ?_, fun y hy => ?_⟩
    · rw [pI_n (by decide), pI_e]
    · rw [fI _ _ (by decide) (by decide) (by decide) (by decide) (by decide), e1112]
    · rw [pI_n (by decide), pI_n (by decide), r3.2.2.2.2.2.1, r2.2.2.2.2.2.1, pI_e]
    · rw [fI _ _ (by decide) (by decide) (by decide) (by decide) (by decide), h5]
    · exact SE 0 i _ (by omega) (hs2.2.2.2.2.2.1.sl (by omega) (hp i hi).1).2 (hp i hi)
    · show pA T2 (A2 82) _ = _
      rw [r5 _ (by omega)]
      show pA T (A2 91) _ = _
      rw [kA 91 _ (by decide) (by decide), show 851 * x + 50 + (50 * i + j) = 851 * x + 50 + 50 * i + j by omega, c6 i j hi hj]
    · obtain ⟨d1, d2, d3, d4, d5, d6⟩ := b8 y (by omega)
      have hPy : PLAY A V S (y + 1) := PLAY.gr0 hs (by omega) d1
      have w91 : ∀ i, pA (sI (sI T2 1241 (A2 60) (nI (iw x))) 1242 (A2 60) 0) (A2 91) i = pA S (A 91) i := fun i => by rw [fA _ _ (n80 91 (by decide) (by decide)) (n82 91 (by decide) (by decide)), kA 91 _ (by decide) (by decide)]
      refine ⟨(F.1 _ d1).1, d2, ⟨?_, d3.2.1, fun i hi => ?_⟩, by rw [w91, d4], fun j hj => by rw [w91, d5 j hj], fun i j hi hj => by rw [w91, d6 i j hi hj]⟩
      · rw [fI _ _ (by decide) (by decide) (by decide) (by decide) (by decide), (F.1 _ d1).2, F.2.2.1 _ _ d1 (fun z => by have := cP_ne z.2; omega) (fun i q _ _ => cP_S (by omega))]
        have ny : A (cP (y + 1)) ≠ A 56 := fun e => by
          have := hs.1 _ _ d1 (hV 56 (by decide)) e
          have := cP_big y
          omega
        have ny2 : A (cP (y + 1)) ≠ A (cP (x + 1)) := fun e => by
          have := cP_ne (hs.1 _ _ d1 c1 e)
          omega
        rw [pI_sI, if_neg (fun z => ny z.2), k16.2.2.2.2.2.1 _ _ (fun z => absurd z.1 (by decide)) (fun z => absurd z.1 (by decide)), pI_sI, if_neg (fun z => ny2 z.2), pI_n (by decide)]
        exact d3.1
      · have q : SCO g A V S (y + 1) i (is y i) := d3.2.2 i hi
        have hi17 : i < 17 := by have := d3.2.1; omega
        have hsl := (hPy.sl hi17 q.1).2
        have q1 : SCO g A V (sI (sI S 1112 (A 0) (nI x)) 501 (A (cP (x + 1))) (nI (iw x))) (y + 1) i (is y i) := q.eq (fun f a hf => by rw [pI_n (by omega), pI_n (by omega)]) (fun _ _ _ => rfl)
        have q2 : SCO g A V S16 (y + 1) i (is y i) := q1.c13 hs.1 hV hsl k16
        have q3 : SCO g A V (sI S16 501 (A 56) 0) (y + 1) i (is y i) := q2.eq (fun f a hf => pI_n (by omega)) (fun _ _ _ => rfl)
        have hsb : HS A V (sI S16 501 (A 56) 0) := hs.eqv k16.1 k16.2.1 k16.2.2.1 k16.2.2.2.1 k16.2.2.2.2.1
        have q4 := q3.fr (((PLAY.gr0 hsb (h := y + 1) (by omega) d1).sl hi17 q.1).2) hi17 (by omega) F (by decide)
        exact SE _ i _ hi17 (((PLAY.gr0 hs2 (h := y + 1) (by omega) (F.1 _ d1).1).sl hi17 q4.1).2) q4
  refine ⟨sI (sI T2 1241 (A2 60) (nI (iw x))) 1242 (A2 60) 0, ?_, A2, V2, gS g (is x (iw x)), rfl, rfl, R.1, R.2.1, R.2.2.1, R.2.2.2, hsW.mk (show HB (gS g (is x (iw x))) A2 V2 _ _ _ _ _ _ from B)⟩
  unfold m_X12_restore
  rw [e1272, if_neg (nI_ne0 (by omega) (by omega)), show nI (x + 1) - 1 = nI x from nI_pred .., lt_mk, pI_e, r1, ob_mk, pI_n (by decide), pI_n (by decide), r3.2.2.2.2.2.1, r2.2.2.2.2.2.1, pI_e, pI_n (by decide), e1112]
