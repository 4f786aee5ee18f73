/-- KP by codes -/
def KV (A : Nat → Nat) (V : Nat → Prop) (S T : pq_S) : Prop := (∀ f c, V c → f ∉ scrF → (f, c) ∉ scrP → pI T f (A c) = pI S f (A c)) ∧ (∀ c i, V c → c ∉ scrA → pA T (A c) i = pA S (A c) i) ∧ (∀ f c, V c → f ≠ 404 → pR T f (A c) = pR S f (A c)) ∧ (∀ c, V c → pN T (A c) = pN S (A c)) ∧ (∀ c i, V c → pQ T (A c) i = pQ S (A c) i) ∧ (∀ a k, TY S a k → TY T a k)
theorem scrA92 : ∀ j ∈ scrA, j < 92 := by decide
theorem scrP92 : ∀ e ∈ scrP, e.2 < 92 := by decide
theorem HIST.kv {g : GH} {A : Nat → Nat} {V : Nat → Prop} {S T : pq_S} (h : HIST g A V S) (k : KP A S T) : KV A V S T := by
  refine ⟨fun f c hc h1 h2 => k.2.2.2.2.1 f _ h1 (fun e he e1 e2 => ?_) (h.2.1 c hc), fun c i hc h1 => k.2.2.2.2.2.1 _ i (h.2.1 c hc) (fun j hj e => ?_) (fun e => (h.2.2.2.2.1 _ e).2.2 c hc rfl), fun f c hc h1 => k.2.1 f _ h1 (h.2.1 c hc), fun c hc => k.2.2.1 _ (h.2.1 c hc), fun c i hc => k.2.2.2.1 _ i (h.2.1 c hc), k.1⟩
  · have := h.1 c e.2 hc (h.2.2.1 _ (scrP92 e he)) e2
    subst this
    subst e1
    exact h2 he
  · have := h.1 c j hc (h.2.2.1 _ (scrA92 j hj)) e
    subst this
    exact h1 hj
theorem LAY.kv {A : Nat → Nat} {V : Nat → Prop} {S T : pq_S} (h : LAY A S) (k : KV A V S T) (hV : ∀ c, c < 92 → V c) : LAY A T := by
  have e1 : ∀ e ∈ ly_R, e.1 < 92 ∧ e.2.1 ≠ 404 := by decide
  have e3 : ∀ e ∈ ly_N, e.1 < 92 := by decide
  have e4 : ∀ e ∈ ly_W, e.1 < 92 ∧ (901, e.1) ∉ scrP := by decide
  exact ⟨fun e he => (k.2.2.1 _ _ (hV _ (e1 e he).1) (e1 e he).2).trans (h.1 e he), fun e he => k.2.2.2.2.2 _ _ (h.2.1 e he), fun e he => (k.2.2.2.1 _ (hV _ (e3 e he))).trans (h.2.2.1 e he), fun e he => (k.1 _ _ (hV _ (e4 e he).1) (by decide) (e4 e he).2).trans (h.2.2.2.1 e he), h.2.2.2.2⟩
theorem STX.cg {g : GH} {S T : pq_S} {a t0 t1 t2 c0 c1 c2 : Nat} {st : Nat → Int32} (h : STX g S a t0 t1 t2 c0 c1 c2 st) (h0 : pI T 902 t0 = pI S 902 t0) (h1 : pI T 902 t1 = pI S 902 t1) (h2 : pI T 902 t2 = pI S 902 t2) (h3 : pI T 803 a = pI S 803 a) (h4 : pI T 804 a = pI S 804 a) (h5 : ∀ i, pA T c0 i = pA S c0 i) (h6 : ∀ i, pA T c1 i = pA S c1 i) (h7 : ∀ i, pA T c2 i = pA S c2 i) : STX g T a t0 t1 t2 c0 c1 c2 st := ⟨⟨h0.trans h.1.1, h1.trans h.1.2.1, h2.trans h.1.2.2.1, h3.trans h.1.2.2.2.1, h4.trans h.1.2.2.2.2⟩, fun p hp => ⟨(h5 _).trans (h.2.1 p hp).1, (h5 _).trans (h.2.1 p hp).2.1, (h5 _).trans (h.2.1 p hp).2.2⟩, fun p hp => ⟨(h6 _).trans (h.2.2.1 p hp).1, (h6 _).trans (h.2.2.1 p hp).2⟩, fun p hp => ⟨(h7 _).trans (h.2.2.2 p hp).1, (h7 _).trans (h.2.2.2 p hp).2⟩⟩
theorem CORE.kv {g : GH} {A : Nat → Nat} {V : Nat → Prop} {S T : pq_S} (h : CORE g S A) (k : KV A V S T) (hV : ∀ c, c < 92 → V c) : CORE g T A := by
  have kI : ∀ f c, c < 92 → f ∉ scrF → (f, c) ∉ scrP → pI T f (A c) = pI S f (A c) := fun f c hc => k.1 f c (hV c hc)
  have kA : ∀ c i, c < 92 → c ∉ scrA → pA T (A c) i = pA S (A c) i := fun c i hc => k.2.1 c i (hV c hc)
  obtain ⟨h1, h2, h3, ⟨⟨x0, x1, x2, x3, x4, x5⟩, y0, y1, y2, y3⟩, ⟨⟨u0, u1, u2, u3, u4, u5⟩, v0, v1, v2, v3⟩, h6, h7⟩ := h
  refine ⟨h1.kv k hV, h2, h3, ⟨⟨(kI _ _ (by decide) (by decide) (by decide)).trans x0, (kI _ _ (by decide) (by decide) (by decide)).trans x1, (kI _ _ (by decide) (by decide) (by decide)).trans x2, (kI _ _ (by decide) (by decide) (by decide)).trans x3, (kI _ _ (by decide) (by decide) (by decide)).trans x4, (kI _ _ (by decide) (by decide) (by decide)).trans x5⟩, fun i hi => (kA _ _ (by decide) (by decide)).trans (y0 i hi), fun i hi => (kA _ _ (by decide) (by decide)).trans (y1 i hi), fun i hi => (kA _ _ (by decide) (by decide)).trans (y2 i hi), fun i hi => (kA _ _ (by decide) (by decide)).trans (y3 i hi)⟩, ⟨⟨(kI _ _ (by decide) (by decide) (by decide)).trans u0, (kI _ _ (by decide) (by decide) (by decide)).trans u1, (kI _ _ (by decide) (by decide) (by decide)).trans u2, (kI _ _ (by decide) (by decide) (by decide)).trans u3, (kI _ _ (by decide) (by decide) (by decide)).trans u4, (kI _ _ (by decide) (by decide) (by decide)).trans u5⟩, fun i hi => (kA _ _ (by decide) (by decide)).trans (v0 i hi), fun i hi => (kA _ _ (by decide) (by decide)).trans (v1 i hi), fun i hi => (kA _ _ (by decide) (by decide)).trans (v2 i hi), fun i hi => (kA _ _ (by decide) (by decide)).trans (v3 i hi)⟩, ?_, fun i hi => (kA _ _ (by decide) (by decide)).trans (h7 i hi)⟩
  exact h6.cg (kI _ _ (by decide) (by decide) (by decide)) (kI _ _ (by decide) (by decide) (by decide)) (kI _ _ (by decide) (by decide) (by decide)) (kI _ _ (by decide) (by decide) (by decide)) (kI _ _ (by decide) (by decide) (by decide)) (fun i => kA _ _ (by decide) (by decide)) (fun i => kA _ _ (by decide) (by decide)) (fun i => kA _ _ (by decide) (by decide))
theorem LW.kv {g : GH} {A : Nat → Nat} {V : Nat → Prop} {S T : pq_S} (h : LW g S A) (k : KV A V S T) (hV : ∀ c, c < 92 → V c) : LW g T A := by
  have kI : ∀ f c, c < 92 → f ∉ scrF → (f, c) ∉ scrP → pI T f (A c) = pI S f (A c) := fun f c hc => k.1 f c (hV c hc)
  have kA : ∀ c i, c < 92 → c ∉ scrA → pA T (A c) i = pA S (A c) i := fun c i hc => k.2.1 c i (hV c hc)
  intro w hw
  obtain ⟨h1, h2, h3, h4, h5⟩ := h w hw
  have hw2 : w = 0 ∨ w = 1 := by omega
  refine ⟨h1, ?_, (kA _ _ (by decide) (by decide)).trans h3, fun q hq => ⟨(h4 q hq).1, ?_, (kA _ _ (by decide) (by decide)).trans (h4 q hq).2.2.1, (kA _ _ (by decide) (by decide)).trans (h4 q hq).2.2.2⟩, h5⟩
  · rcases hw2 with e | e <;> subst e
    · exact (kI _ _ (by decide) (by decide) (by decide)).trans h2
    · exact (kI _ _ (by decide) (by decide) (by decide)).trans h2
  · rcases hw2 with e | e <;> subst e
    · exact (kA _ _ (by decide) (by decide)).trans (h4 q hq).2.1
    · exact (kA _ _ (by decide) (by decide)).trans (h4 q hq).2.1
theorem BOOK.kv {g : GH} {A : Nat → Nat} {V : Nat → Prop} {S T : pq_S} (h : BOOK g S A) (k : KV A V S T) (hV : ∀ c, c < 92 → V c) : BOOK g T A := by
  have kI : ∀ f c, c < 92 → f ∉ scrF → (f, c) ∉ scrP → pI T f (A c) = pI S f (A c) := fun f c hc => k.1 f c (hV c hc)
  have kA : ∀ c i, c < 92 → c ∉ scrA → pA T (A c) i = pA S (A c) i := fun c i hc => k.2.1 c i (hV c hc)
  obtain ⟨h1, h2, h3, h4, h5, h6⟩ := h
  exact ⟨h1, (kI _ _ (by decide) (by decide) (by decide)).trans h2, (kI _ _ (by decide) (by decide) (by decide)).trans h3, fun i hi => ⟨(h4 i hi).1, (h4 i hi).2.1, (kA _ _ (by decide) (by decide)).trans (h4 i hi).2.2.1, (kA _ _ (by decide) (by decide)).trans (h4 i hi).2.2.2.1, (kA _ _ (by decide) (by decide)).trans (h4 i hi).2.2.2.2⟩, h5, fun p hp hq => (kA _ _ (by decide) (by decide)).trans (h6 p hp hq)⟩
theorem TAPE.kv {A : Nat → Nat} {V : Nat → Prop} {S T : pq_S} (h : TAPE S A) (k : KV A V S T) (hV : ∀ c, c < 92 → V c) : TAPE T A := by
  have kI : ∀ f c, c < 92 → f ∉ scrF → (f, c) ∉ scrP → pI T f (A c) = pI S f (A c) := fun f c hc => k.1 f c (hV c hc)
  have kA : ∀ c i, c < 92 → c ∉ scrA → pA T (A c) i = pA S (A c) i := fun c i hc => k.2.1 c i (hV c hc)
  obtain ⟨h1, h2, h3, h4, tp, h5, h6, h7, h8⟩ := h
  refine ⟨?_, ?_, ?_, ?_, tp, h5, (kI _ _ (by decide) (by decide) (by decide)).trans h6, (kI _ _ (by decide) (by decide) (by decide)).trans h7, fun i hi => ?_⟩
  · rw [kI 1113 0 (by decide) (by decide) (by decide), kI 1208 60 (by decide) (by decide) (by decide)]; exact h1
  · rw [kI 1115 0 (by decide) (by decide) (by decide), kA 61 0 (by decide) (by decide)]; exact h2
  · rw [kI 1116 0 (by decide) (by decide) (by decide), kA 61 1 (by decide) (by decide)]; exact h3
  · rw [kI 1114 0 (by decide) (by decide) (by decide), kI 1242 60 (by decide) (by decide) (by decide)]; exact h4
  · obtain ⟨b, hb, e1, e2⟩ := h8 i hi
    exact ⟨b, hb, (kA _ _ (by decide) (by decide)).trans e1, (kA _ _ (by decide) (by decide)).trans e2⟩
theorem SLAY.kv {A : Nat → Nat} {V : Nat → Prop} {S T : pq_S} {c : Nat} (h : SLAY A V S c) (k : KV A V S T) : SLAY A V T c := by
  obtain ⟨h0, h1, ⟨h2, h3, h4⟩, ⟨h5, h6, h7⟩, ⟨h8, h9, h10⟩, ⟨h11, h12, h13⟩, h14, h15, h16⟩ := h
  have kT := k.2.2.2.2.2
  have kR : ∀ f q, q < 7 → f ≠ 404 → pR T f (A (c + q)) = pR S f (A (c + q)) := fun f q hq => k.2.2.1 f _ (h0 q hq)
  have kN : ∀ q, q < 7 → pN T (A (c + q)) = pN S (A (c + q)) := fun q hq => k.2.2.2.1 _ (h0 q hq)
  exact ⟨h0, kT _ _ h1, ⟨kT _ _ h2, kT _ _ h3, kT _ _ h4⟩, ⟨kT _ _ h5, kT _ _ h6, kT _ _ h7⟩, ⟨(kR 800 0 (by decide) (by decide)).trans h8, (kR 801 0 (by decide) (by decide)).trans h9, (kR 802 0 (by decide) (by decide)).trans h10⟩, ⟨(kR 900 1 (by decide) (by decide)).trans h11, (kR 900 3 (by decide) (by decide)).trans h12, (kR 900 5 (by decide) (by decide)).trans h13⟩, (kN 2 (by decide)).trans h14, (kN 4 (by decide)).trans h15, (kN 6 (by decide)).trans h16⟩
theorem PLAY.kv {A : Nat → Nat} {V : Nat → Prop} {S T : pq_S} {h : Nat} (hh : PLAY A V S h) (k : KV A V S T) : PLAY A V T h := by
  obtain ⟨h1, h2, h3, h4, h5, h6, h7⟩ := hh
  refine ⟨h1, h2, k.2.2.2.2.2 _ _ h3, k.2.2.2.2.2 _ _ h4, (k.2.2.1 _ _ h1 (by decide)).trans h5, (k.2.2.2.1 _ h2).trans h6, fun i hi => ?_⟩
  rcases h7 i hi with ⟨q1, q2, q3⟩ | ⟨q1, q2⟩
  · exact Or.inl ⟨q1, (k.2.2.2.2.1 _ i h2).trans q2, q3.kv k⟩
  · exact Or.inr ⟨q1, (k.2.2.2.2.1 _ i h2).trans q2⟩
theorem cS_big (h i : Nat) : 200 ≤ cS h i := by unfold cS; omega
theorem scrF_no (c : Nat) (f : Nat) (h : 92 ≤ c) : (f, c) ∉ scrP := fun q => by have := scrP92 _ q; omega
theorem scrA_no (c : Nat) (h : 92 ≤ c) : c ∉ scrA := fun q => by have := scrA92 _ q; omega
theorem cP_no (h : Nat) : (501, cP h) ∉ scrP := by
  have : ∀ e ∈ scrP, e.1 ≠ 501 := by decide
  exact fun q => this _ q rfl
theorem PST.kv {g : GH} {A : Nat → Nat} {V : Nat → Prop} {S T : pq_S} {h n : Nat} {ps : Nat → Nat → Int32} (hp : PLAY A V S h) (hh : PST g A V S h n ps) (k : KV A V S T) : PST g A V T h n ps := by
  refine ⟨(k.1 _ _ hp.1 (by decide) (cP_no h)).trans hh.1, hh.2.1, fun i hi => ?_⟩
  obtain ⟨h1, h2, h3⟩ := hh.2.2 i hi
  have hn : n ≤ 17 := hh.2.1
  have hV : ∀ q, q < 7 → V (cS h i + q) := by
    rcases hp.2.2.2.2.2.2 i (by omega) with ⟨_, _, q3⟩ | ⟨q1, _⟩
    · exact q3.1
    · exact absurd h1 q1
  have kI : ∀ f q, q < 7 → f ∉ scrF → pI T f (A (cS h i + q)) = pI S f (A (cS h i + q)) := fun f q hq hf => k.1 f _ (hV q hq) hf (scrF_no _ _ (by have := cS_big h i; omega))
  have kA : ∀ q j, q < 7 → pA T (A (cS h i + q)) j = pA S (A (cS h i + q)) j := fun q j hq => k.2.1 _ j (hV q hq) (scrA_no _ (by have := cS_big h i; omega))
  exact ⟨h1, h2, h3.cg (kI 902 1 (by decide) (by decide)) (kI 902 3 (by decide) (by decide)) (kI 902 5 (by decide) (by decide)) (kI 803 0 (by decide) (by decide)) (kI 804 0 (by decide) (by decide)) (fun j => kA 2 j (by decide)) (fun j => kA 4 j (by decide)) (fun j => kA 6 j (by decide))⟩
theorem HIST.kp {g : GH} {A : Nat → Nat} {V : Nat → Prop} {S T : pq_S} (h : HIST g A V S) (kp : KP A S T) : HIST g A V T := by
  have k := h.kv kp
  obtain ⟨h1, h2, h3, h4, h5, h6, h7, wk, im, ps, iw, is, b1, b2, b3, b4, b5, b6, b7, b8⟩ := h
  have kI : ∀ f c, c < 92 → f ∉ scrF → (f, c) ∉ scrP → pI T f (A c) = pI S f (A c) := fun f c hc => k.1 f c (h3 c hc)
  have kA : ∀ c i, c < 92 → c ∉ scrA → pA T (A c) i = pA S (A c) i := fun c i hc => k.2.1 c i (h3 c hc)
  refine ⟨h1, fun c hc => kp.mem (h2 c hc), h3, h4, fun r hr => ?_, h6.kv k, fun h hh => ?_, wk, im, ps, iw, is, b1, b2, (kI _ _ (by decide) (by decide) (by decide)).trans b3, (kI _ _ (by decide) (by decide) (by decide)).trans b4, (kI _ _ (by decide) (by decide) (by decide)).trans b5, b6.kv h6 k, fun i j hi hj => (kA _ _ (by decide) (by decide)).trans (b7 i j hi hj), fun h hh => ?_⟩
  · rcases kp.2.2.2.2.2.2 with e | ⟨e0, r2, e1, e2, e3, e4⟩
    · have := h5 r (e ▸ hr)
      exact ⟨kp.1 _ _ this.1, (kp.2.2.1 r this.1.1).trans this.2.1, this.2.2⟩
    · rw [e1] at hr
      cases hr
      exact ⟨e3, e4, fun c hc q => e2 (q ▸ h2 c hc)⟩
  · rcases h7 h hh with ⟨q1, q2, q3⟩ | ⟨q1, q2, q3⟩
    · exact Or.inl ⟨q1, (k.2.2.2.2.1 _ _ (h3 58 (by decide))).trans q2, q3.kv k⟩
    · exact Or.inr ⟨q1, (k.2.2.2.2.1 _ _ (h3 58 (by decide))).trans q2, q3⟩
  · obtain ⟨c1, c2, c3, c4, c5, c6⟩ := b8 h hh
    have hP : PLAY A V S (h + 1) := by
      rcases h7 h (by omega) with ⟨_, _, q3⟩ | ⟨q1, _⟩
      · exact q3
      · exact absurd c1 q1
    exact ⟨c1, c2, c3.kv hP k, (kA _ _ (by decide) (by decide)).trans c4, fun j hj => (kA _ _ (by decide) (by decide)).trans (c5 j hj), fun i j hi hj => (kA _ _ (by decide) (by decide)).trans (c6 i j hi hj)⟩
/-- all of it, with its witnesses -/
def JG (A : Nat → Nat) (V : Nat → Prop) (g : GH) (S : pq_S) : Prop := CORE g S A ∧ LW g S A ∧ BOOK g S A ∧ TAPE S A ∧ HIST g A V S
theorem JG.kp {A : Nat → Nat} {V : Nat → Prop} {g : GH} {S T : pq_S} (h : JG A V g S) (k : KP A S T) : JG A V g T := by
  have hv := h.2.2.2.2.kv k
  have h3 := h.2.2.2.2.2.2.1
  exact ⟨h.1.kv hv h3, h.2.1.kv hv h3, h.2.2.1.kv hv h3, h.2.2.2.1.kv hv h3, h.2.2.2.2.kp k⟩
theorem JG.tr {A : Nat → Nat} {V : Nat → Prop} {g : GH} {S T U : pq_S} (h : JG A V g S) (k1 : KP A S T) (k2 : KP A T U) : KP A S U := k1.tr k2 fun r hr => (h.2.2.2.2.2.2.2.2.1 r hr).1.1
theorem JG.jj {A : Nat → Nat} {V : Nat → Prop} {g : GH} {S : pq_S} (h : JG A V g S) : JJ (A 0) (A 60) S := ⟨A, V, g, rfl, rfl, h⟩
