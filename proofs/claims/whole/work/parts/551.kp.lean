/-- KP by codes -/
def KVL (F : List Nat) (P : List (Nat × Nat)) (AA : List Nat) (A : Nat → Nat) (V : Nat → Prop) (S T : pq_S) : Prop := (∀ f c, V c → f ∉ F → (f, c) ∉ P → pI T f (A c) = pI S f (A c)) ∧ (∀ c i, V c → c ∉ AA → pA T (A c) i = pA S (A c) i) ∧ (∀ f c, V c → f ≠ 404 → pR T f (A c) = pR S f (A c)) ∧ (∀ c, V c → pN T (A c) = pN S (A c)) ∧ (∀ c i, V c → pQ T (A c) i = pQ S (A c) i) ∧ (∀ a k, TY S a k → TY T a k)
theorem scrA92 : ∀ j ∈ scrA, j < 92 := by decide
theorem scrP92 : ∀ e ∈ scrP, e.2 < 92 := by decide
theorem HIST.kv {F : List Nat} {P : List (Nat × Nat)} {AA : List Nat} (hP92 : ∀ e ∈ P, e.2 < 92) (hA92 : ∀ j ∈ AA, j < 92) {g : GH} {A : Nat → Nat} {V : Nat → Prop} {S T : pq_S} (h : HIST g A V S) (k : KPL F P AA A S T) : KVL F P AA A V S T := by
  refine ⟨fun f c hc h1 h2 => k.2.2.2.2.1 f _ h1 (fun e he e1 e2 => ?_) (h.2.1 c hc), fun c i hc h1 => k.2.2.2.2.2.1 _ i (h.2.1 c hc) (fun j hj e => ?_) (fun e => (h.2.2.2.2.1 _ e).2.2 c hc rfl), fun f c hc h1 => k.2.1 f _ h1 (h.2.1 c hc), fun c hc => k.2.2.1 _ (h.2.1 c hc), fun c i hc => k.2.2.2.1 _ i (h.2.1 c hc), k.1⟩
  · have := h.1 c e.2 hc (h.2.2.1 _ (hP92 e he)) e2
    subst this
    subst e1
    exact h2 he
  · have := h.1 c j hc (h.2.2.1 _ (hA92 j hj)) e
    subst this
    exact h1 hj
theorem LAY.kv {F : List Nat} {P : List (Nat × Nat)} {AA : List Nat} {A : Nat → Nat} {V : Nat → Prop} {S T : pq_S} (h : LAY A S) (k : KVL F P AA A V S T) (hV : ∀ c, c < 92 → V c) (h901 : 901 ∉ F) (h901P : ∀ e ∈ P, e.1 ≠ 901) : LAY A T := by
  have e1 : ∀ e ∈ ly_R, e.1 < 92 ∧ e.2.1 ≠ 404 := by decide
  have e3 : ∀ e ∈ ly_N, e.1 < 92 := by decide
  have e4 : ∀ e ∈ ly_W, e.1 < 92 := by decide
  exact ⟨fun e he => (k.2.2.1 _ _ (hV _ (e1 e he).1) (e1 e he).2).trans (h.1 e he), fun e he => k.2.2.2.2.2 _ _ (h.2.1 e he), fun e he => (k.2.2.2.1 _ (hV _ (e3 e he))).trans (h.2.2.1 e he), fun e he => (k.1 _ _ (hV _ (e4 e he)) h901 (fun q => h901P _ q rfl)).trans (h.2.2.2.1 e he), h.2.2.2.2⟩
theorem STX.cg {g : GH} {S T : pq_S} {a t0 t1 t2 c0 c1 c2 : Nat} {st : Nat → Int32} (h : STX g S a t0 t1 t2 c0 c1 c2 st) (h0 : pI T 902 t0 = pI S 902 t0) (h1 : pI T 902 t1 = pI S 902 t1) (h2 : pI T 902 t2 = pI S 902 t2) (h3 : pI T 803 a = pI S 803 a) (h4 : pI T 804 a = pI S 804 a) (h5 : ∀ i, pA T c0 i = pA S c0 i) (h6 : ∀ i, pA T c1 i = pA S c1 i) (h7 : ∀ i, pA T c2 i = pA S c2 i) : STX g T a t0 t1 t2 c0 c1 c2 st := ⟨⟨h0.trans h.1.1, h1.trans h.1.2.1, h2.trans h.1.2.2.1, h3.trans h.1.2.2.2.1, h4.trans h.1.2.2.2.2⟩, fun p hp => ⟨(h5 _).trans (h.2.1 p hp).1, (h5 _).trans (h.2.1 p hp).2.1, (h5 _).trans (h.2.1 p hp).2.2⟩, fun p hp => ⟨(h6 _).trans (h.2.2.1 p hp).1, (h6 _).trans (h.2.2.1 p hp).2⟩, fun p hp => ⟨(h7 _).trans (h.2.2.2 p hp).1, (h7 _).trans (h.2.2.2 p hp).2⟩⟩
def rCX : List (Nat × Nat) := [(902, 5), (902, 7), (902, 9), (902, 11), (104, 4), (105, 4)]
def aCX : List Nat := [6, 8, 10, 12]
def rCM : List (Nat × Nat) := [(1224, 60), (1225, 60), (1226, 60), (1227, 60), (1228, 60), (1229, 60)]
def aCM : List Nat := [67, 68, 69, 70]
def rST : List (Nat × Nat) := [(902, 14), (902, 16), (902, 18), (803, 13), (804, 13)]
def aST : List Nat := [15, 17, 19, 80]
def rLW : List (Nat × Nat) := [(203, 20), (203, 24)]
def aLW : List Nat := [21, 25, 73, 74, 75]
def rBK : List (Nat × Nat) := [(1, 52), (1251, 60)]
def aBK : List Nat := [53, 84] ++ [59]
def rTP : List (Nat × Nat) := [(1113, 0), (1208, 60), (1115, 0), (1116, 0), (1114, 0), (1242, 60), (1001, 1), (1202, 60)]
def aTP : List Nat := [2, 61, 62]
def EqF (A : Nat → Nat) (l : List (Nat × Nat)) (S T : pq_S) : Prop := ∀ e ∈ l, pI T e.1 (A e.2) = pI S e.1 (A e.2)
def EqA (A : Nat → Nat) (l : List Nat) (S T : pq_S) : Prop := ∀ c ∈ l, ∀ i, pA T (A c) i = pA S (A c) i
theorem CX.cg {g : GH} {A : Nat → Nat} {S T : pq_S} (h : CX g S A) (k : EqF A rCX S T) (l : EqA A aCX S T) : CX g T A := by
  obtain ⟨⟨x0, x1, x2, x3, x4, x5⟩, y0, y1, y2, y3⟩ := h
  exact ⟨⟨(k (902, 5) (by decide)).trans x0, (k (902, 7) (by decide)).trans x1, (k (902, 9) (by decide)).trans x2, (k (902, 11) (by decide)).trans x3, (k (104, 4) (by decide)).trans x4, (k (105, 4) (by decide)).trans x5⟩, fun i hi => (l _ (by decide) _).trans (y0 i hi), fun i hi => (l _ (by decide) _).trans (y1 i hi), fun i hi => (l _ (by decide) _).trans (y2 i hi), fun i hi => (l _ (by decide) _).trans (y3 i hi)⟩
theorem CM.cg {g : GH} {A : Nat → Nat} {S T : pq_S} (h : CM g S A) (k : EqF A rCM S T) (l : EqA A aCM S T) : CM g T A := by
  obtain ⟨⟨x0, x1, x2, x3, x4, x5⟩, y0, y1, y2, y3⟩ := h
  exact ⟨⟨(k (1224, 60) (by decide)).trans x0, (k (1225, 60) (by decide)).trans x1, (k (1226, 60) (by decide)).trans x2, (k (1227, 60) (by decide)).trans x3, (k (1228, 60) (by decide)).trans x4, (k (1229, 60) (by decide)).trans x5⟩, fun i hi => (l _ (by decide) _).trans (y0 i hi), fun i hi => (l _ (by decide) _).trans (y1 i hi), fun i hi => (l _ (by decide) _).trans (y2 i hi), fun i hi => (l _ (by decide) _).trans (y3 i hi)⟩
theorem CORE.cg {g : GH} {A : Nat → Nat} {S T : pq_S} (h : CORE g S A) (hL : LAY A T) (k : EqF A (rCX ++ rCM ++ rST) S T) (l : EqA A (aCX ++ aCM ++ aST) S T) : CORE g T A := by
  obtain ⟨h1, h2, h3, h4, h5, h6, h7⟩ := h
  refine ⟨hL, h2, h3, h4.cg (fun e he => k e (by simp [he])) (fun e he => l e (by simp [he])), h5.cg (fun e he => k e (by simp [he])) (fun e he => l e (by simp [he])), ?_, fun i hi => (l 80 (by decide) i).trans (h7 i hi)⟩
  exact h6.cg (k (902, 14) (by decide)) (k (902, 16) (by decide)) (k (902, 18) (by decide)) (k (803, 13) (by decide)) (k (804, 13) (by decide)) (fun i => l 15 (by decide) i) (fun i => l 17 (by decide) i) (fun i => l 19 (by decide) i)
theorem LW.cg {g : GH} {A : Nat → Nat} {S T : pq_S} (h : LW g S A) (k : EqF A rLW S T) (l : EqA A aLW S T) : LW g T A := by
  intro w hw
  obtain ⟨h1, h2, h3, h4, h5⟩ := h w hw
  have hw2 : w = 0 ∨ w = 1 := by omega
  refine ⟨h1, ?_, (l _ (by decide) _).trans h3, fun q hq => ⟨(h4 q hq).1, ?_, (l _ (by decide) _).trans (h4 q hq).2.2.1, (l _ (by decide) _).trans (h4 q hq).2.2.2⟩, h5⟩
  · rcases hw2 with e | e <;> subst e
    · exact (k (203, 20) (by decide)).trans h2
    · exact (k (203, 24) (by decide)).trans h2
  · rcases hw2 with e | e <;> subst e
    · exact (l 21 (by decide) _).trans (h4 q hq).2.1
    · exact (l 25 (by decide) _).trans (h4 q hq).2.1
theorem BOOK.cgk {g : GH} {A : Nat → Nat} {S T : pq_S} (h : BOOK g S A) (k : EqF A rBK S T) (l : EqA A [53, 84] S T) (r : LKR A T) : BOOK g T A := by
  obtain ⟨h1, h2, h3, h4, h5, h6⟩ := h
  exact ⟨⟨h1.1, r⟩, (k (1, 52) (by decide)).trans h2, (k (1251, 60) (by decide)).trans h3, fun i hi => ⟨(h4 i hi).1, (h4 i hi).2.1, (l _ (by decide) _).trans (h4 i hi).2.2.1, (l _ (by decide) _).trans (h4 i hi).2.2.2.1, (l _ (by decide) _).trans (h4 i hi).2.2.2.2⟩, h5, fun p hp hq => (l _ (by decide) _).trans (h6 p hp hq)⟩
theorem BOOK.cg {g : GH} {A : Nat → Nat} {S T : pq_S} (h : BOOK g S A) (k : EqF A rBK S T) (l : EqA A aBK S T) : BOOK g T A := h.cgk k (fun c hc => l c (List.mem_append_left _ hc)) ⟨(l 59 (by decide) 0).trans h.1.2.1, (l 59 (by decide) 1).trans h.1.2.2⟩
theorem TAPE.cg {A : Nat → Nat} {S T : pq_S} (h : TAPE S A) (k : EqF A rTP S T) (l : EqA A aTP S T) : TAPE T A := by
  obtain ⟨h1, h2, h3, h4, tp, h5, h6, h7, h8⟩ := h
  refine ⟨?_, ?_, ?_, ?_, tp, h5, (k (1001, 1) (by decide)).trans h6, (k (1202, 60) (by decide)).trans h7, fun i hi => ?_⟩
  · exact ((k (1113, 0) (by decide)).trans h1).trans (k (1208, 60) (by decide)).symm
  · exact ((k (1115, 0) (by decide)).trans h2).trans (l 61 (by decide) 0).symm
  · exact ((k (1116, 0) (by decide)).trans h3).trans (l 61 (by decide) 1).symm
  · exact ((k (1114, 0) (by decide)).trans h4).trans (k (1242, 60) (by decide)).symm
  · obtain ⟨b, hb, e1, e2⟩ := h8 i hi
    exact ⟨b, hb, (l _ (by decide) _).trans e1, (l _ (by decide) _).trans e2⟩
theorem KVL.eqF {F : List Nat} {P : List (Nat × Nat)} {AA : List Nat} {A : Nat → Nat} {V : Nat → Prop} {S T : pq_S} (k : KVL F P AA A V S T) (hV : ∀ c, c < 92 → V c) {l : List (Nat × Nat)} (h : ∀ e ∈ l, e.2 < 92 ∧ e.1 ∉ F ∧ e ∉ P) : EqF A l S T := fun e he => k.1 e.1 e.2 (hV _ (h e he).1) (h e he).2.1 (h e he).2.2
theorem KVL.eqA {F : List Nat} {P : List (Nat × Nat)} {AA : List Nat} {A : Nat → Nat} {V : Nat → Prop} {S T : pq_S} (k : KVL F P AA A V S T) (hV : ∀ c, c < 92 → V c) {l : List Nat} (h : ∀ c ∈ l, c < 92 ∧ c ∉ AA) : EqA A l S T := fun c hc i => k.2.1 c i (hV _ (h c hc).1) (h c hc).2
theorem SLAY.kv {F : List Nat} {P : List (Nat × Nat)} {AA : List Nat} {A : Nat → Nat} {V : Nat → Prop} {S T : pq_S} {c : Nat} (h : SLAY A V S c) (k : KVL F P AA A V S T) : SLAY A V T c := by
  obtain ⟨h0, h1, ⟨h2, h3, h4⟩, ⟨h5, h6, h7⟩, ⟨h8, h9, h10⟩, ⟨h11, h12, h13⟩, h14, h15, h16⟩ := h
  have kT := k.2.2.2.2.2
  have kR : ∀ f q, q < 7 → f ≠ 404 → pR T f (A (c + q)) = pR S f (A (c + q)) := fun f q hq => k.2.2.1 f _ (h0 q hq)
  have kN : ∀ q, q < 7 → pN T (A (c + q)) = pN S (A (c + q)) := fun q hq => k.2.2.2.1 _ (h0 q hq)
  exact ⟨h0, kT _ _ h1, ⟨kT _ _ h2, kT _ _ h3, kT _ _ h4⟩, ⟨kT _ _ h5, kT _ _ h6, kT _ _ h7⟩, ⟨(kR 800 0 (by decide) (by decide)).trans h8, (kR 801 0 (by decide) (by decide)).trans h9, (kR 802 0 (by decide) (by decide)).trans h10⟩, ⟨(kR 900 1 (by decide) (by decide)).trans h11, (kR 900 3 (by decide) (by decide)).trans h12, (kR 900 5 (by decide) (by decide)).trans h13⟩, (kN 2 (by decide)).trans h14, (kN 4 (by decide)).trans h15, (kN 6 (by decide)).trans h16⟩
theorem PLAY.kv {F : List Nat} {P : List (Nat × Nat)} {AA : List Nat} {A : Nat → Nat} {V : Nat → Prop} {S T : pq_S} {h : Nat} (hh : PLAY A V S h) (k : KVL F P AA A V S T) : PLAY A V T h := by
  obtain ⟨h1, h2, h3, h4, h5, h6, h7⟩ := hh
  refine ⟨h1, h2, k.2.2.2.2.2 _ _ h3, k.2.2.2.2.2 _ _ h4, (k.2.2.1 _ _ h1 (by decide)).trans h5, (k.2.2.2.1 _ h2).trans h6, fun i hi => ?_⟩
  rcases h7 i hi with ⟨q1, q2, q3⟩ | ⟨q1, q2⟩
  · exact Or.inl ⟨q1, (k.2.2.2.2.1 _ i h2).trans q2, q3.kv k⟩
  · exact Or.inr ⟨q1, (k.2.2.2.2.1 _ i h2).trans q2⟩
theorem cS_big (h i : Nat) : 200 ≤ cS h i := by unfold cS; omega
theorem PST.kv {F : List Nat} {P : List (Nat × Nat)} {AA : List Nat} (hF : ∀ f ∈ [501, 803, 804, 902], f ∉ F) (hP : ∀ e ∈ P, e.2 < 92 ∧ e.1 ≠ 501) (hA92 : ∀ j ∈ AA, j < 92) {g : GH} {A : Nat → Nat} {V : Nat → Prop} {S T : pq_S} {h n : Nat} {ps : Nat → Nat → Int32} (hpl : PLAY A V S h) (hh : PST g A V S h n ps) (k : KVL F P AA A V S T) : PST g A V T h n ps := by
  refine ⟨(k.1 _ _ hpl.1 (hF 501 (by decide)) (fun q => (hP _ q).2 rfl)).trans hh.1, hh.2.1, fun i hi => ?_⟩
  obtain ⟨h1, h2, h3⟩ := hh.2.2 i hi
  have hn : n ≤ 17 := hh.2.1
  have hV : ∀ q, q < 7 → V (cS h i + q) := by
    rcases hpl.2.2.2.2.2.2 i (by omega) with ⟨_, _, q3⟩ | ⟨q1, _⟩
    · exact q3.1
    · exact absurd h1 (q1 0 (by decide))
  have kI : ∀ f q, q < 7 → f ∉ F → pI T f (A (cS h i + q)) = pI S f (A (cS h i + q)) := fun f q hq hf => k.1 f _ (hV q hq) hf (fun z => by have := (hP _ z).1; have := cS_big h i; omega)
  have kA : ∀ q j, q < 7 → pA T (A (cS h i + q)) j = pA S (A (cS h i + q)) j := fun q j hq => k.2.1 _ j (hV q hq) (fun z => by have := hA92 _ z; have := cS_big h i; omega)
  exact ⟨h1, h2, h3.cg (kI 902 1 (by decide) (hF 902 (by decide))) (kI 902 3 (by decide) (hF 902 (by decide))) (kI 902 5 (by decide) (hF 902 (by decide))) (kI 803 0 (by decide) (hF 803 (by decide))) (kI 804 0 (by decide) (hF 804 (by decide))) (fun j => kA 2 j (by decide)) (fun j => kA 4 j (by decide)) (fun j => kA 6 j (by decide))⟩
def rHI : List (Nat × Nat) := [(1241, 60), (1112, 0), (1272, 60)]
def aHI : List Nat := [82, 91]
theorem HIST.kp {F : List Nat} {P : List (Nat × Nat)} {AA : List Nat} (hF : ∀ f ∈ [501, 803, 804, 902], f ∉ F) (hP : ∀ e ∈ P, e.2 < 92 ∧ e.1 ≠ 501) (hA92 : ∀ j ∈ AA, j < 92) (hI : ∀ e ∈ rHI, e.2 < 92 ∧ e.1 ∉ F ∧ e ∉ P) (hA : ∀ c ∈ aHI, c < 92 ∧ c ∉ AA) {g : GH} {A : Nat → Nat} {V : Nat → Prop} {S T : pq_S} (h : HIST g A V S) (kp : KPL F P AA A S T) : HIST g A V T := by
  have k := h.kv (fun e he => (hP e he).1) hA92 kp
  obtain ⟨h1, h2, h3, h4, h5, h6, h7, wk, im, ps, iw, is, b1, b2, b3, b4, b5, b6, b7, b8⟩ := h
  have kI : EqF A rHI S T := k.eqF h3 hI
  have kA : EqA A aHI S T := k.eqA h3 hA
  refine ⟨h1, fun c hc => kp.mem (h2 c hc), h3, h4, fun r hr => ?_, h6.kv k, fun h hh => ?_, wk, im, ps, iw, is, b1, b2, (kI (1241, 60) (by decide)).trans b3, (kI (1112, 0) (by decide)).trans b4, (kI (1272, 60) (by decide)).trans b5, PST.kv hF hP hA92 h6 b6 k, fun i j hi hj => (kA _ (by decide) _).trans (b7 i j hi hj), fun h hh => ?_⟩
  · rcases kp.2.2.2.2.2.2 with e | ⟨e0, r2, e1, e2, e3, e4⟩
    · have := h5 r (e ▸ hr)
      exact ⟨kp.1 _ _ this.1, (kp.2.2.1 r this.1.1).trans this.2.1, this.2.2⟩
    · rw [e1] at hr
      cases hr
      exact ⟨e3, e4, fun c hc q => e2 (q ▸ h2 c hc)⟩
  · rcases h7 h hh with ⟨q1, q2, q3⟩ | ⟨q1, q2, q3⟩
    · exact Or.inl ⟨q1, (k.2.2.2.2.1 _ _ (h3 58 (by decide))).trans q2, q3.kv k⟩
    · exact Or.inr ⟨q1, (k.2.2.2.2.1 _ _ (h3 58 (by decide))).trans q2, q3⟩
  · obtain ⟨c1, c2, c3, c4, c5, c6⟩ := b8 h hh
    have hPl : PLAY A V S (h + 1) := by
      rcases h7 h (by omega) with ⟨_, _, q3⟩ | ⟨q1, _⟩
      · exact q3
      · exact absurd c1 q1
    exact ⟨c1, c2, PST.kv hF hP hA92 hPl c3 k, (kA _ (by decide) _).trans c4, fun j hj => (kA _ (by decide) _).trans (c5 j hj), fun i j hi hj => (kA _ (by decide) _).trans (c6 i j hi hj)⟩
/-- all of it, with its witnesses -/
def JG (A : Nat → Nat) (V : Nat → Prop) (g : GH) (S : pq_S) : Prop := CORE g S A ∧ LW g S A ∧ BOOK g S A ∧ TAPE S A ∧ HIST g A V S
theorem JG.kp {A : Nat → Nat} {V : Nat → Prop} {g : GH} {S T : pq_S} (h : JG A V g S) (k : KP A S T) : JG A V g T := by
  have hv := h.2.2.2.2.kv (by decide) (by decide) k
  have h3 := h.2.2.2.2.2.2.1
  exact ⟨h.1.cg (h.1.1.kv hv h3 (by decide) (by decide)) (hv.eqF h3 (by decide)) (hv.eqA h3 (by decide)), h.2.1.cg (hv.eqF h3 (by decide)) (hv.eqA h3 (by decide)), h.2.2.1.cg (hv.eqF h3 (by decide)) (hv.eqA h3 (by decide)), h.2.2.2.1.cg (hv.eqF h3 (by decide)) (hv.eqA h3 (by decide)), h.2.2.2.2.kp (by decide) (by decide) (by decide) (by decide) (by decide) k⟩
theorem JG.kpt {A : Nat → Nat} {V : Nat → Prop} {g : GH} {S T : pq_S} (h : JG A V g S) (k : KPT A S T) (ht : TAPE T A) : JG A V g T := by
  have hv := h.2.2.2.2.kv (by decide) (by decide) k
  have h3 := h.2.2.2.2.2.2.1
  exact ⟨h.1.cg (h.1.1.kv hv h3 (by decide) (by decide)) (hv.eqF h3 (by decide)) (hv.eqA h3 (by decide)), h.2.1.cg (hv.eqF h3 (by decide)) (hv.eqA h3 (by decide)), h.2.2.1.cg (hv.eqF h3 (by decide)) (hv.eqA h3 (by decide)), ht, h.2.2.2.2.kp (by decide) (by decide) (by decide) (by decide) (by decide) k⟩
/-- with the row of looks -/
abbrev KPK : (Nat → Nat) → pq_S → pq_S → Prop := KPL scrF scrP (59 :: scrA)
theorem JG.kpk {A : Nat → Nat} {V : Nat → Prop} {g : GH} {S T : pq_S} (h : JG A V g S) (k : KPK A S T) (r : LKR A T) : JG A V g T := by
  have hv := h.2.2.2.2.kv (by decide) (by decide) k
  have h3 := h.2.2.2.2.2.2.1
  exact ⟨h.1.cg (h.1.1.kv hv h3 (by decide) (by decide)) (hv.eqF h3 (by decide)) (hv.eqA h3 (by decide)), h.2.1.cg (hv.eqF h3 (by decide)) (hv.eqA h3 (by decide)), h.2.2.1.cgk (hv.eqF h3 (by decide)) (hv.eqA h3 (by decide)) r, h.2.2.2.1.cg (hv.eqF h3 (by decide)) (hv.eqA h3 (by decide)), h.2.2.2.2.kp (by decide) (by decide) (by decide) (by decide) (by decide) k⟩
theorem JG.tr {F : List Nat} {P : List (Nat × Nat)} {AA : List Nat} {A : Nat → Nat} {V : Nat → Prop} {g : GH} {S T U : pq_S} (h : JG A V g S) (k1 : KPL F P AA A S T) (k2 : KPL F P AA A T U) : KPL F P AA A S U := k1.tr k2 fun r hr => (h.2.2.2.2.2.2.2.2.1 r hr).1.1
theorem JG.jj {A : Nat → Nat} {V : Nat → Prop} {g : GH} {S : pq_S} (h : JG A V g S) : JJ (A 0) (A 60) S := ⟨A, V, g, rfl, rfl, h⟩
