/-- what stood before stands as it was -/
def AGO (S T : pq_S) : Prop := (∀ a, a ∈ pL S → a ∈ pL T) ∧ (∀ a, a ∈ pL S → pK T a = pK S a) ∧ (∀ f a, a ∈ pL S → pI T f a = pI S f a) ∧ (∀ a i, a ∈ pL S → pA T a i = pA S a i) ∧ (∀ f a, a ∈ pL S → pR T f a = pR S f a) ∧ (∀ a, a ∈ pL S → pN T a = pN S a) ∧ ∀ a i, a ∈ pL S → pQ T a i = pQ S a i
theorem AGO.rf (S : pq_S) : AGO S S := ⟨fun _ h => h, fun _ _ => rfl, fun _ _ _ => rfl, fun _ _ _ => rfl, fun _ _ _ => rfl, fun _ _ => rfl, fun _ _ _ => rfl⟩
theorem AGO.nO {S T : pq_S} {q k : Nat} (h : AGO S T) (hq : q ∉ pL T) : AGO S (nO T q k) := by
  have hne : ∀ a, a ∈ pL S → a ≠ q := fun a ha e => hq (e ▸ h.1 a ha)
  exact ⟨fun a ha => by rw [pL_nO]; exact List.mem_append_left _ (h.1 a ha), fun a ha => by rw [pK_nO, if_neg (hne a ha)]; exact h.2.1 a ha, fun f a ha => by rw [pI_nO, if_neg (hne a ha)]; exact h.2.2.1 f a ha, h.2.2.2.1, fun f a ha => by rw [pR_nO, if_neg (hne a ha)]; exact h.2.2.2.2.1 f a ha, h.2.2.2.2.2.1, h.2.2.2.2.2.2⟩
theorem AGO.nA {S T : pq_S} {q k n : Nat} (h : AGO S T) (hq : q ∉ pL T) : AGO S (nA T q k n) := by
  have hne : ∀ a, a ∈ pL S → a ≠ q := fun a ha e => hq (e ▸ h.1 a ha)
  exact ⟨fun a ha => by rw [pL_nA]; exact List.mem_append_left _ (h.1 a ha), fun a ha => by rw [pK_nA, if_neg (hne a ha)]; exact h.2.1 a ha, h.2.2.1, fun a i ha => by rw [pA_nA, if_neg (hne a ha)]; exact h.2.2.2.1 a i ha, h.2.2.2.2.1, fun a ha => by rw [pN_nA, if_neg (hne a ha)]; exact h.2.2.2.2.2.1 a ha, fun a i ha => by rw [pQ_nA, if_neg (hne a ha)]; exact h.2.2.2.2.2.2 a i ha⟩
theorem AGO.sR {S T : pq_S} {f a : Nat} {v : Option Nat} (h : AGO S T) (ha : a ∉ pL S) : AGO S (sR T f a v) := ⟨h.1, h.2.1, h.2.2.1, h.2.2.2.1, fun f1 a1 h1 => by rw [pR_sR, if_neg (fun (z : f1 = f ∧ a1 = a) => ha (z.2 ▸ h1))]; exact h.2.2.2.2.1 f1 a1 h1, h.2.2.2.2.2.1, h.2.2.2.2.2.2⟩
theorem AGO.sI {S T : pq_S} {f a : Nat} {v : Int32} (h : AGO S T) (ha : a ∉ pL S) : AGO S (sI T f a v) := ⟨h.1, h.2.1, fun f1 a1 h1 => by rw [pI_sI, if_neg (fun (z : f1 = f ∧ a1 = a) => ha (z.2 ▸ h1))]; exact h.2.2.1 f1 a1 h1, h.2.2.2.1, h.2.2.2.2.1, h.2.2.2.2.2.1, h.2.2.2.2.2.2⟩
theorem AGO.ty {S T : pq_S} (h : AGO S T) {a k : Nat} (x : TY S a k) : TY T a k := ⟨h.1 a x.1, (h.2.1 a x.1).trans x.2⟩
/-- seven new ones: a State and its parts, Z says where -/
def NST (S : pq_S) (Z : Nat → Nat) (T : pq_S) : Prop := (∀ i, i < 7 → Z i ∉ pL S) ∧ (∀ i j, i < 7 → j < 7 → Z i = Z j → i = j) ∧ AGO S T ∧ (TY T (Z 0) 8 ∧ (TY T (Z 1) 9 ∧ TY T (Z 3) 9 ∧ TY T (Z 5) 9) ∧ (TY T (Z 2) 14 ∧ TY T (Z 4) 14 ∧ TY T (Z 6) 14) ∧ (pR T 800 (Z 0) = some (Z 1) ∧ pR T 801 (Z 0) = some (Z 3) ∧ pR T 802 (Z 0) = some (Z 5)) ∧ (pR T 900 (Z 1) = some (Z 2) ∧ pR T 900 (Z 3) = some (Z 4) ∧ pR T 900 (Z 5) = some (Z 6)) ∧ (pN T (Z 2) = 18 ∧ pN T (Z 4) = 24 ∧ pN T (Z 6) = 6))
theorem pR_x (S : pq_S) (f a : Nat) (v : Option Nat) (g b : Nat) : pR (sR S f a v) g b = if g = f ∧ b = a then v else pR S g b := by rw [pR_sR]
theorem pR_nOx (S : pq_S) (a k g b : Nat) : pR (nO S a k) g b = if b = a then none else pR S g b := by rw [pR_nO]
theorem pN_nAx (S : pq_S) (a k n b : Nat) : pN (nA S a k n) b = if b = a then n else pN S b := by rw [pN_nA]
theorem pK_nOx (S : pq_S) (a k b : Nat) : pK (nO S a k) b = if b = a then k else pK S b := by rw [pK_nO]
theorem pK_nAx (S : pq_S) (a k n b : Nat) : pK (nA S a k n) b = if b = a then k else pK S b := by rw [pK_nA]
theorem pL_nOx (S : pq_S) (a k : Nat) : pL (nO S a k) = pL S ++ [a] := by rw [pL_nO]
theorem pL_nAx (S : pq_S) (a k n : Nat) : pL (nA S a k n) = pL S ++ [a] := by rw [pL_nA]
theorem pL_sIx (S : pq_S) (f a : Nat) (v : Int32) : pL (sI S f a v) = pL S := by rw [pL_sI]
theorem pL_sRx (S : pq_S) (f a : Nat) (v : Option Nat) : pL (sR S f a v) = pL S := by rw [pL_sR]
theorem pK_sIx (S : pq_S) (f a : Nat) (v : Int32) : pK (sI S f a v) = pK S := by rw [pK_sI]
theorem pK_sRx (S : pq_S) (f a : Nat) (v : Option Nat) : pK (sR S f a v) = pK S := by rw [pK_sR]
theorem pR_sIx (S : pq_S) (f a : Nat) (v : Int32) : pR (sI S f a v) = pR S := by rw [pR_sI]
theorem pR_nAx (S : pq_S) (a k n : Nat) : pR (nA S a k n) = pR S := by rw [pR_nA]
theorem pN_sIx (S : pq_S) (f a : Nat) (v : Int32) : pN (sI S f a v) = pN S := by rw [pN_sI]
theorem pN_sRx (S : pq_S) (f a : Nat) (v : Option Nat) : pN (sR S f a v) = pN S := by rw [pN_sR]
theorem pN_nOx (S : pq_S) (a k : Nat) : pN (nO S a k) = pN S := by rw [pN_nO]
def zs (q0 q1 q2 q3 q4 q5 q6 : Nat) (i : Nat) : Nat := if i = 0 then q0 else if i = 1 then q1 else if i = 2 then q2 else if i = 3 then q3 else if i = 4 then q4 else if i = 5 then q5 else q6
theorem w_state (n : Nat) {S : pq_S} {q0 mc ms : Nat} {Q : pq_S → Prop} (h0 : q0 ∉ pL S) (hmc : 6 ≤ mc) (hms : 57 ≤ ms) (hQ : ∀ Z T, Z 0 = q0 → NST S Z T → Q T) : wp_X8_init n q0 (nO S q0 8) mc ms Q := by
  unfold wp_X8_init wp_X9_init
  refine ⟨by omega, by omega, fun q1 h1 => ⟨by omega, by omega, fun q2 h2 => ⟨0, 0, by omega, by omega, ?_⟩⟩⟩
  refine ⟨by omega, by omega, fun q3 h3 => ⟨by omega, by omega, fun q4 h4 => ⟨0, 0, by omega, by omega, ?_⟩⟩⟩
  refine ⟨by omega, by omega, fun q5 h5 => ⟨by omega, by omega, fun q6 h6 => ⟨0, 0, by omega, by omega, ?_⟩⟩⟩
  have g1 := h1
  have g2 := h2
  have g3 := h3
  have g4 := h4
  have g5 := h5
  have g6 := h6
  simp only [pR_x, pR_nOx, pN_nAx, pK_nOx, pK_nAx, pL_nOx, pL_nAx, pL_sIx, pL_sRx, pK_sIx, pK_sRx, pR_sIx, pR_nAx, pN_sIx, pN_sRx, pN_nOx, List.mem_append, List.mem_singleton, not_or] at g1 g2 g3 g4 g5 g6
  obtain ⟨e1, e10⟩ := g1
  obtain ⟨⟨e2, e20⟩, e21⟩ := g2
  obtain ⟨⟨⟨e3, e30⟩, e31⟩, e32⟩ := g3
  obtain ⟨⟨⟨⟨e4, e40⟩, e41⟩, e42⟩, e43⟩ := g4
  obtain ⟨⟨⟨⟨⟨e5, e50⟩, e51⟩, e52⟩, e53⟩, e54⟩ := g5
  obtain ⟨⟨⟨⟨⟨⟨e6, e60⟩, e61⟩, e62⟩, e63⟩, e64⟩, e65⟩ := g6
  refine hQ (zs q0 q1 q2 q3 q4 q5 q6) _ rfl ⟨?_, ?_, ?_, ?_⟩
  · intro i hi
    have : i = 0 ∨ i = 1 ∨ i = 2 ∨ i = 3 ∨ i = 4 ∨ i = 5 ∨ i = 6 := by omega
    rcases this with rfl | rfl | rfl | rfl | rfl | rfl | rfl <;> assumption
  · intro i j hi hj
    have a : i = 0 ∨ i = 1 ∨ i = 2 ∨ i = 3 ∨ i = 4 ∨ i = 5 ∨ i = 6 := by omega
    have b : j = 0 ∨ j = 1 ∨ j = 2 ∨ j = 3 ∨ j = 4 ∨ j = 5 ∨ j = 6 := by omega
    rcases a with rfl | rfl | rfl | rfl | rfl | rfl | rfl <;> rcases b with rfl | rfl | rfl | rfl | rfl | rfl | rfl <;> intro e <;> first | rfl | exact absurd (show _ = _ from e) (by assumption) | exact absurd (show _ = _ from e.symm) (by assumption)
  · exact ((((((((((((((AGO.rf S).nO h0).nO h1).nA h2).sR e1).sI e1).sR h0).nO h3).nA h4).sR e3).sI e3).sR h0).nO h5).nA h6).sR e5 |>.sI e5 |>.sR h0
  · unfold TY
    simp only [zs, pR_x, pR_nOx, pN_nAx, pK_nOx, pK_nAx, pL_nOx, pL_nAx, pL_sIx, pL_sRx, pK_sIx, pK_sRx, pR_sIx, pR_nAx, pN_sIx, pN_sRx, pN_nOx, List.mem_append, List.mem_singleton, Nat.reduceEqDiff, true_or, or_true, false_and, true_and, and_true, and_self, ite_true, ite_false, if_true, if_false, eq_self, Ne.symm e10, Ne.symm e20, Ne.symm e21, Ne.symm e30, Ne.symm e31, Ne.symm e32, Ne.symm e40, Ne.symm e41, Ne.symm e42, Ne.symm e43, Ne.symm e50, Ne.symm e51, Ne.symm e52, Ne.symm e53, Ne.symm e54, Ne.symm e60, Ne.symm e61, Ne.symm e62, Ne.symm e63, Ne.symm e64, Ne.symm e65, e10, e20, e21, e30, e31, e32, e40, e41, e42, e43, e50, e51, e52, e53, e54, e60, e61, e62, e63, e64, e65]
/-- grown: old codes as before, what stood before as it was (but for the rows of references) -/
def GRW (A : Nat → Nat) (V : Nat → Prop) (A2 : Nat → Nat) (V2 : Nat → Prop) (S T : pq_S) : Prop := (∀ c, V c → V2 c ∧ A2 c = A c) ∧ (∀ a k, TY S a k → TY T a k) ∧ (∀ f a, a ∈ pL S → pI T f a = pI S f a) ∧ (∀ a i, a ∈ pL S → pA T a i = pA S a i) ∧ (∀ f a, a ∈ pL S → pR T f a = pR S f a) ∧ (∀ a, a ∈ pL S → pN T a = pN S a)
theorem GRW.rf (A : Nat → Nat) (V : Nat → Prop) (S : pq_S) : GRW A V A V S S := ⟨fun _ h => ⟨h, rfl⟩, fun _ _ h => h, fun _ _ _ => rfl, fun _ _ _ => rfl, fun _ _ _ => rfl, fun _ _ => rfl⟩
theorem GRW.tr {A A2 A3 : Nat → Nat} {V V2 V3 : Nat → Prop} {S T U : pq_S} (h : GRW A V A2 V2 S T) (k : GRW A2 V2 A3 V3 T U) : GRW A V A3 V3 S U := by
  have hm : ∀ a, a ∈ pL S → a ∈ pL T := fun a ha => (h.2.1 a _ ⟨ha, rfl⟩).1
  exact ⟨fun c hc => ⟨(k.1 c (h.1 c hc).1).1, ((k.1 c (h.1 c hc).1).2).trans (h.1 c hc).2⟩, fun a q x => k.2.1 a q (h.2.1 a q x), fun f a ha => (k.2.2.1 f a (hm a ha)).trans (h.2.2.1 f a ha), fun a i ha => (k.2.2.2.1 a i (hm a ha)).trans (h.2.2.2.1 a i ha), fun f a ha => (k.2.2.2.2.1 f a (hm a ha)).trans (h.2.2.2.2.1 f a ha), fun a ha => (k.2.2.2.2.2 a (hm a ha)).trans (h.2.2.2.2.2 a ha)⟩
theorem SLAY.gr {A A2 : Nat → Nat} {V V2 : Nat → Prop} {S T : pq_S} {c : Nat} (h : SLAY A V S c) (hs : ∀ c, V c → A c ∈ pL S) (k : GRW A V A2 V2 S T) : SLAY A2 V2 T c := by
  obtain ⟨h0, h1, ⟨h2, h3, h4⟩, ⟨h5, h6, h7⟩, ⟨h8, h9, h10⟩, ⟨h11, h12, h13⟩, h14, h15, h16⟩ := h
  have eA : ∀ q, q < 7 → A2 (c + q) = A (c + q) := fun q hq => (k.1 _ (h0 q hq)).2
  have eM : ∀ q, q < 7 → A (c + q) ∈ pL S := fun q hq => hs _ (h0 q hq)
  have e0 : A2 c = A c := eA 0 (by decide)
  have m0 : A c ∈ pL S := eM 0 (by decide)
  refine ⟨fun q hq => (k.1 _ (h0 q hq)).1, ?_, ⟨?_, ?_, ?_⟩, ⟨?_, ?_, ?_⟩, ⟨?_, ?_, ?_⟩, ⟨?_, ?_, ?_⟩, ?_, ?_, ?_⟩
  · rw [e0]; exact k.2.1 _ _ h1
  · rw [eA 1 (by decide)]; exact k.2.1 _ _ h2
  · rw [eA 3 (by decide)]; exact k.2.1 _ _ h3
  · rw [eA 5 (by decide)]; exact k.2.1 _ _ h4
  · rw [eA 2 (by decide)]; exact k.2.1 _ _ h5
  · rw [eA 4 (by decide)]; exact k.2.1 _ _ h6
  · rw [eA 6 (by decide)]; exact k.2.1 _ _ h7
  · rw [e0, eA 1 (by decide), k.2.2.2.2.1 _ _ m0, h8]
  · rw [e0, eA 3 (by decide), k.2.2.2.2.1 _ _ m0, h9]
  · rw [e0, eA 5 (by decide), k.2.2.2.2.1 _ _ m0, h10]
  · rw [eA 1 (by decide), eA 2 (by decide), k.2.2.2.2.1 _ _ (eM 1 (by decide)), h11]
  · rw [eA 3 (by decide), eA 4 (by decide), k.2.2.2.2.1 _ _ (eM 3 (by decide)), h12]
  · rw [eA 5 (by decide), eA 6 (by decide), k.2.2.2.2.1 _ _ (eM 5 (by decide)), h13]
  · rw [eA 2 (by decide), k.2.2.2.2.2 _ (eM 2 (by decide)), h14]
  · rw [eA 4 (by decide), k.2.2.2.2.2 _ (eM 4 (by decide)), h15]
  · rw [eA 6 (by decide), k.2.2.2.2.2 _ (eM 6 (by decide)), h16]
theorem STC.gr {g : GH} {A A2 : Nat → Nat} {V V2 : Nat → Prop} {S T : pq_S} {c : Nat} {st : Nat → Int32} (h : STC g A S c st) (hV : ∀ q, q < 7 → V (c + q)) (hs : ∀ c, V c → A c ∈ pL S) (k : GRW A V A2 V2 S T) : STC g A2 T c st := by
  have eA : ∀ q, q < 7 → A2 (c + q) = A (c + q) := fun q hq => (k.1 _ (hV q hq)).2
  have eM : ∀ q, q < 7 → A (c + q) ∈ pL S := fun q hq => hs _ (hV q hq)
  have e0 : A2 c = A c := eA 0 (by decide)
  have m0 : A c ∈ pL S := eM 0 (by decide)
  show STX g T (A2 c) (A2 (c + 1)) (A2 (c + 3)) (A2 (c + 5)) (A2 (c + 2)) (A2 (c + 4)) (A2 (c + 6)) st
  rw [e0, eA 1 (by decide), eA 2 (by decide), eA 3 (by decide), eA 4 (by decide), eA 5 (by decide), eA 6 (by decide)]
  exact h.cg (k.2.2.1 _ _ (eM 1 (by decide))) (k.2.2.1 _ _ (eM 3 (by decide))) (k.2.2.1 _ _ (eM 5 (by decide))) (k.2.2.1 _ _ m0) (k.2.2.1 _ _ m0) (fun i => k.2.2.2.1 _ i (eM 2 (by decide))) (fun i => k.2.2.2.1 _ i (eM 4 (by decide))) (fun i => k.2.2.2.1 _ i (eM 6 (by decide)))
/-- a slot of Past h is filled with a new State -/
def gA (A Z : Nat → Nat) (b : Nat) (c : Nat) : Nat := if b ≤ c ∧ c < b + 7 then Z (c - b) else A c
def gV (V : Nat → Prop) (b : Nat) (c : Nat) : Prop := V c ∨ (b ≤ c ∧ c < b + 7)
theorem gA_in (A Z : Nat → Nat) (b q : Nat) (hq : q < 7) : gA A Z b (b + q) = Z q := by unfold gA; rw [if_pos (by omega), Nat.add_sub_cancel_left]
theorem HS.grow {A Z : Nat → Nat} {V : Nat → Prop} {S T : pq_S} {h k : Nat} (hs : HS A V S) (hp : PLAY A V S h) (hk : k < 17) (hv : ∀ q, q < 10 → ¬ V (cS h k + q)) (hT : NST S Z T) : HS (gA A Z (cS h k)) (gV V (cS h k)) (sQ T (A (cQ h)) k (some (Z 0))) ∧ GRW A V (gA A Z (cS h k)) (gV V (cS h k)) S (sQ T (A (cQ h)) k (some (Z 0))) := by
  obtain ⟨z1, z2, z3, z4⟩ := hT
  obtain ⟨h1, h2, h3, h4, h5, h6, h7⟩ := hs
  have eV : ∀ c, V c → ¬ (cS h k ≤ c ∧ c < cS h k + 7) := fun c hc q => hv (c - cS h k) (by omega) (by rw [show cS h k + (c - cS h k) = c by omega]; exact hc)
  have eA : ∀ c, V c → gA A Z (cS h k) c = A c := fun c hc => by unfold gA; rw [if_neg (eV c hc)]
  have G : GRW A V (gA A Z (cS h k)) (gV V (cS h k)) S (sQ T (A (cQ h)) k (some (Z 0))) := ⟨fun c hc => ⟨Or.inl hc, eA c hc⟩, fun a q x => z3.ty x, z3.2.2.1, z3.2.2.2.1, z3.2.2.2.2.1, z3.2.2.2.2.2.1⟩
  have hb := cS_big h k
  have PL : ∀ x, PLAY A V S x → PLAY (gA A Z (cS h k)) (gV V (cS h k)) (sQ T (A (cQ h)) k (some (Z 0))) x := by
    intro x hx
    obtain ⟨x1, x2, x3, x4, x5, x6, x7⟩ := hx
    refine ⟨Or.inl x1, Or.inl x2, ?_, ?_, ?_, ?_, fun i hi => ?_⟩
    · rw [eA _ x1]; exact z3.ty x3
    · rw [eA _ x2]; exact z3.ty x4
    · rw [eA _ x1, eA _ x2]; exact (z3.2.2.2.2.1 _ _ (h2 _ x1)).trans x5
    · rw [eA _ x2]; exact (z3.2.2.2.2.2.1 _ (h2 _ x2)).trans x6
    · rw [eA _ x2]
      by_cases e : x = h ∧ i = k
      · obtain ⟨rfl, rfl⟩ := e
        refine Or.inl ⟨Or.inr (by omega), ?_, ?_⟩
        · rw [pQ_sQ, if_pos ⟨rfl, rfl⟩]
          exact congrArg some (gA_in A Z _ 0 (by decide)).symm
        · obtain ⟨y1, ⟨y2, y3, y4⟩, ⟨y5, y6, y7⟩, ⟨y8, y9, y10⟩, ⟨y11, y12, y13⟩, y14, y15, y16⟩ := z4
          have i0 := gA_in A Z (cS x i) 0 (by decide)
          have i1 := gA_in A Z (cS x i) 1 (by decide)
          have i2 := gA_in A Z (cS x i) 2 (by decide)
          have i3 := gA_in A Z (cS x i) 3 (by decide)
          have i4 := gA_in A Z (cS x i) 4 (by decide)
          have i5 := gA_in A Z (cS x i) 5 (by decide)
          have i6 := gA_in A Z (cS x i) 6 (by decide)
          rw [Nat.add_zero] at i0
          unfold SLAY
          rw [i0, i1, i2, i3, i4, i5, i6]
          exact ⟨fun q hq => Or.inr (by omega), y1, ⟨y2, y3, y4⟩, ⟨y5, y6, y7⟩, ⟨y8, y9, y10⟩, ⟨y11, y12, y13⟩, y14, y15, y16⟩
      · have hq : pQ (sQ T (A (cQ h)) k (some (Z 0))) (A (cQ x)) i = pQ S (A (cQ x)) i := by
          rw [pQ_sQ, if_neg (fun z => e ?_), z3.2.2.2.2.2.2 _ _ (h2 _ x2)]
          refine ⟨?_, z.2⟩
          have := h1 _ _ x2 hp.2.1 z.1
          unfold cQ at this
          by_cases a : x = 0
          · by_cases b : h = 0
            · omega
            · rw [if_pos a, if_neg b] at this; omega
          · by_cases b : h = 0
            · rw [if_neg a, if_pos b] at this; omega
            · rw [if_neg a, if_neg b] at this; omega
        rcases x7 i hi with ⟨q1, q2, q3⟩ | ⟨q1, q2⟩
        · exact Or.inl ⟨Or.inl q1, by rw [hq, q2, eA _ q1], q3.gr h2 G⟩
        · refine Or.inr ⟨fun q hq z => ?_, by rw [hq, q2]⟩
          rcases z with z | z
          · exact q1 q hq z
          · refine e ?_
            unfold cS at z
            omega
  refine ⟨⟨fun c d hc hd e => ?_, fun c hc => ?_, fun c hc => Or.inl (h3 c hc), fun c hc => ?_, fun r hr => ?_, PL 0 h6, fun x hx => ?_⟩, G⟩
  · rcases hc with hc | hc
    · rw [eA c hc] at e
      rcases hd with hd | hd
      · rw [eA d hd] at e
        exact h1 c d hc hd e
      · have := gA_in A Z (cS h k) (d - cS h k) (by omega)
        rw [show cS h k + (d - cS h k) = d by omega] at this
        rw [this] at e
        exact absurd (e ▸ h2 c hc) (z1 (d - cS h k) (by omega))
    · have t1 := gA_in A Z (cS h k) (c - cS h k) (by omega)
      rw [show cS h k + (c - cS h k) = c by omega] at t1
      rw [t1] at e
      rcases hd with hd | hd
      · rw [eA d hd] at e
        exact absurd (e.symm ▸ h2 d hd) (z1 (c - cS h k) (by omega))
      · have := gA_in A Z (cS h k) (d - cS h k) (by omega)
        rw [show cS h k + (d - cS h k) = d by omega] at this
        rw [this] at e
        have := z2 _ _ (by omega) (by omega) e
        omega
  · show _ ∈ pL T
    rcases hc with hc | hc
    · rw [eA c hc]; exact z3.1 _ (h2 c hc)
    · have t1 := gA_in A Z (cS h k) (c - cS h k) (by omega)
      rw [show cS h k + (c - cS h k) = c by omega] at t1
      rw [t1]
      have a : c - cS h k = 0 ∨ c - cS h k = 1 ∨ c - cS h k = 2 ∨ c - cS h k = 3 ∨ c - cS h k = 4 ∨ c - cS h k = 5 ∨ c - cS h k = 6 := by omega
      obtain ⟨y1, ⟨y2, y3, y4⟩, ⟨y5, y6, y7⟩, _⟩ := z4
      rcases a with e | e | e | e | e | e | e <;> rw [e]
      · exact y1.1
      · exact y2.1
      · exact y5.1
      · exact y3.1
      · exact y6.1
      · exact y4.1
      · exact y7.1
  · rcases hc with hc | hc
    · exact h4 c hc
    · omega
  · rw [eA 32 (h3 32 (by decide))] at hr
    have hr : pR T 404 (A 32) = some r := hr
    rw [z3.2.2.2.2.1 _ _ (h2 _ (h3 32 (by decide)))] at hr
    obtain ⟨r1, r2, r3⟩ := h5 r hr
    refine ⟨z3.ty r1, (z3.2.2.2.2.2.1 _ r1.1).trans r2, fun c hc => ?_⟩
    rcases hc with hc | hc
    · rw [eA c hc]; exact r3 c hc
    · have t1 := gA_in A Z (cS h k) (c - cS h k) (by omega)
      rw [show cS h k + (c - cS h k) = c by omega] at t1
      rw [t1]
      exact fun q => z1 (c - cS h k) (by omega) (q ▸ r1.1)
  · have n58 : A 58 ≠ A (cQ h) := fun e => by
      have := h1 _ _ (h3 58 (by decide)) hp.2.1 e
      unfold cQ at this
      by_cases b : h = 0
      · rw [if_pos b] at this; omega
      · rw [if_neg b] at this; omega
    have q58 : ∀ i, pQ (sQ T (A (cQ h)) k (some (Z 0))) (A 58) i = pQ S (A 58) i := fun i => by rw [pQ_sQ, if_neg (fun z => n58 z.1), z3.2.2.2.2.2.2 _ _ (h2 _ (h3 58 (by decide)))]
    rw [eA 58 (h3 58 (by decide)), q58]
    rcases h7 x hx with ⟨q1, q2, q3⟩ | ⟨q1, q2, q3⟩
    · exact Or.inl ⟨Or.inl q1, by rw [q2, eA _ q1], PL _ q3⟩
    · have hxh : x + 1 ≠ h := fun e => q1 (e ▸ hp.1)
      have c1 : cP (x + 1) < 200 := by unfold cP; rw [if_neg (by omega)]; omega
      have c2 : cQ (x + 1) < 200 := by unfold cQ; rw [if_neg (by omega)]; omega
      refine Or.inr ⟨fun z => ?_, q2, fun c hc => ?_⟩
      · rcases z with z | z
        · exact q1 z
        · omega
      · rcases hc with hc | hc
        · exact q3 c hc
        · refine ⟨by omega, fun i q hq hi e => ?_⟩
          unfold cS at e hc
          omega
