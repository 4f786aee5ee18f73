/-! the invariant's parts. g: what both sides hold of the coast, of the state, of the laws, of the book -/
abbrev GH : Type := (Nat → Nat) × (Nat → Nat → Nat) × (Nat → Int32)
def gP (g : GH) : Nat := g.1 0
def gW (g : GH) : Nat := g.1 1
def gM (g : GH) : Nat := g.1 2
def gK (g : GH) : Nat := g.1 3
def gLk (g : GH) : Nat := g.1 4
def gSh (g : GH) : Nat := g.1 5
/-- lengths of the two laws -/
def gLn (g : GH) (w : Nat) : Nat := g.1 (6 + w)
/-- lines of the book -/
def gBk (g : GH) : Nat := g.1 8
def gpl (g : GH) : Nat → Nat := g.2.1 0
def gwa (g : GH) : Nat → Nat := g.2.1 1
def gmi (g : GH) : Nat → Nat := g.2.1 2
def gmo (g : GH) : Nat → Nat := g.2.1 3
/-- codes of the two laws -/
def gLc (g : GH) (w : Nat) : Nat → Nat := g.2.1 (4 + w)
/-- the book's places and hours -/
def gBp (g : GH) : Nat → Nat := g.2.1 6
def gBv (g : GH) : Nat → Nat := g.2.1 7
def gst (g : GH) : Nat → Int32 := g.2.2
def GB (g : GH) : Prop := (gP g ≤ 6 ∧ gW g ≤ 12 ∧ gM g ≤ 3 ∧ gK g ≤ 3 ∧ gLk g ≤ 8 ∧ gSh g ≤ 99) ∧ (∀ i, i < 4 * gP g → gpl g i ≤ 99) ∧ (∀ i, i < gW g → gwa g (4 * i) < gP g ∧ 1 ≤ gwa g (4 * i + 1) ∧ gwa g (4 * i + 1) ≤ 12 ∧ gwa g (4 * i + 2) ≤ 1 ∧ gwa g (4 * i + 3) ≤ 99) ∧ (∀ m, m < gM g → gmi g (3 * m) < gP g ∧ gmi g (3 * m + 1) ≤ 400 ∧ gmi g (3 * m + 2) ≤ 11) ∧ (∀ k, k < gK g → 1 ≤ gmo g (2 * k) ∧ gmo g (2 * k) ≤ 30 ∧ gmo g (2 * k + 1) < gmo g (2 * k))
/-- what a state keeps to -/
def SB (g : GH) (st : Nat → Int32) : Prop := (∀ p, p < gP g → ∃ k, k ≤ 999 ∧ st p = nI k) ∧ (∀ p, p < gP g → ∃ k, k ≤ 999 ∧ st (6 + p) = nI k) ∧ (∀ i, i < gW g → st (18 + i) = 0 ∨ st (18 + i) = 1) ∧ (∀ m, m < gM g → ∃ k, k ≤ 400 ∧ st (42 + m) = nI k)
/-- the class's State with its tables' cells at c0, c1, c2 holds the reference's row st -/
def STX (g : GH) (S : pq_S) (a t0 t1 t2 c0 c1 c2 : Nat) (st : Nat → Int32) : Prop := (pI S 902 t0 = nI (gP g) ∧ pI S 902 t1 = nI (gW g) ∧ pI S 902 t2 = nI (gM g) ∧ pI S 803 a = st 48 ∧ pI S 804 a = st 49) ∧ (∀ p, p < gP g → pA S c0 (3 * p) = st p ∧ pA S c0 (3 * p + 1) = st (6 + p) ∧ pA S c0 (3 * p + 2) = st (12 + p)) ∧ (∀ i, i < gW g → pA S c1 (2 * i) = st (18 + i) ∧ pA S c1 (2 * i + 1) = st (30 + i)) ∧ (∀ m, m < gM g → pA S c2 (2 * m) = st (42 + m) ∧ pA S c2 (2 * m + 1) = st (45 + m))
/-- the class's coast -/
def CX (g : GH) (S : pq_S) (A : Nat → Nat) : Prop := (pI S 902 (A 5) = nI (gP g) ∧ pI S 902 (A 7) = nI (gW g) ∧ pI S 902 (A 9) = nI (gM g) ∧ pI S 902 (A 11) = nI (gK g) ∧ pI S 104 (A 4) = nI (gLk g) ∧ pI S 105 (A 4) = nI (gSh g)) ∧ (∀ i, i < 4 * gP g → pA S (A 6) i = nI (gpl g i)) ∧ (∀ i, i < 4 * gW g → pA S (A 8) i = nI (gwa g i)) ∧ (∀ i, i < 3 * gM g → pA S (A 10) i = nI (gmi g i)) ∧ (∀ i, i < 2 * gK g → pA S (A 12) i = nI (gmo g i))
/-- the reference's coast -/
def CM (g : GH) (S : pq_S) (A : Nat → Nat) : Prop := (pI S 1224 (A 60) = nI (gP g) ∧ pI S 1225 (A 60) = nI (gW g) ∧ pI S 1226 (A 60) = nI (gM g) ∧ pI S 1227 (A 60) = nI (gK g) ∧ pI S 1228 (A 60) = nI (gLk g) ∧ pI S 1229 (A 60) = nI (gSh g)) ∧ (∀ i, i < 4 * gP g → pA S (A 67) i = nI (gpl g i)) ∧ (∀ i, i < 4 * gW g → pA S (A 68) i = nI (gwa g i)) ∧ (∀ i, i < 3 * gM g → pA S (A 69) i = nI (gmi g i)) ∧ (∀ i, i < 2 * gK g → pA S (A 70) i = nI (gmo g i))
/-- coast and state, on both sides -/
def CORE (g : GH) (S : pq_S) (A : Nat → Nat) : Prop := LAY A S ∧ GB g ∧ SB g (gst g) ∧ CX g S A ∧ CM g S A ∧ STX g S (A 13) (A 14) (A 16) (A 18) (A 15) (A 17) (A 19) (gst g) ∧ ∀ i, i < 50 → pA S (A 80) i = gst g i
/-- a code of the reference: what it is, of what -/
def lwWhat (c : Nat) : Nat := if c < 1000 then 0 else if c < 2000 then 1 else c - 1998
def lwOf (c : Nat) : Nat := if c < 1000 then c else if c < 2000 then c - 1000 else 0
/-- heights of the stack over k codes from the i-th on: none under, none above 24 -/
def lwH (cd : Nat → Nat) : Nat → Nat → Nat → Option Nat
  | 0, _, h => some h
  | k + 1, i, h => if cd i < 2000 then (if h < 24 then lwH cd k (i + 1) (h + 1) else none) else (if 2 ≤ h then lwH cd k (i + 1) (h - 1) else none)
def LW (g : GH) (S : pq_S) (A : Nat → Nat) : Prop := ∀ w, w < 2 → gLn g w ≤ 150 ∧ pI S 203 (A (20 + 4 * w)) = nI (gLn g w) ∧ pA S (A 75) w = nI (gLn g w) ∧ (∀ k, k < gLn g w → (gLc g w k < 1007 ∨ (2000 ≤ gLc g w k ∧ gLc g w k ≤ 2005)) ∧ pA S (A (21 + 4 * w)) k = nI (gLc g w k) ∧ pA S (A 73) (150 * w + k) = nI (lwWhat (gLc g w k)) ∧ pA S (A 74) (150 * w + k) = nI (lwOf (gLc g w k))) ∧ (gLn g w ≠ 0 → lwH (gLc g w) (gLn g w) 0 0 = some 1)
/-- the first two of the row of looks are never written -/
abbrev LKR (A : Nat → Nat) (S : pq_S) : Prop := pA S (A 59) 0 = 0 ∧ pA S (A 59) 1 = 0
def BOOK (g : GH) (S : pq_S) (A : Nat → Nat) : Prop := (gBk g ≤ 6 ∧ LKR A S) ∧ pI S 1 (A 52) = nI (gBk g) ∧ pI S 1251 (A 60) = nI (gBk g) ∧ (∀ i, i < gBk g → gBp g i < gP g ∧ gBv g i ≤ 99 ∧ pA S (A 84) (2 * i) = nI (gBp g i) ∧ pA S (A 84) (2 * i + 1) = nI (gBv g i) ∧ pA S (A 53) (gBp g i) = nI (gBv g i)) ∧ (∀ i j, i < gBk g → j < gBk g → gBp g i = gBp g j → i = j) ∧ ∀ p, p < 6 → (∀ i, i < gBk g → gBp g i ≠ p) → pA S (A 53) p = -1
def sgn8 (b : Nat) : Int32 := if b < 128 then nI b else nI b - nI 256
/-- tape, fault, counters -/
def TAPE (S : pq_S) (A : Nat → Nat) : Prop := pI S 1113 (A 0) = pI S 1208 (A 60) ∧ pI S 1115 (A 0) = pA S (A 61) 0 ∧ pI S 1116 (A 0) = pA S (A 61) 1 ∧ pI S 1114 (A 0) = pI S 1242 (A 60) ∧ ∃ tp : Nat, tp ≤ 600 ∧ pI S 1001 (A 1) = nI tp ∧ pI S 1202 (A 60) = nI tp ∧ ∀ i, i < tp → ∃ b : Nat, b ≤ 255 ∧ pA S (A 62) i = nI b ∧ pA S (A 2) i = sgn8 b
/-! what is made in work: h 0 the past, 1 to 3 the images; codes of the Past, of its row, of its states -/
def cP (h : Nat) : Nat := if h = 0 then 56 else 98 + 2 * h
def cQ (h : Nat) : Nat := if h = 0 then 57 else 99 + 2 * h
def cS (h i : Nat) : Nat := 200 + 200 * h + 10 * i
/-- a State that was made in work, its parts at codes c to c + 6 -/
def SLAY (A : Nat → Nat) (V : Nat → Prop) (S : pq_S) (c : Nat) : Prop := (∀ q, q < 7 → V (c + q)) ∧ TY S (A c) 8 ∧ (TY S (A (c + 1)) 9 ∧ TY S (A (c + 3)) 9 ∧ TY S (A (c + 5)) 9) ∧ (TY S (A (c + 2)) 14 ∧ TY S (A (c + 4)) 14 ∧ TY S (A (c + 6)) 14) ∧ (pR S 800 (A c) = some (A (c + 1)) ∧ pR S 801 (A c) = some (A (c + 3)) ∧ pR S 802 (A c) = some (A (c + 5))) ∧ (pR S 900 (A (c + 1)) = some (A (c + 2)) ∧ pR S 900 (A (c + 3)) = some (A (c + 4)) ∧ pR S 900 (A (c + 5)) = some (A (c + 6))) ∧ (pN S (A (c + 2)) = 18 ∧ pN S (A (c + 4)) = 24 ∧ pN S (A (c + 6)) = 6)
/-- a Past, live -/
def PLAY (A : Nat → Nat) (V : Nat → Prop) (S : pq_S) (h : Nat) : Prop := V (cP h) ∧ V (cQ h) ∧ TY S (A (cP h)) 5 ∧ TY S (A (cQ h)) 16 ∧ pR S 500 (A (cP h)) = some (A (cQ h)) ∧ pN S (A (cQ h)) = 17 ∧ (∀ i, i < 17 → (V (cS h i) ∧ pQ S (A (cQ h)) i = some (A (cS h i)) ∧ SLAY A V S (cS h i)) ∨ ((∀ q, q < 10 → ¬ V (cS h i + q)) ∧ pQ S (A (cQ h)) i = none))
/-- the states of Past h, from the bottom on, are those of ps -/
def PST (g : GH) (A : Nat → Nat) (V : Nat → Prop) (S : pq_S) (h n : Nat) (ps : Nat → Nat → Int32) : Prop := pI S 501 (A (cP h)) = nI n ∧ n ≤ 17 ∧ ∀ i, i < n → V (cS h i) ∧ SB g (ps i) ∧ STX g S (A (cS h i)) (A (cS h i + 1)) (A (cS h i + 3)) (A (cS h i + 5)) (A (cS h i + 2)) (A (cS h i + 4)) (A (cS h i + 6)) (ps i)
def HIST (g : GH) (A : Nat → Nat) (V : Nat → Prop) (S : pq_S) : Prop := (∀ c d, V c → V d → A c = A d → c = d) ∧ (∀ c, V c → A c ∈ pL S) ∧ (∀ c, c < 92 → V c) ∧ (∀ c, V c → c < 92 ∨ 100 ≤ c) ∧ (∀ r, pR S 404 (A 32) = some r → TY S r 14 ∧ pN S r = 4096 ∧ ∀ c, V c → r ≠ A c) ∧ PLAY A V S 0 ∧ (∀ h, h < 3 → (V (cP (h + 1)) ∧ pQ S (A 58) h = some (A (cP (h + 1))) ∧ PLAY A V S (h + 1)) ∨ (¬ V (cP (h + 1)) ∧ pQ S (A 58) h = none ∧ ∀ c, V c → c ≠ cQ (h + 1) ∧ ∀ i q, q < 10 → i < 20 → c ≠ cS (h + 1) i + q)) ∧ ∃ (wk im : Nat) (ps : Nat → Nat → Int32) (iw : Nat → Nat) (is : Nat → Nat → Nat → Int32), wk ≤ 16 ∧ im ≤ 3 ∧ pI S 1241 (A 60) = nI wk ∧ pI S 1112 (A 0) = nI im ∧ pI S 1272 (A 60) = nI im ∧ PST g A V S 0 wk ps ∧ (∀ i j, i < wk → j < 50 → pA S (A 82) (50 * i + j) = ps i j) ∧ ∀ h, h < im → V (cP (h + 1)) ∧ iw h ≤ 16 ∧ PST g A V S (h + 1) (iw h + 1) (is h) ∧ pA S (A 91) (851 * h + 850) = nI (iw h) ∧ (∀ j, j < 50 → pA S (A 91) (851 * h + j) = is h (iw h) j) ∧ ∀ i j, i < iw h → j < 50 → pA S (A 91) (851 * h + 50 + 50 * i + j) = is h i j
/-- the invariant -/
def JJ (xa ma : Nat) (S : pq_S) : Prop := ∃ (A : Nat → Nat) (V : Nat → Prop) (g : GH), A 0 = xa ∧ A 60 = ma ∧ CORE g S A ∧ LW g S A ∧ BOOK g S A ∧ TAPE S A ∧ HIST g A V S
/-! what may change without the invariant's seeing it -/
def scrF : List Nat := [204, 304, 305, 306, 307, 308, 405, 406, 601, 602, 603, 704, 705, 1002, 1003, 1004, 1005, 1006, 1200, 1203, 1204, 1205, 1206, 1207, 1218, 1219, 1220, 1221, 1222, 1223, 1236, 1240, 1243, 1244, 1245, 1253, 1254, 1255, 1256, 1257, 1258, 1261, 1265, 1266, 1267, 1268, 1269, 1270]
def scrP : List (Nat × Nat) := [(902, 37), (902, 40), (902, 42), (902, 44), (902, 46), (104, 39), (105, 39), (203, 48), (1, 54)]
def scrA : List Nat := [22, 23, 26, 27, 29, 30, 31, 33, 34, 35, 38, 41, 43, 45, 47, 49, 50, 51, 55, 63, 64, 65, 66, 71, 72, 76, 77, 78, 79, 81, 83, 85, 86, 87, 88, 89, 90]
def KPL (F : List Nat) (P : List (Nat × Nat)) (AA : List Nat) (A : Nat → Nat) (S T : pq_S) : Prop := (∀ a k, TY S a k → TY T a k) ∧ (∀ f a, f ≠ 404 → a ∈ pL S → pR T f a = pR S f a) ∧ (∀ a, a ∈ pL S → pN T a = pN S a) ∧ (∀ a i, a ∈ pL S → pQ T a i = pQ S a i) ∧ (∀ f a, f ∉ F → (∀ e ∈ P, f = e.1 → a ≠ A e.2) → a ∈ pL S → pI T f a = pI S f a) ∧ (∀ a i, a ∈ pL S → (∀ j ∈ AA, a ≠ A j) → pR S 404 (A 32) ≠ some a → pA T a i = pA S a i) ∧ (pR T 404 (A 32) = pR S 404 (A 32) ∨ (pR S 404 (A 32) = none ∧ ∃ r, pR T 404 (A 32) = some r ∧ r ∉ pL S ∧ TY T r 14 ∧ pN T r = 4096))
theorem KPL.rf (F : List Nat) (P : List (Nat × Nat)) (AA : List Nat) (A : Nat → Nat) (S : pq_S) : KPL F P AA A S S := ⟨fun _ _ h => h, fun _ _ _ _ => rfl, fun _ _ => rfl, fun _ _ _ => rfl, fun _ _ _ _ _ => rfl, fun _ _ _ _ _ => rfl, Or.inl rfl⟩
theorem KPL.wI {F : List Nat} {P : List (Nat × Nat)} {AA : List Nat} {A : Nat → Nat} {S T : pq_S} (h : KPL F P AA A S T) {f a : Nat} {v : Int32} (hf : f ∈ F) : KPL F P AA A S (sI T f a v) := ⟨h.1, h.2.1, h.2.2.1, h.2.2.2.1, fun f1 a1 h1 h2 h3 => by
  rw [pI_sI, if_neg (fun (q : f1 = f ∧ a1 = a) => h1 (q.1 ▸ hf))]
  exact h.2.2.2.2.1 f1 a1 h1 h2 h3, h.2.2.2.2.2.1, h.2.2.2.2.2.2⟩
theorem KPL.wP {F : List Nat} {P : List (Nat × Nat)} {AA : List Nat} {A : Nat → Nat} {S T : pq_S} (h : KPL F P AA A S T) {f i : Nat} {v : Int32} (hf : (f, i) ∈ P) : KPL F P AA A S (sI T f (A i) v) := ⟨h.1, h.2.1, h.2.2.1, h.2.2.2.1, fun f1 a1 h1 h2 h3 => by
  rw [pI_sI, if_neg (fun q => h2 (f, i) hf q.1 q.2)]
  exact h.2.2.2.2.1 f1 a1 h1 h2 h3, h.2.2.2.2.2.1, h.2.2.2.2.2.2⟩
theorem KPL.wA {F : List Nat} {P : List (Nat × Nat)} {AA : List Nat} {A : Nat → Nat} {S T : pq_S} (h : KPL F P AA A S T) {j i : Nat} {v : Int32} (hf : j ∈ AA) : KPL F P AA A S (sA T (A j) i v) := ⟨h.1, h.2.1, h.2.2.1, h.2.2.2.1, h.2.2.2.2.1, fun a1 i1 h1 h2 h3 => by
  rw [pA_sA, if_neg (fun q => h2 j hf q.1)]
  exact h.2.2.2.2.2.1 a1 i1 h1 h2 h3, h.2.2.2.2.2.2⟩
theorem KPL.wF {F : List Nat} {P : List (Nat × Nat)} {AA : List Nat} {A : Nat → Nat} {S T : pq_S} (h : KPL F P AA A S T) {j : Nat} {u : Nat → Int32} (hf : j ∈ AA) : KPL F P AA A S (sF T (A j) u) := ⟨h.1, h.2.1, h.2.2.1, h.2.2.2.1, h.2.2.2.2.1, fun a1 i1 h1 h2 h3 => by
  rw [pA_sF, if_neg (fun q => h2 j hf q)]
  exact h.2.2.2.2.2.1 a1 i1 h1 h2 h3, h.2.2.2.2.2.2⟩
theorem KPL.mem {F : List Nat} {P : List (Nat × Nat)} {AA : List Nat} {A : Nat → Nat} {S T : pq_S} (h : KPL F P AA A S T) {a : Nat} (ha : a ∈ pL S) : a ∈ pL T := (h.1 a (pK S a) ⟨ha, rfl⟩).1
theorem KPL.tr {F : List Nat} {P : List (Nat × Nat)} {AA : List Nat} {A : Nat → Nat} {S T U : pq_S} (h : KPL F P AA A S T) (k : KPL F P AA A T U) (hr : ∀ r, pR S 404 (A 32) = some r → r ∈ pL S) : KPL F P AA A S U := by
  refine ⟨fun a q x => k.1 a q (h.1 a q x), fun f a h1 h2 => (k.2.1 f a h1 (h.mem h2)).trans (h.2.1 f a h1 h2), fun a h1 => (k.2.2.1 a (h.mem h1)).trans (h.2.2.1 a h1), fun a i h1 => (k.2.2.2.1 a i (h.mem h1)).trans (h.2.2.2.1 a i h1), fun f a h1 h2 h3 => (k.2.2.2.2.1 f a h1 h2 (h.mem h3)).trans (h.2.2.2.2.1 f a h1 h2 h3), fun a i h1 h2 h3 => ?_, ?_⟩
  · rw [k.2.2.2.2.2.1 a i (h.mem h1) h2 (fun q => ?_), h.2.2.2.2.2.1 a i h1 h2 h3]
    rcases h.2.2.2.2.2.2 with e | ⟨_, r, e1, e2, _⟩
    · exact h3 (e ▸ q)
    · rw [e1] at q
      cases q
      exact e2 h1
  · rcases k.2.2.2.2.2.2 with e | ⟨e0, r, e1, e2, e3, e4⟩
    · rcases h.2.2.2.2.2.2 with x | ⟨x0, r, x1, x2, x3, x4⟩
      · exact Or.inl (e.trans x)
      · exact Or.inr ⟨x0, r, e.trans x1, x2, k.1 _ _ x3, (k.2.2.1 r x3.1).trans x4⟩
    · rcases h.2.2.2.2.2.2 with x | ⟨x0, r2, x1, x2, x3, x4⟩
      · exact Or.inr ⟨x ▸ e0, r, e1, fun q => e2 (h.mem q), e3, e4⟩
      · rw [x1] at e0
        cases e0
abbrev KP : (Nat → Nat) → pq_S → pq_S → Prop := KPL scrF scrP scrA
/-- beside those: what the tape's part of the invariant sees -/
def tapF : List Nat := [1113, 1208, 1115, 1116, 1114, 1242, 1001, 1202]
def tapA : List Nat := [2, 61, 62]
abbrev KPT : (Nat → Nat) → pq_S → pq_S → Prop := KPL (scrF ++ tapF) scrP (scrA ++ tapA)
theorem KPL.mono {F F2 : List Nat} {P P2 : List (Nat × Nat)} {AA A2 : List Nat} {A : Nat → Nat} {S T : pq_S} (h : KPL F P AA A S T) (h1 : ∀ f, f ∈ F → f ∈ F2) (h2 : ∀ e, e ∈ P → e ∈ P2) (h3 : ∀ e, e ∈ AA → e ∈ A2) : KPL F2 P2 A2 A S T := ⟨h.1, h.2.1, h.2.2.1, h.2.2.2.1, fun f a q1 q2 q3 => h.2.2.2.2.1 f a (fun q => q1 (h1 f q)) (fun e he => q2 e (h2 e he)) q3, fun a i q1 q2 q3 => h.2.2.2.2.2.1 a i q1 (fun j hj => q2 j (h3 j hj)) q3, h.2.2.2.2.2.2⟩
theorem KPL.kpt {A : Nat → Nat} {S T : pq_S} (h : KP A S T) : KPT A S T := KPL.mono h (fun _ q => List.mem_append_left _ q) (fun _ q => q) (fun _ q => List.mem_append_left _ q)
