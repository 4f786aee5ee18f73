theorem pL_sI (S : pq_S) (f a : Nat) (v : Int32) : pL (sI S f a v) = pL S := rfl
theorem pK_sI (S : pq_S) (f a : Nat) (v : Int32) : pK (sI S f a v) = pK S := rfl
theorem pR_sI (S : pq_S) (f a : Nat) (v : Int32) : pR (sI S f a v) = pR S := rfl
theorem pN_sI (S : pq_S) (f a : Nat) (v : Int32) : pN (sI S f a v) = pN S := rfl
theorem pA_sI (S : pq_S) (f a : Nat) (v : Int32) : pA (sI S f a v) = pA S := rfl
theorem pQ_sI (S : pq_S) (f a : Nat) (v : Int32) : pQ (sI S f a v) = pQ S := rfl
theorem pL_sR (S : pq_S) (f a : Nat) (v : Option Nat) : pL (sR S f a v) = pL S := rfl
theorem pK_sR (S : pq_S) (f a : Nat) (v : Option Nat) : pK (sR S f a v) = pK S := rfl
theorem pI_sR (S : pq_S) (f a : Nat) (v : Option Nat) : pI (sR S f a v) = pI S := rfl
theorem pN_sR (S : pq_S) (f a : Nat) (v : Option Nat) : pN (sR S f a v) = pN S := rfl
theorem pA_sR (S : pq_S) (f a : Nat) (v : Option Nat) : pA (sR S f a v) = pA S := rfl
theorem pQ_sR (S : pq_S) (f a : Nat) (v : Option Nat) : pQ (sR S f a v) = pQ S := rfl
theorem pL_sA (S : pq_S) (a i : Nat) (v : Int32) : pL (sA S a i v) = pL S := rfl
theorem pK_sA (S : pq_S) (a i : Nat) (v : Int32) : pK (sA S a i v) = pK S := rfl
theorem pI_sA (S : pq_S) (a i : Nat) (v : Int32) : pI (sA S a i v) = pI S := rfl
theorem pR_sA (S : pq_S) (a i : Nat) (v : Int32) : pR (sA S a i v) = pR S := rfl
theorem pN_sA (S : pq_S) (a i : Nat) (v : Int32) : pN (sA S a i v) = pN S := rfl
theorem pQ_sA (S : pq_S) (a i : Nat) (v : Int32) : pQ (sA S a i v) = pQ S := rfl
theorem pL_sF (S : pq_S) (a : Nat) (g : Nat → Int32) : pL (sF S a g) = pL S := rfl
theorem pK_sF (S : pq_S) (a : Nat) (g : Nat → Int32) : pK (sF S a g) = pK S := rfl
theorem pI_sF (S : pq_S) (a : Nat) (g : Nat → Int32) : pI (sF S a g) = pI S := rfl
theorem pR_sF (S : pq_S) (a : Nat) (g : Nat → Int32) : pR (sF S a g) = pR S := rfl
theorem pN_sF (S : pq_S) (a : Nat) (g : Nat → Int32) : pN (sF S a g) = pN S := rfl
theorem pQ_sF (S : pq_S) (a : Nat) (g : Nat → Int32) : pQ (sF S a g) = pQ S := rfl
theorem pL_sQ (S : pq_S) (a i : Nat) (v : Option Nat) : pL (sQ S a i v) = pL S := rfl
theorem pK_sQ (S : pq_S) (a i : Nat) (v : Option Nat) : pK (sQ S a i v) = pK S := rfl
theorem pI_sQ (S : pq_S) (a i : Nat) (v : Option Nat) : pI (sQ S a i v) = pI S := rfl
theorem pR_sQ (S : pq_S) (a i : Nat) (v : Option Nat) : pR (sQ S a i v) = pR S := rfl
theorem pN_sQ (S : pq_S) (a i : Nat) (v : Option Nat) : pN (sQ S a i v) = pN S := rfl
theorem pA_sQ (S : pq_S) (a i : Nat) (v : Option Nat) : pA (sQ S a i v) = pA S := rfl
theorem pI_sI (S : pq_S) (f a : Nat) (v : Int32) (g b : Nat) : pI (sI S f a v) g b = if g = f ∧ b = a then v else pI S g b := rfl
theorem pR_sR (S : pq_S) (f a : Nat) (v : Option Nat) (g b : Nat) : pR (sR S f a v) g b = if g = f ∧ b = a then v else pR S g b := rfl
theorem pA_sA (S : pq_S) (a i : Nat) (v : Int32) (b j : Nat) : pA (sA S a i v) b j = if b = a ∧ j = i then v else pA S b j := rfl
theorem pA_sF (S : pq_S) (a : Nat) (g : Nat → Int32) (b j : Nat) : pA (sF S a g) b j = if b = a then g j else pA S b j := rfl
theorem pQ_sQ (S : pq_S) (a i : Nat) (v : Option Nat) (b j : Nat) : pQ (sQ S a i v) b j = if b = a ∧ j = i then v else pQ S b j := rfl
theorem pL_nO (S : pq_S) (a k : Nat) : pL (nO S a k) = pL S ++ [a] := rfl
theorem pK_nO (S : pq_S) (a k b : Nat) : pK (nO S a k) b = if b = a then k else pK S b := rfl
theorem pI_nO (S : pq_S) (a k g b : Nat) : pI (nO S a k) g b = if b = a then 0 else pI S g b := rfl
theorem pR_nO (S : pq_S) (a k g b : Nat) : pR (nO S a k) g b = if b = a then none else pR S g b := rfl
theorem pN_nO (S : pq_S) (a k : Nat) : pN (nO S a k) = pN S := rfl
theorem pA_nO (S : pq_S) (a k : Nat) : pA (nO S a k) = pA S := rfl
theorem pQ_nO (S : pq_S) (a k : Nat) : pQ (nO S a k) = pQ S := rfl
theorem pL_nA (S : pq_S) (a k n : Nat) : pL (nA S a k n) = pL S ++ [a] := rfl
theorem pK_nA (S : pq_S) (a k n b : Nat) : pK (nA S a k n) b = if b = a then k else pK S b := rfl
theorem pN_nA (S : pq_S) (a k n b : Nat) : pN (nA S a k n) b = if b = a then n else pN S b := rfl
theorem pA_nA (S : pq_S) (a k n b j : Nat) : pA (nA S a k n) b j = if b = a then 0 else pA S b j := rfl
theorem pQ_nA (S : pq_S) (a k n b j : Nat) : pQ (nA S a k n) b j = if b = a then none else pQ S b j := rfl
theorem pI_nA (S : pq_S) (a k n : Nat) : pI (nA S a k n) = pI S := rfl
theorem pR_nA (S : pq_S) (a k n : Nat) : pR (nA S a k n) = pR S := rfl
/-! the objects that are made once: 0 x; 1 x.tape; 2 x.tape.bytes; 3 x.shore; 4 x.shore.coast; 5 x.shore.coast.places; 6 x.shore.coast.places.cells; 7 x.shore.coast.wants; 8 x.shore.coast.wants.cells; 9 x.shore.coast.mines; 10 x.shore.coast.mines.cells; 11 x.shore.coast.moonRows; 12 x.shore.coast.moonRows.cells; 13 x.shore.state; 14 x.shore.state.hours; 15 x.shore.state.hours.cells; 16 x.shore.state.wants; 17 x.shore.state.wants.cells; 18 x.shore.state.seams; 19 x.shore.state.seams.cells; 20 x.shore.arrive; 21 x.shore.arrive.codes; 22 x.shore.arrive.inputs; 23 x.shore.arrive.stack; 24 x.shore.dig; 25 x.shore.dig.codes; 26 x.shore.dig.inputs; 27 x.shore.dig.stack; 28 x.market; 29 x.market.sets; 30 x.market.otherSets; 31 x.market.bestAgainst; 32 x.packing; 33 x.packing.which; 34 x.packing.taken; 35 x.packing.chosenNight; 36 x.program; 37 x.program.steps; 38 x.program.steps.cells; 39 x.spareCoast; 40 x.spareCoast.places; 41 x.spareCoast.places.cells; 42 x.spareCoast.wants; 43 x.spareCoast.wants.cells; 44 x.spareCoast.mines; 45 x.spareCoast.mines.cells; 46 x.spareCoast.moonRows; 47 x.spareCoast.moonRows.cells; 48 x.spareLaw; 49 x.spareLaw.codes; 50 x.spareLaw.inputs; 51 x.spareLaw.stack; 52 x.register; 53 x.register.missing; 54 x.spareBook; 55 x.spareBook.missing; 56 x.past; 57 x.past.states; 58 x.kept; 59 x.lookRow; 60 m; 61 m.refused; 62 m.tape; 63 m.newPlace; 64 m.newWant; 65 m.newMine; 66 m.newMoon; 67 m.placeTold; 68 m.wantTold; 69 m.mineTold; 70 m.moon; 71 m.newCode; 72 m.newOf; 73 m.code; 74 m.ofCode; 75 m.codes; 76 m.stack; 77 m.facts; 78 m.newStep; 79 m.step; 80 m.now; 81 m.s; 82 m.past; 83 m.newBook; 84 m.book; 85 m.row; 86 m.nightOf; 87 m.room; 88 m.looksFor; 89 m.firstLook; 90 m.along; 91 m.image -/
def ly_R : List (Nat × Nat × Nat) := [(1, 1000, 2), (0, 1100, 1), (4, 100, 5), (5, 900, 6), (4, 101, 7), (7, 900, 8), (4, 102, 9), (9, 900, 10), (4, 103, 11), (11, 900, 12), (3, 700, 4), (13, 800, 14), (14, 900, 15), (13, 801, 16), (16, 900, 17), (13, 802, 18), (18, 900, 19), (3, 701, 13), (20, 200, 21), (20, 201, 22), (20, 202, 23), (3, 702, 20), (24, 200, 25), (24, 201, 26), (24, 202, 27), (3, 703, 24), (0, 1101, 3), (28, 300, 3), (28, 301, 29), (28, 302, 30), (28, 303, 31), (0, 1102, 28), (32, 400, 3), (32, 401, 33), (32, 402, 34), (32, 403, 35), (0, 1103, 32), (36, 600, 37), (37, 900, 38), (0, 1104, 36), (39, 100, 40), (40, 900, 41), (39, 101, 42), (42, 900, 43), (39, 102, 44), (44, 900, 45), (39, 103, 46), (46, 900, 47), (0, 1105, 39), (48, 200, 49), (48, 201, 50), (48, 202, 51), (0, 1106, 48), (52, 0, 53), (0, 1107, 52), (54, 0, 55), (0, 1108, 54), (56, 500, 57), (0, 1109, 56), (0, 1110, 58), (0, 1111, 59), (60, 1201, 61), (60, 1209, 62), (60, 1210, 63), (60, 1211, 64), (60, 1212, 65), (60, 1213, 66), (60, 1214, 67), (60, 1215, 68), (60, 1216, 69), (60, 1217, 70), (60, 1230, 71), (60, 1231, 72), (60, 1232, 73), (60, 1233, 74), (60, 1234, 75), (60, 1235, 76), (60, 1237, 77), (60, 1238, 78), (60, 1239, 79), (60, 1246, 80), (60, 1247, 81), (60, 1248, 82), (60, 1249, 83), (60, 1250, 84), (60, 1252, 85), (60, 1259, 86), (60, 1260, 87), (60, 1262, 88), (60, 1263, 89), (60, 1264, 90), (60, 1271, 91)]
def ly_K : List (Nat × Nat) := [(0, 11), (1, 10), (2, 13), (3, 7), (4, 1), (5, 9), (6, 14), (7, 9), (8, 14), (9, 9), (10, 14), (11, 9), (12, 14), (13, 8), (14, 9), (15, 14), (16, 9), (17, 14), (18, 9), (19, 14), (20, 2), (21, 14), (22, 14), (23, 14), (24, 2), (25, 14), (26, 14), (27, 14), (28, 3), (29, 14), (30, 14), (31, 14), (32, 4), (33, 14), (34, 14), (35, 14), (36, 6), (37, 9), (38, 14), (39, 1), (40, 9), (41, 14), (42, 9), (43, 14), (44, 9), (45, 14), (46, 9), (47, 14), (48, 2), (49, 14), (50, 14), (51, 14), (52, 0), (53, 14), (54, 0), (55, 14), (56, 5), (57, 16), (58, 15), (59, 14), (60, 12), (61, 14), (62, 14), (63, 14), (64, 14), (65, 14), (66, 14), (67, 14), (68, 14), (69, 14), (70, 14), (71, 14), (72, 14), (73, 14), (74, 14), (75, 14), (76, 14), (77, 14), (78, 14), (79, 14), (80, 14), (81, 14), (82, 14), (83, 14), (84, 14), (85, 14), (86, 14), (87, 14), (88, 14), (89, 14), (90, 14), (91, 14)]
def ly_N : List (Nat × Nat) := [(2, 600), (6, 24), (8, 48), (10, 9), (12, 6), (15, 18), (17, 24), (19, 6), (21, 150), (22, 7), (23, 32), (25, 150), (26, 7), (27, 32), (29, 145), (30, 145), (31, 21), (33, 12), (34, 12), (35, 12), (38, 125), (41, 24), (43, 48), (45, 9), (47, 6), (49, 150), (50, 7), (51, 32), (53, 6), (55, 6), (57, 17), (58, 3), (59, 41), (61, 2), (62, 600), (63, 24), (64, 48), (65, 9), (66, 6), (67, 24), (68, 48), (69, 9), (70, 6), (71, 150), (72, 150), (73, 300), (74, 300), (75, 2), (76, 150), (77, 7), (78, 250), (79, 250), (80, 50), (81, 50), (82, 800), (83, 12), (84, 12), (85, 12), (86, 12), (87, 12), (88, 41), (89, 41), (90, 6), (91, 2553)]
def ly_W : List (Nat × Int32) := [(5, 4), (7, 4), (9, 3), (11, 2), (14, 3), (16, 2), (18, 2), (37, 5), (40, 4), (42, 4), (44, 3), (46, 2)]
abbrev ly_n : Nat := 92
abbrev ly_m : Nat := 60
/-- where they lie, what they refer to, of which length the rows are -/
def LAY (A : Nat → Nat) (S : pq_S) : Prop := (∀ e ∈ ly_R, pR S e.2.1 (A e.1) = some (A e.2.2)) ∧ (∀ e ∈ ly_K, TY S (A e.1) e.2) ∧ (∀ e ∈ ly_N, pN S (A e.1) = e.2) ∧ (∀ e ∈ ly_W, pI S 901 (A e.1) = e.2) ∧ ∀ i j, i < ly_n → j < ly_n → A i = A j → i = j
theorem LAY.ne {A : Nat → Nat} {S : pq_S} (h : LAY A S) {i j : Nat} (hi : i < ly_n) (hj : j < ly_n) (hij : i ≠ j) : A i ≠ A j := fun e => hij (h.2.2.2.2 i j hi hj e)
theorem LAY.r1_1000 {A : Nat → Nat} {S : pq_S} (h : LAY A S) : pR S 1000 (A 1) = some (A 2) := h.1 (1, 1000, 2) (by decide)
theorem LAY.r0_1100 {A : Nat → Nat} {S : pq_S} (h : LAY A S) : pR S 1100 (A 0) = some (A 1) := h.1 (0, 1100, 1) (by decide)
theorem LAY.r4_100 {A : Nat → Nat} {S : pq_S} (h : LAY A S) : pR S 100 (A 4) = some (A 5) := h.1 (4, 100, 5) (by decide)
theorem LAY.r5_900 {A : Nat → Nat} {S : pq_S} (h : LAY A S) : pR S 900 (A 5) = some (A 6) := h.1 (5, 900, 6) (by decide)
theorem LAY.r4_101 {A : Nat → Nat} {S : pq_S} (h : LAY A S) : pR S 101 (A 4) = some (A 7) := h.1 (4, 101, 7) (by decide)
theorem LAY.r7_900 {A : Nat → Nat} {S : pq_S} (h : LAY A S) : pR S 900 (A 7) = some (A 8) := h.1 (7, 900, 8) (by decide)
theorem LAY.r4_102 {A : Nat → Nat} {S : pq_S} (h : LAY A S) : pR S 102 (A 4) = some (A 9) := h.1 (4, 102, 9) (by decide)
theorem LAY.r9_900 {A : Nat → Nat} {S : pq_S} (h : LAY A S) : pR S 900 (A 9) = some (A 10) := h.1 (9, 900, 10) (by decide)
theorem LAY.r4_103 {A : Nat → Nat} {S : pq_S} (h : LAY A S) : pR S 103 (A 4) = some (A 11) := h.1 (4, 103, 11) (by decide)
theorem LAY.r11_900 {A : Nat → Nat} {S : pq_S} (h : LAY A S) : pR S 900 (A 11) = some (A 12) := h.1 (11, 900, 12) (by decide)
theorem LAY.r3_700 {A : Nat → Nat} {S : pq_S} (h : LAY A S) : pR S 700 (A 3) = some (A 4) := h.1 (3, 700, 4) (by decide)
theorem LAY.r13_800 {A : Nat → Nat} {S : pq_S} (h : LAY A S) : pR S 800 (A 13) = some (A 14) := h.1 (13, 800, 14) (by decide)
theorem LAY.r14_900 {A : Nat → Nat} {S : pq_S} (h : LAY A S) : pR S 900 (A 14) = some (A 15) := h.1 (14, 900, 15) (by decide)
theorem LAY.r13_801 {A : Nat → Nat} {S : pq_S} (h : LAY A S) : pR S 801 (A 13) = some (A 16) := h.1 (13, 801, 16) (by decide)
theorem LAY.r16_900 {A : Nat → Nat} {S : pq_S} (h : LAY A S) : pR S 900 (A 16) = some (A 17) := h.1 (16, 900, 17) (by decide)
theorem LAY.r13_802 {A : Nat → Nat} {S : pq_S} (h : LAY A S) : pR S 802 (A 13) = some (A 18) := h.1 (13, 802, 18) (by decide)
theorem LAY.r18_900 {A : Nat → Nat} {S : pq_S} (h : LAY A S) : pR S 900 (A 18) = some (A 19) := h.1 (18, 900, 19) (by decide)
theorem LAY.r3_701 {A : Nat → Nat} {S : pq_S} (h : LAY A S) : pR S 701 (A 3) = some (A 13) := h.1 (3, 701, 13) (by decide)
theorem LAY.r20_200 {A : Nat → Nat} {S : pq_S} (h : LAY A S) : pR S 200 (A 20) = some (A 21) := h.1 (20, 200, 21) (by decide)
theorem LAY.r20_201 {A : Nat → Nat} {S : pq_S} (h : LAY A S) : pR S 201 (A 20) = some (A 22) := h.1 (20, 201, 22) (by decide)
theorem LAY.r20_202 {A : Nat → Nat} {S : pq_S} (h : LAY A S) : pR S 202 (A 20) = some (A 23) := h.1 (20, 202, 23) (by decide)
theorem LAY.r3_702 {A : Nat → Nat} {S : pq_S} (h : LAY A S) : pR S 702 (A 3) = some (A 20) := h.1 (3, 702, 20) (by decide)
theorem LAY.r24_200 {A : Nat → Nat} {S : pq_S} (h : LAY A S) : pR S 200 (A 24) = some (A 25) := h.1 (24, 200, 25) (by decide)
theorem LAY.r24_201 {A : Nat → Nat} {S : pq_S} (h : LAY A S) : pR S 201 (A 24) = some (A 26) := h.1 (24, 201, 26) (by decide)
theorem LAY.r24_202 {A : Nat → Nat} {S : pq_S} (h : LAY A S) : pR S 202 (A 24) = some (A 27) := h.1 (24, 202, 27) (by decide)
theorem LAY.r3_703 {A : Nat → Nat} {S : pq_S} (h : LAY A S) : pR S 703 (A 3) = some (A 24) := h.1 (3, 703, 24) (by decide)
theorem LAY.r0_1101 {A : Nat → Nat} {S : pq_S} (h : LAY A S) : pR S 1101 (A 0) = some (A 3) := h.1 (0, 1101, 3) (by decide)
theorem LAY.r28_300 {A : Nat → Nat} {S : pq_S} (h : LAY A S) : pR S 300 (A 28) = some (A 3) := h.1 (28, 300, 3) (by decide)
theorem LAY.r28_301 {A : Nat → Nat} {S : pq_S} (h : LAY A S) : pR S 301 (A 28) = some (A 29) := h.1 (28, 301, 29) (by decide)
theorem LAY.r28_302 {A : Nat → Nat} {S : pq_S} (h : LAY A S) : pR S 302 (A 28) = some (A 30) := h.1 (28, 302, 30) (by decide)
theorem LAY.r28_303 {A : Nat → Nat} {S : pq_S} (h : LAY A S) : pR S 303 (A 28) = some (A 31) := h.1 (28, 303, 31) (by decide)
theorem LAY.r0_1102 {A : Nat → Nat} {S : pq_S} (h : LAY A S) : pR S 1102 (A 0) = some (A 28) := h.1 (0, 1102, 28) (by decide)
theorem LAY.r32_400 {A : Nat → Nat} {S : pq_S} (h : LAY A S) : pR S 400 (A 32) = some (A 3) := h.1 (32, 400, 3) (by decide)
theorem LAY.r32_401 {A : Nat → Nat} {S : pq_S} (h : LAY A S) : pR S 401 (A 32) = some (A 33) := h.1 (32, 401, 33) (by decide)
theorem LAY.r32_402 {A : Nat → Nat} {S : pq_S} (h : LAY A S) : pR S 402 (A 32) = some (A 34) := h.1 (32, 402, 34) (by decide)
theorem LAY.r32_403 {A : Nat → Nat} {S : pq_S} (h : LAY A S) : pR S 403 (A 32) = some (A 35) := h.1 (32, 403, 35) (by decide)
theorem LAY.r0_1103 {A : Nat → Nat} {S : pq_S} (h : LAY A S) : pR S 1103 (A 0) = some (A 32) := h.1 (0, 1103, 32) (by decide)
theorem LAY.r36_600 {A : Nat → Nat} {S : pq_S} (h : LAY A S) : pR S 600 (A 36) = some (A 37) := h.1 (36, 600, 37) (by decide)
theorem LAY.r37_900 {A : Nat → Nat} {S : pq_S} (h : LAY A S) : pR S 900 (A 37) = some (A 38) := h.1 (37, 900, 38) (by decide)
theorem LAY.r0_1104 {A : Nat → Nat} {S : pq_S} (h : LAY A S) : pR S 1104 (A 0) = some (A 36) := h.1 (0, 1104, 36) (by decide)
theorem LAY.r39_100 {A : Nat → Nat} {S : pq_S} (h : LAY A S) : pR S 100 (A 39) = some (A 40) := h.1 (39, 100, 40) (by decide)
theorem LAY.r40_900 {A : Nat → Nat} {S : pq_S} (h : LAY A S) : pR S 900 (A 40) = some (A 41) := h.1 (40, 900, 41) (by decide)
theorem LAY.r39_101 {A : Nat → Nat} {S : pq_S} (h : LAY A S) : pR S 101 (A 39) = some (A 42) := h.1 (39, 101, 42) (by decide)
theorem LAY.r42_900 {A : Nat → Nat} {S : pq_S} (h : LAY A S) : pR S 900 (A 42) = some (A 43) := h.1 (42, 900, 43) (by decide)
theorem LAY.r39_102 {A : Nat → Nat} {S : pq_S} (h : LAY A S) : pR S 102 (A 39) = some (A 44) := h.1 (39, 102, 44) (by decide)
theorem LAY.r44_900 {A : Nat → Nat} {S : pq_S} (h : LAY A S) : pR S 900 (A 44) = some (A 45) := h.1 (44, 900, 45) (by decide)
theorem LAY.r39_103 {A : Nat → Nat} {S : pq_S} (h : LAY A S) : pR S 103 (A 39) = some (A 46) := h.1 (39, 103, 46) (by decide)
theorem LAY.r46_900 {A : Nat → Nat} {S : pq_S} (h : LAY A S) : pR S 900 (A 46) = some (A 47) := h.1 (46, 900, 47) (by decide)
theorem LAY.r0_1105 {A : Nat → Nat} {S : pq_S} (h : LAY A S) : pR S 1105 (A 0) = some (A 39) := h.1 (0, 1105, 39) (by decide)
theorem LAY.r48_200 {A : Nat → Nat} {S : pq_S} (h : LAY A S) : pR S 200 (A 48) = some (A 49) := h.1 (48, 200, 49) (by decide)
theorem LAY.r48_201 {A : Nat → Nat} {S : pq_S} (h : LAY A S) : pR S 201 (A 48) = some (A 50) := h.1 (48, 201, 50) (by decide)
theorem LAY.r48_202 {A : Nat → Nat} {S : pq_S} (h : LAY A S) : pR S 202 (A 48) = some (A 51) := h.1 (48, 202, 51) (by decide)
theorem LAY.r0_1106 {A : Nat → Nat} {S : pq_S} (h : LAY A S) : pR S 1106 (A 0) = some (A 48) := h.1 (0, 1106, 48) (by decide)
theorem LAY.r52_0 {A : Nat → Nat} {S : pq_S} (h : LAY A S) : pR S 0 (A 52) = some (A 53) := h.1 (52, 0, 53) (by decide)
theorem LAY.r0_1107 {A : Nat → Nat} {S : pq_S} (h : LAY A S) : pR S 1107 (A 0) = some (A 52) := h.1 (0, 1107, 52) (by decide)
theorem LAY.r54_0 {A : Nat → Nat} {S : pq_S} (h : LAY A S) : pR S 0 (A 54) = some (A 55) := h.1 (54, 0, 55) (by decide)
theorem LAY.r0_1108 {A : Nat → Nat} {S : pq_S} (h : LAY A S) : pR S 1108 (A 0) = some (A 54) := h.1 (0, 1108, 54) (by decide)
theorem LAY.r56_500 {A : Nat → Nat} {S : pq_S} (h : LAY A S) : pR S 500 (A 56) = some (A 57) := h.1 (56, 500, 57) (by decide)
theorem LAY.r0_1109 {A : Nat → Nat} {S : pq_S} (h : LAY A S) : pR S 1109 (A 0) = some (A 56) := h.1 (0, 1109, 56) (by decide)
theorem LAY.r0_1110 {A : Nat → Nat} {S : pq_S} (h : LAY A S) : pR S 1110 (A 0) = some (A 58) := h.1 (0, 1110, 58) (by decide)
theorem LAY.r0_1111 {A : Nat → Nat} {S : pq_S} (h : LAY A S) : pR S 1111 (A 0) = some (A 59) := h.1 (0, 1111, 59) (by decide)
theorem LAY.r60_1201 {A : Nat → Nat} {S : pq_S} (h : LAY A S) : pR S 1201 (A 60) = some (A 61) := h.1 (60, 1201, 61) (by decide)
theorem LAY.r60_1209 {A : Nat → Nat} {S : pq_S} (h : LAY A S) : pR S 1209 (A 60) = some (A 62) := h.1 (60, 1209, 62) (by decide)
theorem LAY.r60_1210 {A : Nat → Nat} {S : pq_S} (h : LAY A S) : pR S 1210 (A 60) = some (A 63) := h.1 (60, 1210, 63) (by decide)
theorem LAY.r60_1211 {A : Nat → Nat} {S : pq_S} (h : LAY A S) : pR S 1211 (A 60) = some (A 64) := h.1 (60, 1211, 64) (by decide)
theorem LAY.r60_1212 {A : Nat → Nat} {S : pq_S} (h : LAY A S) : pR S 1212 (A 60) = some (A 65) := h.1 (60, 1212, 65) (by decide)
theorem LAY.r60_1213 {A : Nat → Nat} {S : pq_S} (h : LAY A S) : pR S 1213 (A 60) = some (A 66) := h.1 (60, 1213, 66) (by decide)
theorem LAY.r60_1214 {A : Nat → Nat} {S : pq_S} (h : LAY A S) : pR S 1214 (A 60) = some (A 67) := h.1 (60, 1214, 67) (by decide)
theorem LAY.r60_1215 {A : Nat → Nat} {S : pq_S} (h : LAY A S) : pR S 1215 (A 60) = some (A 68) := h.1 (60, 1215, 68) (by decide)
theorem LAY.r60_1216 {A : Nat → Nat} {S : pq_S} (h : LAY A S) : pR S 1216 (A 60) = some (A 69) := h.1 (60, 1216, 69) (by decide)
theorem LAY.r60_1217 {A : Nat → Nat} {S : pq_S} (h : LAY A S) : pR S 1217 (A 60) = some (A 70) := h.1 (60, 1217, 70) (by decide)
theorem LAY.r60_1230 {A : Nat → Nat} {S : pq_S} (h : LAY A S) : pR S 1230 (A 60) = some (A 71) := h.1 (60, 1230, 71) (by decide)
theorem LAY.r60_1231 {A : Nat → Nat} {S : pq_S} (h : LAY A S) : pR S 1231 (A 60) = some (A 72) := h.1 (60, 1231, 72) (by decide)
theorem LAY.r60_1232 {A : Nat → Nat} {S : pq_S} (h : LAY A S) : pR S 1232 (A 60) = some (A 73) := h.1 (60, 1232, 73) (by decide)
theorem LAY.r60_1233 {A : Nat → Nat} {S : pq_S} (h : LAY A S) : pR S 1233 (A 60) = some (A 74) := h.1 (60, 1233, 74) (by decide)
theorem LAY.r60_1234 {A : Nat → Nat} {S : pq_S} (h : LAY A S) : pR S 1234 (A 60) = some (A 75) := h.1 (60, 1234, 75) (by decide)
theorem LAY.r60_1235 {A : Nat → Nat} {S : pq_S} (h : LAY A S) : pR S 1235 (A 60) = some (A 76) := h.1 (60, 1235, 76) (by decide)
theorem LAY.r60_1237 {A : Nat → Nat} {S : pq_S} (h : LAY A S) : pR S 1237 (A 60) = some (A 77) := h.1 (60, 1237, 77) (by decide)
theorem LAY.r60_1238 {A : Nat → Nat} {S : pq_S} (h : LAY A S) : pR S 1238 (A 60) = some (A 78) := h.1 (60, 1238, 78) (by decide)
theorem LAY.r60_1239 {A : Nat → Nat} {S : pq_S} (h : LAY A S) : pR S 1239 (A 60) = some (A 79) := h.1 (60, 1239, 79) (by decide)
theorem LAY.r60_1246 {A : Nat → Nat} {S : pq_S} (h : LAY A S) : pR S 1246 (A 60) = some (A 80) := h.1 (60, 1246, 80) (by decide)
theorem LAY.r60_1247 {A : Nat → Nat} {S : pq_S} (h : LAY A S) : pR S 1247 (A 60) = some (A 81) := h.1 (60, 1247, 81) (by decide)
theorem LAY.r60_1248 {A : Nat → Nat} {S : pq_S} (h : LAY A S) : pR S 1248 (A 60) = some (A 82) := h.1 (60, 1248, 82) (by decide)
theorem LAY.r60_1249 {A : Nat → Nat} {S : pq_S} (h : LAY A S) : pR S 1249 (A 60) = some (A 83) := h.1 (60, 1249, 83) (by decide)
theorem LAY.r60_1250 {A : Nat → Nat} {S : pq_S} (h : LAY A S) : pR S 1250 (A 60) = some (A 84) := h.1 (60, 1250, 84) (by decide)
theorem LAY.r60_1252 {A : Nat → Nat} {S : pq_S} (h : LAY A S) : pR S 1252 (A 60) = some (A 85) := h.1 (60, 1252, 85) (by decide)
theorem LAY.r60_1259 {A : Nat → Nat} {S : pq_S} (h : LAY A S) : pR S 1259 (A 60) = some (A 86) := h.1 (60, 1259, 86) (by decide)
theorem LAY.r60_1260 {A : Nat → Nat} {S : pq_S} (h : LAY A S) : pR S 1260 (A 60) = some (A 87) := h.1 (60, 1260, 87) (by decide)
theorem LAY.r60_1262 {A : Nat → Nat} {S : pq_S} (h : LAY A S) : pR S 1262 (A 60) = some (A 88) := h.1 (60, 1262, 88) (by decide)
theorem LAY.r60_1263 {A : Nat → Nat} {S : pq_S} (h : LAY A S) : pR S 1263 (A 60) = some (A 89) := h.1 (60, 1263, 89) (by decide)
theorem LAY.r60_1264 {A : Nat → Nat} {S : pq_S} (h : LAY A S) : pR S 1264 (A 60) = some (A 90) := h.1 (60, 1264, 90) (by decide)
theorem LAY.r60_1271 {A : Nat → Nat} {S : pq_S} (h : LAY A S) : pR S 1271 (A 60) = some (A 91) := h.1 (60, 1271, 91) (by decide)
theorem LAY.k0 {A : Nat → Nat} {S : pq_S} (h : LAY A S) : TY S (A 0) 11 := h.2.1 (0, 11) (by decide)
theorem LAY.k1 {A : Nat → Nat} {S : pq_S} (h : LAY A S) : TY S (A 1) 10 := h.2.1 (1, 10) (by decide)
theorem LAY.k2 {A : Nat → Nat} {S : pq_S} (h : LAY A S) : TY S (A 2) 13 := h.2.1 (2, 13) (by decide)
theorem LAY.n2 {A : Nat → Nat} {S : pq_S} (h : LAY A S) : pN S (A 2) = 600 := h.2.2.1 (2, 600) (by decide)
theorem LAY.k3 {A : Nat → Nat} {S : pq_S} (h : LAY A S) : TY S (A 3) 7 := h.2.1 (3, 7) (by decide)
theorem LAY.k4 {A : Nat → Nat} {S : pq_S} (h : LAY A S) : TY S (A 4) 1 := h.2.1 (4, 1) (by decide)
theorem LAY.k5 {A : Nat → Nat} {S : pq_S} (h : LAY A S) : TY S (A 5) 9 := h.2.1 (5, 9) (by decide)
theorem LAY.k6 {A : Nat → Nat} {S : pq_S} (h : LAY A S) : TY S (A 6) 14 := h.2.1 (6, 14) (by decide)
theorem LAY.n6 {A : Nat → Nat} {S : pq_S} (h : LAY A S) : pN S (A 6) = 24 := h.2.2.1 (6, 24) (by decide)
theorem LAY.k7 {A : Nat → Nat} {S : pq_S} (h : LAY A S) : TY S (A 7) 9 := h.2.1 (7, 9) (by decide)
theorem LAY.k8 {A : Nat → Nat} {S : pq_S} (h : LAY A S) : TY S (A 8) 14 := h.2.1 (8, 14) (by decide)
theorem LAY.n8 {A : Nat → Nat} {S : pq_S} (h : LAY A S) : pN S (A 8) = 48 := h.2.2.1 (8, 48) (by decide)
theorem LAY.k9 {A : Nat → Nat} {S : pq_S} (h : LAY A S) : TY S (A 9) 9 := h.2.1 (9, 9) (by decide)
theorem LAY.k10 {A : Nat → Nat} {S : pq_S} (h : LAY A S) : TY S (A 10) 14 := h.2.1 (10, 14) (by decide)
theorem LAY.n10 {A : Nat → Nat} {S : pq_S} (h : LAY A S) : pN S (A 10) = 9 := h.2.2.1 (10, 9) (by decide)
theorem LAY.k11 {A : Nat → Nat} {S : pq_S} (h : LAY A S) : TY S (A 11) 9 := h.2.1 (11, 9) (by decide)
theorem LAY.k12 {A : Nat → Nat} {S : pq_S} (h : LAY A S) : TY S (A 12) 14 := h.2.1 (12, 14) (by decide)
theorem LAY.n12 {A : Nat → Nat} {S : pq_S} (h : LAY A S) : pN S (A 12) = 6 := h.2.2.1 (12, 6) (by decide)
theorem LAY.k13 {A : Nat → Nat} {S : pq_S} (h : LAY A S) : TY S (A 13) 8 := h.2.1 (13, 8) (by decide)
theorem LAY.k14 {A : Nat → Nat} {S : pq_S} (h : LAY A S) : TY S (A 14) 9 := h.2.1 (14, 9) (by decide)
theorem LAY.k15 {A : Nat → Nat} {S : pq_S} (h : LAY A S) : TY S (A 15) 14 := h.2.1 (15, 14) (by decide)
theorem LAY.n15 {A : Nat → Nat} {S : pq_S} (h : LAY A S) : pN S (A 15) = 18 := h.2.2.1 (15, 18) (by decide)
theorem LAY.k16 {A : Nat → Nat} {S : pq_S} (h : LAY A S) : TY S (A 16) 9 := h.2.1 (16, 9) (by decide)
theorem LAY.k17 {A : Nat → Nat} {S : pq_S} (h : LAY A S) : TY S (A 17) 14 := h.2.1 (17, 14) (by decide)
theorem LAY.n17 {A : Nat → Nat} {S : pq_S} (h : LAY A S) : pN S (A 17) = 24 := h.2.2.1 (17, 24) (by decide)
theorem LAY.k18 {A : Nat → Nat} {S : pq_S} (h : LAY A S) : TY S (A 18) 9 := h.2.1 (18, 9) (by decide)
theorem LAY.k19 {A : Nat → Nat} {S : pq_S} (h : LAY A S) : TY S (A 19) 14 := h.2.1 (19, 14) (by decide)
theorem LAY.n19 {A : Nat → Nat} {S : pq_S} (h : LAY A S) : pN S (A 19) = 6 := h.2.2.1 (19, 6) (by decide)
theorem LAY.k20 {A : Nat → Nat} {S : pq_S} (h : LAY A S) : TY S (A 20) 2 := h.2.1 (20, 2) (by decide)
theorem LAY.k21 {A : Nat → Nat} {S : pq_S} (h : LAY A S) : TY S (A 21) 14 := h.2.1 (21, 14) (by decide)
theorem LAY.n21 {A : Nat → Nat} {S : pq_S} (h : LAY A S) : pN S (A 21) = 150 := h.2.2.1 (21, 150) (by decide)
theorem LAY.k22 {A : Nat → Nat} {S : pq_S} (h : LAY A S) : TY S (A 22) 14 := h.2.1 (22, 14) (by decide)
theorem LAY.n22 {A : Nat → Nat} {S : pq_S} (h : LAY A S) : pN S (A 22) = 7 := h.2.2.1 (22, 7) (by decide)
theorem LAY.k23 {A : Nat → Nat} {S : pq_S} (h : LAY A S) : TY S (A 23) 14 := h.2.1 (23, 14) (by decide)
theorem LAY.n23 {A : Nat → Nat} {S : pq_S} (h : LAY A S) : pN S (A 23) = 32 := h.2.2.1 (23, 32) (by decide)
theorem LAY.k24 {A : Nat → Nat} {S : pq_S} (h : LAY A S) : TY S (A 24) 2 := h.2.1 (24, 2) (by decide)
theorem LAY.k25 {A : Nat → Nat} {S : pq_S} (h : LAY A S) : TY S (A 25) 14 := h.2.1 (25, 14) (by decide)
theorem LAY.n25 {A : Nat → Nat} {S : pq_S} (h : LAY A S) : pN S (A 25) = 150 := h.2.2.1 (25, 150) (by decide)
theorem LAY.k26 {A : Nat → Nat} {S : pq_S} (h : LAY A S) : TY S (A 26) 14 := h.2.1 (26, 14) (by decide)
theorem LAY.n26 {A : Nat → Nat} {S : pq_S} (h : LAY A S) : pN S (A 26) = 7 := h.2.2.1 (26, 7) (by decide)
theorem LAY.k27 {A : Nat → Nat} {S : pq_S} (h : LAY A S) : TY S (A 27) 14 := h.2.1 (27, 14) (by decide)
theorem LAY.n27 {A : Nat → Nat} {S : pq_S} (h : LAY A S) : pN S (A 27) = 32 := h.2.2.1 (27, 32) (by decide)
theorem LAY.k28 {A : Nat → Nat} {S : pq_S} (h : LAY A S) : TY S (A 28) 3 := h.2.1 (28, 3) (by decide)
theorem LAY.k29 {A : Nat → Nat} {S : pq_S} (h : LAY A S) : TY S (A 29) 14 := h.2.1 (29, 14) (by decide)
theorem LAY.n29 {A : Nat → Nat} {S : pq_S} (h : LAY A S) : pN S (A 29) = 145 := h.2.2.1 (29, 145) (by decide)
theorem LAY.k30 {A : Nat → Nat} {S : pq_S} (h : LAY A S) : TY S (A 30) 14 := h.2.1 (30, 14) (by decide)
theorem LAY.n30 {A : Nat → Nat} {S : pq_S} (h : LAY A S) : pN S (A 30) = 145 := h.2.2.1 (30, 145) (by decide)
theorem LAY.k31 {A : Nat → Nat} {S : pq_S} (h : LAY A S) : TY S (A 31) 14 := h.2.1 (31, 14) (by decide)
theorem LAY.n31 {A : Nat → Nat} {S : pq_S} (h : LAY A S) : pN S (A 31) = 21 := h.2.2.1 (31, 21) (by decide)
theorem LAY.k32 {A : Nat → Nat} {S : pq_S} (h : LAY A S) : TY S (A 32) 4 := h.2.1 (32, 4) (by decide)
theorem LAY.k33 {A : Nat → Nat} {S : pq_S} (h : LAY A S) : TY S (A 33) 14 := h.2.1 (33, 14) (by decide)
theorem LAY.n33 {A : Nat → Nat} {S : pq_S} (h : LAY A S) : pN S (A 33) = 12 := h.2.2.1 (33, 12) (by decide)
theorem LAY.k34 {A : Nat → Nat} {S : pq_S} (h : LAY A S) : TY S (A 34) 14 := h.2.1 (34, 14) (by decide)
theorem LAY.n34 {A : Nat → Nat} {S : pq_S} (h : LAY A S) : pN S (A 34) = 12 := h.2.2.1 (34, 12) (by decide)
theorem LAY.k35 {A : Nat → Nat} {S : pq_S} (h : LAY A S) : TY S (A 35) 14 := h.2.1 (35, 14) (by decide)
theorem LAY.n35 {A : Nat → Nat} {S : pq_S} (h : LAY A S) : pN S (A 35) = 12 := h.2.2.1 (35, 12) (by decide)
theorem LAY.k36 {A : Nat → Nat} {S : pq_S} (h : LAY A S) : TY S (A 36) 6 := h.2.1 (36, 6) (by decide)
theorem LAY.k37 {A : Nat → Nat} {S : pq_S} (h : LAY A S) : TY S (A 37) 9 := h.2.1 (37, 9) (by decide)
theorem LAY.k38 {A : Nat → Nat} {S : pq_S} (h : LAY A S) : TY S (A 38) 14 := h.2.1 (38, 14) (by decide)
theorem LAY.n38 {A : Nat → Nat} {S : pq_S} (h : LAY A S) : pN S (A 38) = 125 := h.2.2.1 (38, 125) (by decide)
theorem LAY.k39 {A : Nat → Nat} {S : pq_S} (h : LAY A S) : TY S (A 39) 1 := h.2.1 (39, 1) (by decide)
theorem LAY.k40 {A : Nat → Nat} {S : pq_S} (h : LAY A S) : TY S (A 40) 9 := h.2.1 (40, 9) (by decide)
theorem LAY.k41 {A : Nat → Nat} {S : pq_S} (h : LAY A S) : TY S (A 41) 14 := h.2.1 (41, 14) (by decide)
theorem LAY.n41 {A : Nat → Nat} {S : pq_S} (h : LAY A S) : pN S (A 41) = 24 := h.2.2.1 (41, 24) (by decide)
theorem LAY.k42 {A : Nat → Nat} {S : pq_S} (h : LAY A S) : TY S (A 42) 9 := h.2.1 (42, 9) (by decide)
theorem LAY.k43 {A : Nat → Nat} {S : pq_S} (h : LAY A S) : TY S (A 43) 14 := h.2.1 (43, 14) (by decide)
theorem LAY.n43 {A : Nat → Nat} {S : pq_S} (h : LAY A S) : pN S (A 43) = 48 := h.2.2.1 (43, 48) (by decide)
theorem LAY.k44 {A : Nat → Nat} {S : pq_S} (h : LAY A S) : TY S (A 44) 9 := h.2.1 (44, 9) (by decide)
theorem LAY.k45 {A : Nat → Nat} {S : pq_S} (h : LAY A S) : TY S (A 45) 14 := h.2.1 (45, 14) (by decide)
theorem LAY.n45 {A : Nat → Nat} {S : pq_S} (h : LAY A S) : pN S (A 45) = 9 := h.2.2.1 (45, 9) (by decide)
theorem LAY.k46 {A : Nat → Nat} {S : pq_S} (h : LAY A S) : TY S (A 46) 9 := h.2.1 (46, 9) (by decide)
theorem LAY.k47 {A : Nat → Nat} {S : pq_S} (h : LAY A S) : TY S (A 47) 14 := h.2.1 (47, 14) (by decide)
theorem LAY.n47 {A : Nat → Nat} {S : pq_S} (h : LAY A S) : pN S (A 47) = 6 := h.2.2.1 (47, 6) (by decide)
theorem LAY.k48 {A : Nat → Nat} {S : pq_S} (h : LAY A S) : TY S (A 48) 2 := h.2.1 (48, 2) (by decide)
theorem LAY.k49 {A : Nat → Nat} {S : pq_S} (h : LAY A S) : TY S (A 49) 14 := h.2.1 (49, 14) (by decide)
theorem LAY.n49 {A : Nat → Nat} {S : pq_S} (h : LAY A S) : pN S (A 49) = 150 := h.2.2.1 (49, 150) (by decide)
theorem LAY.k50 {A : Nat → Nat} {S : pq_S} (h : LAY A S) : TY S (A 50) 14 := h.2.1 (50, 14) (by decide)
theorem LAY.n50 {A : Nat → Nat} {S : pq_S} (h : LAY A S) : pN S (A 50) = 7 := h.2.2.1 (50, 7) (by decide)
theorem LAY.k51 {A : Nat → Nat} {S : pq_S} (h : LAY A S) : TY S (A 51) 14 := h.2.1 (51, 14) (by decide)
theorem LAY.n51 {A : Nat → Nat} {S : pq_S} (h : LAY A S) : pN S (A 51) = 32 := h.2.2.1 (51, 32) (by decide)
theorem LAY.k52 {A : Nat → Nat} {S : pq_S} (h : LAY A S) : TY S (A 52) 0 := h.2.1 (52, 0) (by decide)
theorem LAY.k53 {A : Nat → Nat} {S : pq_S} (h : LAY A S) : TY S (A 53) 14 := h.2.1 (53, 14) (by decide)
theorem LAY.n53 {A : Nat → Nat} {S : pq_S} (h : LAY A S) : pN S (A 53) = 6 := h.2.2.1 (53, 6) (by decide)
theorem LAY.k54 {A : Nat → Nat} {S : pq_S} (h : LAY A S) : TY S (A 54) 0 := h.2.1 (54, 0) (by decide)
theorem LAY.k55 {A : Nat → Nat} {S : pq_S} (h : LAY A S) : TY S (A 55) 14 := h.2.1 (55, 14) (by decide)
theorem LAY.n55 {A : Nat → Nat} {S : pq_S} (h : LAY A S) : pN S (A 55) = 6 := h.2.2.1 (55, 6) (by decide)
theorem LAY.k56 {A : Nat → Nat} {S : pq_S} (h : LAY A S) : TY S (A 56) 5 := h.2.1 (56, 5) (by decide)
theorem LAY.k57 {A : Nat → Nat} {S : pq_S} (h : LAY A S) : TY S (A 57) 16 := h.2.1 (57, 16) (by decide)
theorem LAY.n57 {A : Nat → Nat} {S : pq_S} (h : LAY A S) : pN S (A 57) = 17 := h.2.2.1 (57, 17) (by decide)
theorem LAY.k58 {A : Nat → Nat} {S : pq_S} (h : LAY A S) : TY S (A 58) 15 := h.2.1 (58, 15) (by decide)
theorem LAY.n58 {A : Nat → Nat} {S : pq_S} (h : LAY A S) : pN S (A 58) = 3 := h.2.2.1 (58, 3) (by decide)
theorem LAY.k59 {A : Nat → Nat} {S : pq_S} (h : LAY A S) : TY S (A 59) 14 := h.2.1 (59, 14) (by decide)
theorem LAY.n59 {A : Nat → Nat} {S : pq_S} (h : LAY A S) : pN S (A 59) = 41 := h.2.2.1 (59, 41) (by decide)
theorem LAY.k60 {A : Nat → Nat} {S : pq_S} (h : LAY A S) : TY S (A 60) 12 := h.2.1 (60, 12) (by decide)
theorem LAY.k61 {A : Nat → Nat} {S : pq_S} (h : LAY A S) : TY S (A 61) 14 := h.2.1 (61, 14) (by decide)
theorem LAY.n61 {A : Nat → Nat} {S : pq_S} (h : LAY A S) : pN S (A 61) = 2 := h.2.2.1 (61, 2) (by decide)
theorem LAY.k62 {A : Nat → Nat} {S : pq_S} (h : LAY A S) : TY S (A 62) 14 := h.2.1 (62, 14) (by decide)
theorem LAY.n62 {A : Nat → Nat} {S : pq_S} (h : LAY A S) : pN S (A 62) = 600 := h.2.2.1 (62, 600) (by decide)
theorem LAY.k63 {A : Nat → Nat} {S : pq_S} (h : LAY A S) : TY S (A 63) 14 := h.2.1 (63, 14) (by decide)
theorem LAY.n63 {A : Nat → Nat} {S : pq_S} (h : LAY A S) : pN S (A 63) = 24 := h.2.2.1 (63, 24) (by decide)
theorem LAY.k64 {A : Nat → Nat} {S : pq_S} (h : LAY A S) : TY S (A 64) 14 := h.2.1 (64, 14) (by decide)
theorem LAY.n64 {A : Nat → Nat} {S : pq_S} (h : LAY A S) : pN S (A 64) = 48 := h.2.2.1 (64, 48) (by decide)
theorem LAY.k65 {A : Nat → Nat} {S : pq_S} (h : LAY A S) : TY S (A 65) 14 := h.2.1 (65, 14) (by decide)
theorem LAY.n65 {A : Nat → Nat} {S : pq_S} (h : LAY A S) : pN S (A 65) = 9 := h.2.2.1 (65, 9) (by decide)
theorem LAY.k66 {A : Nat → Nat} {S : pq_S} (h : LAY A S) : TY S (A 66) 14 := h.2.1 (66, 14) (by decide)
theorem LAY.n66 {A : Nat → Nat} {S : pq_S} (h : LAY A S) : pN S (A 66) = 6 := h.2.2.1 (66, 6) (by decide)
theorem LAY.k67 {A : Nat → Nat} {S : pq_S} (h : LAY A S) : TY S (A 67) 14 := h.2.1 (67, 14) (by decide)
theorem LAY.n67 {A : Nat → Nat} {S : pq_S} (h : LAY A S) : pN S (A 67) = 24 := h.2.2.1 (67, 24) (by decide)
theorem LAY.k68 {A : Nat → Nat} {S : pq_S} (h : LAY A S) : TY S (A 68) 14 := h.2.1 (68, 14) (by decide)
theorem LAY.n68 {A : Nat → Nat} {S : pq_S} (h : LAY A S) : pN S (A 68) = 48 := h.2.2.1 (68, 48) (by decide)
theorem LAY.k69 {A : Nat → Nat} {S : pq_S} (h : LAY A S) : TY S (A 69) 14 := h.2.1 (69, 14) (by decide)
theorem LAY.n69 {A : Nat → Nat} {S : pq_S} (h : LAY A S) : pN S (A 69) = 9 := h.2.2.1 (69, 9) (by decide)
theorem LAY.k70 {A : Nat → Nat} {S : pq_S} (h : LAY A S) : TY S (A 70) 14 := h.2.1 (70, 14) (by decide)
theorem LAY.n70 {A : Nat → Nat} {S : pq_S} (h : LAY A S) : pN S (A 70) = 6 := h.2.2.1 (70, 6) (by decide)
theorem LAY.k71 {A : Nat → Nat} {S : pq_S} (h : LAY A S) : TY S (A 71) 14 := h.2.1 (71, 14) (by decide)
theorem LAY.n71 {A : Nat → Nat} {S : pq_S} (h : LAY A S) : pN S (A 71) = 150 := h.2.2.1 (71, 150) (by decide)
theorem LAY.k72 {A : Nat → Nat} {S : pq_S} (h : LAY A S) : TY S (A 72) 14 := h.2.1 (72, 14) (by decide)
theorem LAY.n72 {A : Nat → Nat} {S : pq_S} (h : LAY A S) : pN S (A 72) = 150 := h.2.2.1 (72, 150) (by decide)
theorem LAY.k73 {A : Nat → Nat} {S : pq_S} (h : LAY A S) : TY S (A 73) 14 := h.2.1 (73, 14) (by decide)
theorem LAY.n73 {A : Nat → Nat} {S : pq_S} (h : LAY A S) : pN S (A 73) = 300 := h.2.2.1 (73, 300) (by decide)
theorem LAY.k74 {A : Nat → Nat} {S : pq_S} (h : LAY A S) : TY S (A 74) 14 := h.2.1 (74, 14) (by decide)
theorem LAY.n74 {A : Nat → Nat} {S : pq_S} (h : LAY A S) : pN S (A 74) = 300 := h.2.2.1 (74, 300) (by decide)
theorem LAY.k75 {A : Nat → Nat} {S : pq_S} (h : LAY A S) : TY S (A 75) 14 := h.2.1 (75, 14) (by decide)
theorem LAY.n75 {A : Nat → Nat} {S : pq_S} (h : LAY A S) : pN S (A 75) = 2 := h.2.2.1 (75, 2) (by decide)
theorem LAY.k76 {A : Nat → Nat} {S : pq_S} (h : LAY A S) : TY S (A 76) 14 := h.2.1 (76, 14) (by decide)
theorem LAY.n76 {A : Nat → Nat} {S : pq_S} (h : LAY A S) : pN S (A 76) = 150 := h.2.2.1 (76, 150) (by decide)
theorem LAY.k77 {A : Nat → Nat} {S : pq_S} (h : LAY A S) : TY S (A 77) 14 := h.2.1 (77, 14) (by decide)
theorem LAY.n77 {A : Nat → Nat} {S : pq_S} (h : LAY A S) : pN S (A 77) = 7 := h.2.2.1 (77, 7) (by decide)
theorem LAY.k78 {A : Nat → Nat} {S : pq_S} (h : LAY A S) : TY S (A 78) 14 := h.2.1 (78, 14) (by decide)
theorem LAY.n78 {A : Nat → Nat} {S : pq_S} (h : LAY A S) : pN S (A 78) = 250 := h.2.2.1 (78, 250) (by decide)
theorem LAY.k79 {A : Nat → Nat} {S : pq_S} (h : LAY A S) : TY S (A 79) 14 := h.2.1 (79, 14) (by decide)
theorem LAY.n79 {A : Nat → Nat} {S : pq_S} (h : LAY A S) : pN S (A 79) = 250 := h.2.2.1 (79, 250) (by decide)
theorem LAY.k80 {A : Nat → Nat} {S : pq_S} (h : LAY A S) : TY S (A 80) 14 := h.2.1 (80, 14) (by decide)
theorem LAY.n80 {A : Nat → Nat} {S : pq_S} (h : LAY A S) : pN S (A 80) = 50 := h.2.2.1 (80, 50) (by decide)
theorem LAY.k81 {A : Nat → Nat} {S : pq_S} (h : LAY A S) : TY S (A 81) 14 := h.2.1 (81, 14) (by decide)
theorem LAY.n81 {A : Nat → Nat} {S : pq_S} (h : LAY A S) : pN S (A 81) = 50 := h.2.2.1 (81, 50) (by decide)
theorem LAY.k82 {A : Nat → Nat} {S : pq_S} (h : LAY A S) : TY S (A 82) 14 := h.2.1 (82, 14) (by decide)
theorem LAY.n82 {A : Nat → Nat} {S : pq_S} (h : LAY A S) : pN S (A 82) = 800 := h.2.2.1 (82, 800) (by decide)
theorem LAY.k83 {A : Nat → Nat} {S : pq_S} (h : LAY A S) : TY S (A 83) 14 := h.2.1 (83, 14) (by decide)
theorem LAY.n83 {A : Nat → Nat} {S : pq_S} (h : LAY A S) : pN S (A 83) = 12 := h.2.2.1 (83, 12) (by decide)
theorem LAY.k84 {A : Nat → Nat} {S : pq_S} (h : LAY A S) : TY S (A 84) 14 := h.2.1 (84, 14) (by decide)
theorem LAY.n84 {A : Nat → Nat} {S : pq_S} (h : LAY A S) : pN S (A 84) = 12 := h.2.2.1 (84, 12) (by decide)
theorem LAY.k85 {A : Nat → Nat} {S : pq_S} (h : LAY A S) : TY S (A 85) 14 := h.2.1 (85, 14) (by decide)
theorem LAY.n85 {A : Nat → Nat} {S : pq_S} (h : LAY A S) : pN S (A 85) = 12 := h.2.2.1 (85, 12) (by decide)
theorem LAY.k86 {A : Nat → Nat} {S : pq_S} (h : LAY A S) : TY S (A 86) 14 := h.2.1 (86, 14) (by decide)
theorem LAY.n86 {A : Nat → Nat} {S : pq_S} (h : LAY A S) : pN S (A 86) = 12 := h.2.2.1 (86, 12) (by decide)
theorem LAY.k87 {A : Nat → Nat} {S : pq_S} (h : LAY A S) : TY S (A 87) 14 := h.2.1 (87, 14) (by decide)
theorem LAY.n87 {A : Nat → Nat} {S : pq_S} (h : LAY A S) : pN S (A 87) = 12 := h.2.2.1 (87, 12) (by decide)
theorem LAY.k88 {A : Nat → Nat} {S : pq_S} (h : LAY A S) : TY S (A 88) 14 := h.2.1 (88, 14) (by decide)
theorem LAY.n88 {A : Nat → Nat} {S : pq_S} (h : LAY A S) : pN S (A 88) = 41 := h.2.2.1 (88, 41) (by decide)
theorem LAY.k89 {A : Nat → Nat} {S : pq_S} (h : LAY A S) : TY S (A 89) 14 := h.2.1 (89, 14) (by decide)
theorem LAY.n89 {A : Nat → Nat} {S : pq_S} (h : LAY A S) : pN S (A 89) = 41 := h.2.2.1 (89, 41) (by decide)
theorem LAY.k90 {A : Nat → Nat} {S : pq_S} (h : LAY A S) : TY S (A 90) 14 := h.2.1 (90, 14) (by decide)
theorem LAY.n90 {A : Nat → Nat} {S : pq_S} (h : LAY A S) : pN S (A 90) = 6 := h.2.2.1 (90, 6) (by decide)
theorem LAY.k91 {A : Nat → Nat} {S : pq_S} (h : LAY A S) : TY S (A 91) 14 := h.2.1 (91, 14) (by decide)
theorem LAY.n91 {A : Nat → Nat} {S : pq_S} (h : LAY A S) : pN S (A 91) = 2553 := h.2.2.1 (91, 2553) (by decide)
theorem LAY.w5 {A : Nat → Nat} {S : pq_S} (h : LAY A S) : pI S 901 (A 5) = 4 := h.2.2.2.1 (5, 4) (by decide)
theorem LAY.w7 {A : Nat → Nat} {S : pq_S} (h : LAY A S) : pI S 901 (A 7) = 4 := h.2.2.2.1 (7, 4) (by decide)
theorem LAY.w9 {A : Nat → Nat} {S : pq_S} (h : LAY A S) : pI S 901 (A 9) = 3 := h.2.2.2.1 (9, 3) (by decide)
theorem LAY.w11 {A : Nat → Nat} {S : pq_S} (h : LAY A S) : pI S 901 (A 11) = 2 := h.2.2.2.1 (11, 2) (by decide)
theorem LAY.w14 {A : Nat → Nat} {S : pq_S} (h : LAY A S) : pI S 901 (A 14) = 3 := h.2.2.2.1 (14, 3) (by decide)
theorem LAY.w16 {A : Nat → Nat} {S : pq_S} (h : LAY A S) : pI S 901 (A 16) = 2 := h.2.2.2.1 (16, 2) (by decide)
theorem LAY.w18 {A : Nat → Nat} {S : pq_S} (h : LAY A S) : pI S 901 (A 18) = 2 := h.2.2.2.1 (18, 2) (by decide)
theorem LAY.w37 {A : Nat → Nat} {S : pq_S} (h : LAY A S) : pI S 901 (A 37) = 5 := h.2.2.2.1 (37, 5) (by decide)
theorem LAY.w40 {A : Nat → Nat} {S : pq_S} (h : LAY A S) : pI S 901 (A 40) = 4 := h.2.2.2.1 (40, 4) (by decide)
theorem LAY.w42 {A : Nat → Nat} {S : pq_S} (h : LAY A S) : pI S 901 (A 42) = 4 := h.2.2.2.1 (42, 4) (by decide)
theorem LAY.w44 {A : Nat → Nat} {S : pq_S} (h : LAY A S) : pI S 901 (A 44) = 3 := h.2.2.2.1 (44, 3) (by decide)
theorem LAY.w46 {A : Nat → Nat} {S : pq_S} (h : LAY A S) : pI S 901 (A 46) = 2 := h.2.2.2.1 (46, 2) (by decide)
/-- the class's own addresses: all that is made once but for the reference's, and what the predicate D adds -/
def PX (A : Nat → Nat) (D : Nat → Prop) : Nat → Prop := fun a => (∃ i, i < ly_m ∧ a = A i) ∨ D a
def PM (A : Nat → Nat) : Nat → Prop := fun a => ∃ i, ly_m ≤ i ∧ i < ly_n ∧ a = A i
theorem LAY.ag {A : Nat → Nat} {S T : pq_S} {P : Nat → Prop} (h : LAY A S) (g : Ag P S T) (hw : ∀ e ∈ ly_W, pI T 901 (A e.1) = e.2) : LAY A T := ⟨fun e he => by rw [g.1.2.2.2.1]; exact h.1 e he, fun e he => ⟨by rw [g.1.1]; exact (h.2.1 e he).1, by rw [g.1.2.1]; exact (h.2.1 e he).2⟩, fun e he => by rw [g.1.2.2.1]; exact h.2.2.1 e he, hw, h.2.2.2.2⟩
theorem ag_I {P : Nat → Prop} {S T : pq_S} (g : Ag P S T) {f a : Nat} (h : ¬ P a) : pI T f a = pI S f a := g.2.1 f a h
theorem ag_A {P : Nat → Prop} {S T : pq_S} (g : Ag P S T) {a : Nat} (h : ¬ P a) : pA T a = pA S a := funext fun i => g.2.2 a i h
theorem cb_mk {α β γ : Type} (a : α) (b : β) (k : α → β → Option γ) : cb (some (a, b)) k = k a b := rfl
theorem lt_mk {α β : Type} (x : α) (k : α → β) : lt_ x k = k x := rfl
