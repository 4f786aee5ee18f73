/-! views: what the two sides see -/
theorem LAY.R {A : Nat → Nat} {S : pq_S} (h : LAY A S) : pR S 1000 (A 1) = some (A 2) ∧ pR S 1100 (A 0) = some (A 1) ∧ pR S 100 (A 4) = some (A 5) ∧ pR S 900 (A 5) = some (A 6) ∧ pR S 101 (A 4) = some (A 7) ∧ pR S 900 (A 7) = some (A 8) ∧ pR S 102 (A 4) = some (A 9) ∧ pR S 900 (A 9) = some (A 10) ∧ pR S 103 (A 4) = some (A 11) ∧ pR S 900 (A 11) = some (A 12) ∧ pR S 700 (A 3) = some (A 4) ∧ pR S 800 (A 13) = some (A 14) ∧ pR S 900 (A 14) = some (A 15) ∧ pR S 801 (A 13) = some (A 16) ∧ pR S 900 (A 16) = some (A 17) ∧ pR S 802 (A 13) = some (A 18) ∧ pR S 900 (A 18) = some (A 19) ∧ pR S 701 (A 3) = some (A 13) ∧ pR S 200 (A 20) = some (A 21) ∧ pR S 201 (A 20) = some (A 22) ∧ pR S 202 (A 20) = some (A 23) ∧ pR S 702 (A 3) = some (A 20) ∧ pR S 200 (A 24) = some (A 25) ∧ pR S 201 (A 24) = some (A 26) ∧ pR S 202 (A 24) = some (A 27) ∧ pR S 703 (A 3) = some (A 24) ∧ pR S 1101 (A 0) = some (A 3) ∧ pR S 300 (A 28) = some (A 3) ∧ pR S 301 (A 28) = some (A 29) ∧ pR S 302 (A 28) = some (A 30) ∧ pR S 303 (A 28) = some (A 31) ∧ pR S 1102 (A 0) = some (A 28) ∧ pR S 400 (A 32) = some (A 3) ∧ pR S 401 (A 32) = some (A 33) ∧ pR S 402 (A 32) = some (A 34) ∧ pR S 403 (A 32) = some (A 35) ∧ pR S 1103 (A 0) = some (A 32) ∧ pR S 600 (A 36) = some (A 37) ∧ pR S 900 (A 37) = some (A 38) ∧ pR S 1104 (A 0) = some (A 36) ∧ pR S 100 (A 39) = some (A 40) ∧ pR S 900 (A 40) = some (A 41) ∧ pR S 101 (A 39) = some (A 42) ∧ pR S 900 (A 42) = some (A 43) ∧ pR S 102 (A 39) = some (A 44) ∧ pR S 900 (A 44) = some (A 45) ∧ pR S 103 (A 39) = some (A 46) ∧ pR S 900 (A 46) = some (A 47) ∧ pR S 1105 (A 0) = some (A 39) ∧ pR S 200 (A 48) = some (A 49) ∧ pR S 201 (A 48) = some (A 50) ∧ pR S 202 (A 48) = some (A 51) ∧ pR S 1106 (A 0) = some (A 48) ∧ pR S 0 (A 52) = some (A 53) ∧ pR S 1107 (A 0) = some (A 52) ∧ pR S 0 (A 54) = some (A 55) ∧ pR S 1108 (A 0) = some (A 54) ∧ pR S 500 (A 56) = some (A 57) ∧ pR S 1109 (A 0) = some (A 56) ∧ pR S 1110 (A 0) = some (A 58) ∧ pR S 1111 (A 0) = some (A 59) ∧ pR S 1201 (A 60) = some (A 61) ∧ pR S 1209 (A 60) = some (A 62) ∧ pR S 1210 (A 60) = some (A 63) ∧ pR S 1211 (A 60) = some (A 64) ∧ pR S 1212 (A 60) = some (A 65) ∧ pR S 1213 (A 60) = some (A 66) ∧ pR S 1214 (A 60) = some (A 67) ∧ pR S 1215 (A 60) = some (A 68) ∧ pR S 1216 (A 60) = some (A 69) ∧ pR S 1217 (A 60) = some (A 70) ∧ pR S 1230 (A 60) = some (A 71) ∧ pR S 1231 (A 60) = some (A 72) ∧ pR S 1232 (A 60) = some (A 73) ∧ pR S 1233 (A 60) = some (A 74) ∧ pR S 1234 (A 60) = some (A 75) ∧ pR S 1235 (A 60) = some (A 76) ∧ pR S 1237 (A 60) = some (A 77) ∧ pR S 1238 (A 60) = some (A 78) ∧ pR S 1239 (A 60) = some (A 79) ∧ pR S 1246 (A 60) = some (A 80) ∧ pR S 1247 (A 60) = some (A 81) ∧ pR S 1248 (A 60) = some (A 82) ∧ pR S 1249 (A 60) = some (A 83) ∧ pR S 1250 (A 60) = some (A 84) ∧ pR S 1252 (A 60) = some (A 85) ∧ pR S 1259 (A 60) = some (A 86) ∧ pR S 1260 (A 60) = some (A 87) ∧ pR S 1262 (A 60) = some (A 88) ∧ pR S 1263 (A 60) = some (A 89) ∧ pR S 1264 (A 60) = some (A 90) ∧ pR S 1271 (A 60) = some (A 91) := ⟨h.r1_1000, h.r0_1100, h.r4_100, h.r5_900, h.r4_101, h.r7_900, h.r4_102, h.r9_900, h.r4_103, h.r11_900, h.r3_700, h.r13_800, h.r14_900, h.r13_801, h.r16_900, h.r13_802, h.r18_900, h.r3_701, h.r20_200, h.r20_201, h.r20_202, h.r3_702, h.r24_200, h.r24_201, h.r24_202, h.r3_703, h.r0_1101, h.r28_300, h.r28_301, h.r28_302, h.r28_303, h.r0_1102, h.r32_400, h.r32_401, h.r32_402, h.r32_403, h.r0_1103, h.r36_600, h.r37_900, h.r0_1104, h.r39_100, h.r40_900, h.r39_101, h.r42_900, h.r39_102, h.r44_900, h.r39_103, h.r46_900, h.r0_1105, h.r48_200, h.r48_201, h.r48_202, h.r0_1106, h.r52_0, h.r0_1107, h.r54_0, h.r0_1108, h.r56_500, h.r0_1109, h.r0_1110, h.r0_1111, h.r60_1201, h.r60_1209, h.r60_1210, h.r60_1211, h.r60_1212, h.r60_1213, h.r60_1214, h.r60_1215, h.r60_1216, h.r60_1217, h.r60_1230, h.r60_1231, h.r60_1232, h.r60_1233, h.r60_1234, h.r60_1235, h.r60_1237, h.r60_1238, h.r60_1239, h.r60_1246, h.r60_1247, h.r60_1248, h.r60_1249, h.r60_1250, h.r60_1252, h.r60_1259, h.r60_1260, h.r60_1262, h.r60_1263, h.r60_1264, h.r60_1271⟩
theorem LAY.N {A : Nat → Nat} {S : pq_S} (h : LAY A S) : pN S (A 2) = 600 ∧ pN S (A 6) = 24 ∧ pN S (A 8) = 48 ∧ pN S (A 10) = 9 ∧ pN S (A 12) = 6 ∧ pN S (A 15) = 18 ∧ pN S (A 17) = 24 ∧ pN S (A 19) = 6 ∧ pN S (A 21) = 150 ∧ pN S (A 22) = 7 ∧ pN S (A 23) = 32 ∧ pN S (A 25) = 150 ∧ pN S (A 26) = 7 ∧ pN S (A 27) = 32 ∧ pN S (A 29) = 145 ∧ pN S (A 30) = 145 ∧ pN S (A 31) = 21 ∧ pN S (A 33) = 12 ∧ pN S (A 34) = 12 ∧ pN S (A 35) = 12 ∧ pN S (A 38) = 125 ∧ pN S (A 41) = 24 ∧ pN S (A 43) = 48 ∧ pN S (A 45) = 9 ∧ pN S (A 47) = 6 ∧ pN S (A 49) = 150 ∧ pN S (A 50) = 7 ∧ pN S (A 51) = 32 ∧ pN S (A 53) = 6 ∧ pN S (A 55) = 6 ∧ pN S (A 57) = 17 ∧ pN S (A 58) = 3 ∧ pN S (A 59) = 41 ∧ pN S (A 61) = 2 ∧ pN S (A 62) = 600 ∧ pN S (A 63) = 24 ∧ pN S (A 64) = 48 ∧ pN S (A 65) = 9 ∧ pN S (A 66) = 6 ∧ pN S (A 67) = 24 ∧ pN S (A 68) = 48 ∧ pN S (A 69) = 9 ∧ pN S (A 70) = 6 ∧ pN S (A 71) = 150 ∧ pN S (A 72) = 150 ∧ pN S (A 73) = 300 ∧ pN S (A 74) = 300 ∧ pN S (A 75) = 2 ∧ pN S (A 76) = 150 ∧ pN S (A 77) = 7 ∧ pN S (A 78) = 250 ∧ pN S (A 79) = 250 ∧ pN S (A 80) = 50 ∧ pN S (A 81) = 50 ∧ pN S (A 82) = 800 ∧ pN S (A 83) = 12 ∧ pN S (A 84) = 12 ∧ pN S (A 85) = 12 ∧ pN S (A 86) = 12 ∧ pN S (A 87) = 12 ∧ pN S (A 88) = 41 ∧ pN S (A 89) = 41 ∧ pN S (A 90) = 6 ∧ pN S (A 91) = 2553 := ⟨h.n2, h.n6, h.n8, h.n10, h.n12, h.n15, h.n17, h.n19, h.n21, h.n22, h.n23, h.n25, h.n26, h.n27, h.n29, h.n30, h.n31, h.n33, h.n34, h.n35, h.n38, h.n41, h.n43, h.n45, h.n47, h.n49, h.n50, h.n51, h.n53, h.n55, h.n57, h.n58, h.n59, h.n61, h.n62, h.n63, h.n64, h.n65, h.n66, h.n67, h.n68, h.n69, h.n70, h.n71, h.n72, h.n73, h.n74, h.n75, h.n76, h.n77, h.n78, h.n79, h.n80, h.n81, h.n82, h.n83, h.n84, h.n85, h.n86, h.n87, h.n88, h.n89, h.n90, h.n91⟩
theorem LIT : (0 : Int32) = nI 0 ∧ (1 : Int32) = nI 1 ∧ (2 : Int32) = nI 2 ∧ (3 : Int32) = nI 3 ∧ (4 : Int32) = nI 4 ∧ (5 : Int32) = nI 5 ∧ (6 : Int32) = nI 6 ∧ (7 : Int32) = nI 7 ∧ (8 : Int32) = nI 8 ∧ (9 : Int32) = nI 9 ∧ (10 : Int32) = nI 10 ∧ (11 : Int32) = nI 11 ∧ (12 : Int32) = nI 12 ∧ (13 : Int32) = nI 13 ∧ (14 : Int32) = nI 14 ∧ (15 : Int32) = nI 15 ∧ (16 : Int32) = nI 16 ∧ (17 : Int32) = nI 17 ∧ (18 : Int32) = nI 18 ∧ (19 : Int32) = nI 19 ∧ (20 : Int32) = nI 20 ∧ (21 : Int32) = nI 21 ∧ (24 : Int32) = nI 24 ∧ (30 : Int32) = nI 30 ∧ (31 : Int32) = nI 31 ∧ (32 : Int32) = nI 32 ∧ (40 : Int32) = nI 40 ∧ (41 : Int32) = nI 41 ∧ (42 : Int32) = nI 42 ∧ (45 : Int32) = nI 45 ∧ (48 : Int32) = nI 48 ∧ (49 : Int32) = nI 49 ∧ (50 : Int32) = nI 50 ∧ (59 : Int32) = nI 59 ∧ (60 : Int32) = nI 60 ∧ (91 : Int32) = nI 91 ∧ (93 : Int32) = nI 93 ∧ (96 : Int32) = nI 96 ∧ (97 : Int32) = nI 97 ∧ (99 : Int32) = nI 99 ∧ (100 : Int32) = nI 100 ∧ (122 : Int32) = nI 122 ∧ (125 : Int32) = nI 125 ∧ (144 : Int32) = nI 144 ∧ (145 : Int32) = nI 145 ∧ (150 : Int32) = nI 150 ∧ (200 : Int32) = nI 200 ∧ (250 : Int32) = nI 250 ∧ (255 : Int32) = nI 255 ∧ (300 : Int32) = nI 300 ∧ (400 : Int32) = nI 400 ∧ (600 : Int32) = nI 600 ∧ (800 : Int32) = nI 800 ∧ (850 : Int32) = nI 850 ∧ (851 : Int32) = nI 851 ∧ (999 : Int32) = nI 999 ∧ (1000 : Int32) = nI 1000 ∧ (1024 : Int32) = nI 1024 ∧ (1998 : Int32) = nI 1998 ∧ (2000 : Int32) = nI 2000 ∧ (2001 : Int32) = nI 2001 ∧ (2002 : Int32) = nI 2002 ∧ (2003 : Int32) = nI 2003 ∧ (2004 : Int32) = nI 2004 ∧ (2005 : Int32) = nI 2005 ∧ (2553 : Int32) = nI 2553 ∧ (4095 : Int32) = nI 4095 ∧ (4096 : Int32) = nI 4096 ∧ (9999 : Int32) = nI 9999 ∧ (10000 : Int32) = nI 10000 ∧ (32767 : Int32) = nI 32767 ∧ (100000 : Int32) = nI 100000 := ⟨rfl, rfl, rfl, rfl, rfl, rfl, rfl, rfl, rfl, rfl, rfl, rfl, rfl, rfl, rfl, rfl, rfl, rfl, rfl, rfl, rfl, rfl, rfl, rfl, rfl, rfl, rfl, rfl, rfl, rfl, rfl, rfl, rfl, rfl, rfl, rfl, rfl, rfl, rfl, rfl, rfl, rfl, rfl, rfl, rfl, rfl, rfl, rfl, rfl, rfl, rfl, rfl, rfl, rfl, rfl, rfl, rfl, rfl, rfl, rfl, rfl, rfl, rfl, rfl, rfl, rfl, rfl, rfl, rfl, rfl, rfl, rfl⟩
theorem ofN (k : Nat) : Int32.ofNat k = nI k := rfl
theorem ck_if {α : Type} {b : Prop} {d : Decidable b} {k : Option α} : ck b d k = @ite _ b d k none := rfl
theorem ixn {k N : Nat} (h : k < N) (hN : N < 2 ^ 31) : ix (nI k) N := ix_nI h hN
def XV (g : GH) (A : Nat → Nat) (S : pq_S) (st : Nat → Int32) : Prop := LAY A S ∧ GB g ∧ SB g st ∧ CX g S A ∧ STX g S (A 13) (A 14) (A 16) (A 18) (A 15) (A 17) (A 19) st
def RV (g : GH) (A : Nat → Nat) (S : pq_S) (st : Nat → Int32) : Prop := LAY A S ∧ GB g ∧ SB g st ∧ CM g S A ∧ ∀ i, i < 50 → pA S (A 81) i = st i
theorem JG.xv {A : Nat → Nat} {V : Nat → Prop} {g : GH} {S : pq_S} (h : JG A V g S) : XV g A S (gst g) := ⟨h.lay, h.gb, h.sb, h.cx, h.sx⟩
def tk (A : Nat → Nat) (S : pq_S) : pq_S := sF (st0 S (A 60)) (A 81) (mixr 50 (pA S (A 80)) (pA S (A 81)))
theorem jg_take {A : Nat → Nat} {V : Nat → Prop} {g : GH} {S : pq_S} {n : Nat} (h : JG A V g S) (hn : 50 < n) : m_X12_take n (A 60) (sI S 1200 (A 60) 0) = some (tk A S) := sp_take (S := st0 S (A 60)) h.st0.lay.r60_1246 h.st0.lay.r60_1247 (h.lay.ne (by decide) (by decide) (by decide)) h.lay.n80 h.lay.n81 hn
theorem JG.tkk {A : Nat → Nat} {V : Nat → Prop} {g : GH} {S : pq_S} (_h : JG A V g S) : KP A S (tk A S) := KPL.wF (KPL.wI (KPL.rf _ _ _ _ _) (by decide)) (by decide)
theorem tk_th (A : Nat → Nat) (S : pq_S) : pI (tk A S) 1200 (A 60) = 0 := st0_th S (A 60)
theorem JG.rv {A : Nat → Nat} {V : Nat → Prop} {g : GH} {S : pq_S} (h : JG A V g S) : RV g A (tk A S) (gst g) := by
  have k := h.kp h.tkk
  refine ⟨k.lay, h.gb, h.sb, k.cm, fun i hi => ?_⟩
  unfold tk
  rw [pA_sF, if_pos rfl]
  unfold mixr
  rw [if_pos hi]
  exact h.nw i hi
/-! the class's table reads -/
theorem XV.pl {g : GH} {A : Nat → Nat} {S : pq_S} {st : Nat → Int32} (h : XV g A S st) {n p c : Nat} (hp : p < gP g) (hc : c < 4) : m_X9_at n (A 5) (nI p) (nI c) S = some (nI (gpl g (4 * p + c)), S) := by
  have := h.2.1.1.1
  rw [sp_atn rfl h.1.r5_900 (w := 4) h.1.w5 (by rw [h.1.n6]; decide) (by rw [h.1.n6]; omega), h.2.2.2.1.2.1 _ (by omega), show p * 4 + c = 4 * p + c by omega]
theorem XV.wa {g : GH} {A : Nat → Nat} {S : pq_S} {st : Nat → Int32} (h : XV g A S st) {n p c : Nat} (hp : p < gW g) (hc : c < 4) : m_X9_at n (A 7) (nI p) (nI c) S = some (nI (gwa g (4 * p + c)), S) := by
  have := h.2.1.1.2.1
  rw [sp_atn rfl h.1.r7_900 (w := 4) h.1.w7 (by rw [h.1.n8]; decide) (by rw [h.1.n8]; omega), h.2.2.2.1.2.2.1 _ (by omega), show p * 4 + c = 4 * p + c by omega]
theorem XV.mi {g : GH} {A : Nat → Nat} {S : pq_S} {st : Nat → Int32} (h : XV g A S st) {n p c : Nat} (hp : p < gM g) (hc : c < 3) : m_X9_at n (A 9) (nI p) (nI c) S = some (nI (gmi g (3 * p + c)), S) := by
  have := h.2.1.1.2.2.1
  rw [sp_atn rfl h.1.r9_900 (w := 3) h.1.w9 (by rw [h.1.n10]; decide) (by rw [h.1.n10]; omega), h.2.2.2.1.2.2.2.1 _ (by omega), show p * 3 + c = 3 * p + c by omega]
theorem XV.ho {g : GH} {A : Nat → Nat} {S : pq_S} {st : Nat → Int32} (h : XV g A S st) {n p c : Nat} (hp : p < gP g) (hc : c < 3) : m_X9_at n (A 14) (nI p) (nI c) S = some (st (6 * c + p), S) := by
  have := h.2.1.1.1
  obtain ⟨e0, e1, e2⟩ := h.2.2.2.2.2.1 p hp
  have hc3 : c = 0 ∨ c = 1 ∨ c = 2 := by omega
  rw [sp_atn rfl h.1.r14_900 (w := 3) h.1.w14 (by rw [h.1.n15]; decide) (by rw [h.1.n15]; omega), show p * 3 + c = 3 * p + c by omega]
  rcases hc3 with rfl | rfl | rfl
  · rw [show 3 * p + 0 = 3 * p by omega, e0, show 6 * 0 + p = p by omega]
  · rw [e1]
  · rw [e2]
theorem XV.wo {g : GH} {A : Nat → Nat} {S : pq_S} {st : Nat → Int32} (h : XV g A S st) {n p c : Nat} (hp : p < gW g) (hc : c < 2) : m_X9_at n (A 16) (nI p) (nI c) S = some (st (18 + 12 * c + p), S) := by
  have := h.2.1.1.2.1
  obtain ⟨e0, e1⟩ := h.2.2.2.2.2.2.1 p hp
  have hc3 : c = 0 ∨ c = 1 := by omega
  rw [sp_atn rfl h.1.r16_900 (w := 2) h.1.w16 (by rw [h.1.n17]; decide) (by rw [h.1.n17]; omega), show p * 2 + c = 2 * p + c by omega]
  rcases hc3 with rfl | rfl
  · rw [show 2 * p + 0 = 2 * p by omega, e0]
  · rw [e1]
theorem XV.so {g : GH} {A : Nat → Nat} {S : pq_S} {st : Nat → Int32} (h : XV g A S st) {n p c : Nat} (hp : p < gM g) (hc : c < 2) : m_X9_at n (A 18) (nI p) (nI c) S = some (st (42 + 3 * c + p), S) := by
  have := h.2.1.1.2.2.1
  obtain ⟨e0, e1⟩ := h.2.2.2.2.2.2.2 p hp
  have hc3 : c = 0 ∨ c = 1 := by omega
  rw [sp_atn rfl h.1.r18_900 (w := 2) h.1.w18 (by rw [h.1.n19]; decide) (by rw [h.1.n19]; omega), show p * 2 + c = 2 * p + c by omega]
  rcases hc3 with rfl | rfl
  · rw [show 2 * p + 0 = 2 * p by omega, e0]
  · rw [e1]
/-- lengths, as a bundle -/
theorem XV.I {g : GH} {A : Nat → Nat} {S : pq_S} {st : Nat → Int32} (h : XV g A S st) : pI S 902 (A 5) = nI (gP g) ∧ pI S 902 (A 7) = nI (gW g) ∧ pI S 902 (A 9) = nI (gM g) ∧ pI S 902 (A 11) = nI (gK g) ∧ pI S 104 (A 4) = nI (gLk g) ∧ pI S 105 (A 4) = nI (gSh g) ∧ pI S 902 (A 14) = nI (gP g) ∧ pI S 902 (A 16) = nI (gW g) ∧ pI S 902 (A 18) = nI (gM g) ∧ pI S 803 (A 13) = st 48 ∧ pI S 804 (A 13) = st 49 := ⟨h.2.2.2.1.1.1, h.2.2.2.1.1.2.1, h.2.2.2.1.1.2.2.1, h.2.2.2.1.1.2.2.2.1, h.2.2.2.1.1.2.2.2.2.1, h.2.2.2.1.1.2.2.2.2.2, h.2.2.2.2.1.1, h.2.2.2.2.1.2.1, h.2.2.2.2.1.2.2.1, h.2.2.2.2.1.2.2.2.1, h.2.2.2.2.1.2.2.2.2⟩
theorem RV.I {g : GH} {A : Nat → Nat} {S : pq_S} {st : Nat → Int32} (h : RV g A S st) : pI S 1224 (A 60) = nI (gP g) ∧ pI S 1225 (A 60) = nI (gW g) ∧ pI S 1226 (A 60) = nI (gM g) ∧ pI S 1227 (A 60) = nI (gK g) ∧ pI S 1228 (A 60) = nI (gLk g) ∧ pI S 1229 (A 60) = nI (gSh g) := h.2.2.2.1.1
theorem RV.A {g : GH} {A : Nat → Nat} {S : pq_S} {st : Nat → Int32} (h : RV g A S st) : (∀ i, i < 4 * gP g → pA S (A 67) i = nI (gpl g i)) ∧ (∀ i, i < 4 * gW g → pA S (A 68) i = nI (gwa g i)) ∧ (∀ i, i < 3 * gM g → pA S (A 69) i = nI (gmi g i)) ∧ (∀ i, i < 2 * gK g → pA S (A 70) i = nI (gmo g i)) ∧ ∀ i, i < 50 → pA S (A 81) i = st i := ⟨h.2.2.2.1.2.1, h.2.2.2.1.2.2.1, h.2.2.2.1.2.2.2.1, h.2.2.2.1.2.2.2.2, h.2.2.2.2⟩
theorem GB.b {g : GH} (h : GB g) : gP g ≤ 6 ∧ gW g ≤ 12 ∧ gM g ≤ 3 ∧ gK g ≤ 3 ∧ gLk g ≤ 8 ∧ gSh g ≤ 99 := h.1
theorem GB.w0 {g : GH} (h : GB g) {i : Nat} (hi : i < gW g) : gwa g (4 * i) < gP g := (h.2.2.1 i hi).1
theorem GB.w1 {g : GH} (h : GB g) {i : Nat} (hi : i < gW g) : gwa g (4 * i + 1) ≤ 12 := (h.2.2.1 i hi).2.2.1
theorem GB.w1' {g : GH} (h : GB g) {i : Nat} (hi : i < gW g) : 1 ≤ gwa g (4 * i + 1) := (h.2.2.1 i hi).2.1
theorem GB.w2 {g : GH} (h : GB g) {i : Nat} (hi : i < gW g) : gwa g (4 * i + 2) ≤ 1 := (h.2.2.1 i hi).2.2.2.1
theorem GB.w3 {g : GH} (h : GB g) {i : Nat} (hi : i < gW g) : gwa g (4 * i + 3) ≤ 99 := (h.2.2.1 i hi).2.2.2.2
theorem GB.m0 {g : GH} (h : GB g) {i : Nat} (hi : i < gM g) : gmi g (3 * i) < gP g := (h.2.2.2.1 i hi).1
theorem GB.p {g : GH} (h : GB g) {i : Nat} (hi : i < 4 * gP g) : gpl g i ≤ 99 := h.2.1 i hi
section
variable {g : GH} {A : Nat → Nat} {S : pq_S} {st : Nat → Int32} {n : Nat}
/-- is a want open at a place -/
def opF (g : GH) (st : Nat → Int32) (i p : Nat) : Prop := st (18 + i) = 1 ∧ gwa g (4 * i) = p
theorem xv_isOpenAt (h : XV g A S st) {i p : Nat} (hi : i < gW g) (hp : p < 2 ^ 31) : m_X7_isOpenAt n (A 3) (nI i) (nI p) S = some (@ite _ (opF g st i p) (Classical.propDecidable _) 1 0, S) := by
  have hb := h.2.1.b
  have w0 := h.2.1.w0 hi
  unfold opF
  simp (disch := omega) only [m_X7_isOpenAt, ob_mk, cb_mk, lt_mk, ck_if, pR_sI, pN_sI, pA_sI, pQ_sI, pR_sA, pN_sA, pI_sA, pQ_sA, pR_sF, pN_sF, pI_sF, pQ_sF, ite_true, ite_false, if_true, if_false, not_true_eq_false, not_false_eq_true, LIT, ofN, nI_add, pk_mul, ixn, nI_clamp, nI_ltI, nI_leI, nI_eq, Nat.add_zero, Nat.zero_add, Nat.mul_zero, Nat.mul_one, Nat.reduceMul, h.1.R, h.wo, h.wa]
  by_cases c1 : st (18 + i) = nI 1 <;> by_cases c2 : gwa g (4 * i) = p <;> simp [c1, c2]
theorem xv_hoursAt (h : XV g A S st) {p : Nat} (hp : p < gP g) : m_X7_hoursAt n (A 3) (nI p) S = some (st p + st (6 + p), S) := by
  have hb := h.2.1.b
  simp (disch := omega) only [m_X7_hoursAt, ob_mk, cb_mk, lt_mk, ck_if, pR_sI, pN_sI, pA_sI, pQ_sI, pR_sA, pN_sA, pI_sA, pQ_sA, pR_sF, pN_sF, pI_sF, pQ_sF, ite_true, ite_false, if_true, if_false, not_true_eq_false, not_false_eq_true, LIT, ofN, nI_add, pk_mul, ixn, nI_clamp, nI_ltI, nI_leI, nI_eq, Nat.add_zero, Nat.zero_add, Nat.mul_zero, Nat.mul_one, Nat.reduceMul, h.1.R, h.ho]
theorem xv_isMineOpen (h : XV g A S st) {i : Nat} {mo : Int32} (hi : i < gM g) : m_X7_isMineOpen n (A 3) (nI i) mo S = some (if mo - mo / 12 * 12 < nI (gmi g (3 * i + 2)) then 0 else 1, S) := by
  have hb := h.2.1.b
  simp (disch := omega) only [m_X7_isMineOpen, ob_mk, cb_mk, lt_mk, ck_if, pR_sI, pN_sI, pA_sI, pQ_sI, pR_sA, pN_sA, pI_sA, pQ_sA, pR_sF, pN_sF, pI_sF, pQ_sF, ite_true, ite_false, if_true, if_false, not_true_eq_false, not_false_eq_true, LIT, ofN, nI_add, pk_mul, ixn, nI_clamp, nI_ltI, nI_leI, nI_eq, Nat.add_zero, Nat.zero_add, Nat.mul_zero, Nat.mul_one, Nat.reduceMul, h.1.R, h.mi]
  split <;> rfl
theorem rv_isOpenMine (h : RV g A S st) {i : Nat} (hi : i < gM g) : m_X12_isOpenMine n (A 60) (nI i) S = some (if st 48 - st 48 / 12 * 12 < nI (gmi g (3 * i + 2)) then 0 else 1, S) := by
  have hb := h.2.1.b
  simp (disch := omega) only [m_X12_isOpenMine, ob_mk, cb_mk, lt_mk, ck_if, pR_sI, pN_sI, pA_sI, pQ_sI, pR_sA, pN_sA, pI_sA, pQ_sA, pR_sF, pN_sF, pI_sF, pQ_sF, ite_true, ite_false, if_true, if_false, not_true_eq_false, not_false_eq_true, LIT, ofN, nI_add, pk_mul, ixn, nI_clamp, nI_ltI, nI_leI, nI_eq, Nat.add_zero, Nat.zero_add, Nat.mul_zero, Nat.mul_one, Nat.reduceMul, h.1.R, h.1.N, h.A]
  split <;> rfl
end
