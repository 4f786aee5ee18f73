/-- one table was copied -/
def TBC (a0 a1 c0 c1 N : Nat) (S T : pq_S) : Prop := pL T = pL S ∧ pK T = pK S ∧ pR T = pR S ∧ pN T = pN S ∧ pQ T = pQ S ∧ pI T 902 a0 = pI S 902 a1 ∧ (∀ f a, ¬ (f = 902 ∧ a = a0) → pI T f a = pI S f a) ∧ (∀ i, i < N → pA T c0 i = pA S c1 i) ∧ ∀ a i, a ≠ c0 → pA T a i = pA S a i
theorem cp_tb (n : Nat) {a0 a1 c0 c1 N : Nat} {S : pq_S} (h0 : pR S 900 a0 = some c0) (h1 : pR S 900 a1 = some c1) (n0 : pN S c0 = N) (n1 : pN S c1 = N) (hN : N < 2 ^ 31) : ∃ T, m_X9_copyFrom n a0 a1 S = some T ∧ TBC a0 a1 c0 c1 N S T := by
  have hc : cpk 0 0 (nI N) N N := ⟨by decide, by decide, fun q => absurd (nI_pos' hN) (Int32.not_le.mpr q), by rw [nI_clamp hN]; exact Nat.le_of_eq (Nat.zero_add N), by rw [nI_clamp hN]; exact Nat.le_of_eq (Nat.zero_add N)⟩
  refine ⟨sF (sI S 902 a0 (pI S 902 a1)) c0 (va_cpy (pA S c1) (pA S c0) 0 0 N), ?_, rfl, rfl, rfl, rfl, rfl, ?_, fun f a q => ?_, fun i hi => ?_, fun a i q => ?_⟩
  · unfold m_X9_copyFrom
    rw [pR_sI, h1, ob_mk, h0, ob_mk, ob_mk, ob_mk, pN_sI, n0, n1, pA_sI, ite_self, ck_pos (show cpk 0 0 (Int32.ofNat N) N N from hc), lt_mk, show (Int32.ofNat N).toNatClampNeg = N from nI_clamp hN]
    rfl
  · rw [pI_sF, pI_e]
  · rw [pI_sF, pI_sI, if_neg q]
  · rw [pA_sF, if_pos rfl, sb_cpy0 hi]
  · rw [pA_sF, if_neg q, pA_sI]
/-- a State was copied: only its parts changed; what they hold now -/
def CPT (A : Nat → Nat) (c : Nat) (S T : pq_S) : Prop := pL T = pL S ∧ pK T = pK S ∧ pR T = pR S ∧ pN T = pN S ∧ pQ T = pQ S ∧ (∀ f a, ¬ (f = 902 ∧ (a = A (c + 1) ∨ a = A (c + 3) ∨ a = A (c + 5))) → ¬ ((f = 803 ∨ f = 804) ∧ a = A c) → pI T f a = pI S f a) ∧ ∀ a i, a ≠ A (c + 2) → a ≠ A (c + 4) → a ≠ A (c + 6) → pA T a i = pA S a i
def CPC (A : Nat → Nat) (c d : Nat) (S T : pq_S) : Prop := (pI T 902 (A (c + 1)) = pI S 902 (A (d + 1)) ∧ pI T 902 (A (c + 3)) = pI S 902 (A (d + 3)) ∧ pI T 902 (A (c + 5)) = pI S 902 (A (d + 5)) ∧ pI T 803 (A c) = pI S 803 (A d) ∧ pI T 804 (A c) = pI S 804 (A d)) ∧ (∀ i, i < 18 → pA T (A (c + 2)) i = pA S (A (d + 2)) i) ∧ (∀ i, i < 24 → pA T (A (c + 4)) i = pA S (A (d + 4)) i) ∧ ∀ i, i < 6 → pA T (A (c + 6)) i = pA S (A (d + 6)) i
theorem cp_st (n : Nat) {A : Nat → Nat} {V : Nat → Prop} {S : pq_S} {c d : Nat} (hI : ∀ c d, V c → V d → A c = A d → c = d) (hc : SLAY A V S c) (hd : SLAY A V S d) (hcd : c + 6 < d ∨ d + 6 < c) : ∃ T, m_X8_copyFrom n (A c) (A d) S = some T ∧ CPT A c S T ∧ CPC A c d S T := by
  have nc : ∀ q r, q < 7 → r < 7 → q ≠ r → A (c + q) ≠ A (c + r) := fun q r h1 h2 h3 e => h3 (by have := hI _ _ (hc.1 q h1) (hc.1 r h2) e; omega)
  have nd : ∀ q r, q < 7 → r < 7 → A (d + q) ≠ A (c + r) := fun q r h1 h2 e => by have := hI _ _ (hd.1 q h1) (hc.1 r h2) e; omega
  obtain ⟨_, _, _, _, ⟨c8, c9, c10⟩, ⟨c11, c12, c13⟩, c14, c15, c16⟩ := hc
  obtain ⟨_, _, _, _, ⟨d8, d9, d10⟩, ⟨d11, d12, d13⟩, d14, d15, d16⟩ := hd
  obtain ⟨S1, p0, p1, p2, p3, p4, p5, p6, p7, p8, p9⟩ := cp_tb n (S := S) c11 d11 c14 d14 (by decide)
  obtain ⟨S2, q0, q1, q2, q3, q4, q5, q6, q7, q8, q9⟩ := cp_tb n (N := 24) (S := S1) (by rw [p3]; exact c12) (by rw [p3]; exact d12) (by rw [p4]; exact c15) (by rw [p4]; exact d15) (by decide)
  obtain ⟨S3, r0, r1, r2, r3, r4, r5, r6, r7, r8, r9⟩ := cp_tb n (N := 6) (S := S2) (by rw [q3, p3]; exact c13) (by rw [q3, p3]; exact d13) (by rw [q4, p4]; exact c16) (by rw [q4, p4]; exact d16) (by decide)
  have n2 := fun r (h : r < 7) => nd 0 r (by decide) h
  refine ⟨sI (sI S3 803 (A c) (pI S3 803 (A d))) 804 (A c) (pI (sI S3 803 (A c) (pI S3 803 (A d))) 804 (A d)), ?_, ⟨?_, ?_, ?_, ?_, ?_, fun f a h1 h2 => ?_, fun a i h1 h2 h3 => ?_⟩, ⟨?_, ?_, ?_, ?_, ?_⟩, fun i hi => ?_, fun i hi => ?_, fun i hi => ?_⟩
  · unfold m_X8_copyFrom
    rw [c8, ob_mk, d8, ob_mk, p0, ob_mk, p3, c9, ob_mk, d9, ob_mk, q0, ob_mk, q3, p3, c10, ob_mk, d10, ob_mk, r0, ob_mk, lt_mk]
  · show pL S3 = pL S
    rw [r1, q1, p1]
  · show pK S3 = pK S
    rw [r2, q2, p2]
  · show pR S3 = pR S
    rw [r3, q3, p3]
  · show pN S3 = pN S
    rw [r4, q4, p4]
  · show pQ S3 = pQ S
    rw [r5, q5, p5]
  · rw [pI_sI, if_neg (fun z => h2 ⟨Or.inr z.1, z.2⟩), pI_sI, if_neg (fun z => h2 ⟨Or.inl z.1, z.2⟩), r7 f a (fun z => h1 ⟨z.1, Or.inr (Or.inr z.2)⟩), q7 f a (fun z => h1 ⟨z.1, Or.inr (Or.inl z.2)⟩), p7 f a (fun z => h1 ⟨z.1, Or.inl z.2⟩)]
  · show pA S3 a i = _
    rw [r9 a i h3, q9 a i h2, p9 a i h1]
  · rw [pI_n (by decide), pI_n (by decide), r7 _ _ (fun z => nc 1 5 (by decide) (by decide) (by decide) z.2), q7 _ _ (fun z => nc 1 3 (by decide) (by decide) (by decide) z.2), p6]
  · rw [pI_n (by decide), pI_n (by decide), r7 _ _ (fun z => nc 3 5 (by decide) (by decide) (by decide) z.2), q6, p7 _ _ (fun z => nd 3 1 (by decide) (by decide) z.2)]
  · rw [pI_n (by decide), pI_n (by decide), r6, q7 _ _ (fun z => nd 5 3 (by decide) (by decide) z.2), p7 _ _ (fun z => nd 5 1 (by decide) (by decide) z.2)]
  · rw [pI_n (by decide), pI_e, r7 _ _ (fun z => absurd z.1 (by decide)), q7 _ _ (fun z => absurd z.1 (by decide)), p7 _ _ (fun z => absurd z.1 (by decide))]
  · rw [pI_e, pI_n (by decide), r7 _ _ (fun z => absurd z.1 (by decide)), q7 _ _ (fun z => absurd z.1 (by decide)), p7 _ _ (fun z => absurd z.1 (by decide))]
  · show pA S3 _ i = _
    rw [r9 _ _ (nc 2 6 (by decide) (by decide) (by decide)), q9 _ _ (nc 2 4 (by decide) (by decide) (by decide)), p8 i hi]
  · show pA S3 _ i = _
    rw [r9 _ _ (nc 4 6 (by decide) (by decide) (by decide)), q8 i hi, p9 _ _ (nd 4 2 (by decide) (by decide))]
  · show pA S3 _ i = _
    rw [r8 i hi, q9 _ _ (nd 6 4 (by decide) (by decide)), p9 _ _ (nd 6 2 (by decide) (by decide))]
/-- the State with its parts at codes c to c + 6 holds st -/
abbrev STC (g : GH) (A : Nat → Nat) (S : pq_S) (c : Nat) (st : Nat → Int32) : Prop := STX g S (A c) (A (c + 1)) (A (c + 3)) (A (c + 5)) (A (c + 2)) (A (c + 4)) (A (c + 6)) st
theorem CPC.st {g : GH} {A : Nat → Nat} {S T : pq_S} {c d : Nat} {st : Nat → Int32} (hg : GB g) (h : CPC A c d S T) (k : STC g A S d st) : STC g A T c st := by
  obtain ⟨⟨h1, h2, h3, h4, h5⟩, h6, h7, h8⟩ := h
  obtain ⟨⟨k1, k2, k3, k4, k5⟩, k6, k7, k8⟩ := k
  have b0 := hg.1.1
  have b1 := hg.1.2.1
  have b2 := hg.1.2.2.1
  exact ⟨⟨h1.trans k1, h2.trans k2, h3.trans k3, h4.trans k4, h5.trans k5⟩, fun p hp => ⟨(h6 _ (by omega)).trans (k6 p hp).1, (h6 _ (by omega)).trans (k6 p hp).2.1, (h6 _ (by omega)).trans (k6 p hp).2.2⟩, fun p hp => ⟨(h7 _ (by omega)).trans (k7 p hp).1, (h7 _ (by omega)).trans (k7 p hp).2⟩, fun p hp => ⟨(h8 _ (by omega)).trans (k8 p hp).1, (h8 _ (by omega)).trans (k8 p hp).2⟩⟩
theorem KPL.cpt {F : List Nat} {P : List (Nat × Nat)} {AA : List Nat} {A : Nat → Nat} {c : Nat} {S0 S T : pq_S} (h : KPL F P AA A S0 S) (k : CPT A c S T) (hP : ∀ e ∈ [(902, c + 1), (902, c + 3), (902, c + 5), (803, c), (804, c)], e ∈ P) (hA : ∀ e ∈ [c + 2, c + 4, c + 6], e ∈ AA) : KPL F P AA A S0 T := by
  obtain ⟨k1, k2, k3, k4, k5, k6, k7⟩ := k
  refine ⟨fun a q x => ?_, fun f a q1 q2 => ?_, fun a q => ?_, fun a i q => ?_, fun f a q1 q2 q3 => ?_, fun a i q1 q2 q3 => ?_, ?_⟩
  · have := h.1 a q x
    exact ⟨k1 ▸ this.1, k2 ▸ this.2⟩
  · rw [k3]; exact h.2.1 f a q1 q2
  · rw [k4]; exact h.2.2.1 a q
  · rw [k5]; exact h.2.2.2.1 a i q
  · rw [k6 f a (fun z => ?_) (fun z => ?_)]
    · exact h.2.2.2.2.1 f a q1 q2 q3
    · rcases z.2 with e | e | e
      · exact q2 _ (hP (902, c + 1) (by simp)) z.1 e
      · exact q2 _ (hP (902, c + 3) (by simp)) z.1 e
      · exact q2 _ (hP (902, c + 5) (by simp)) z.1 e
    · rcases z.1 with e | e
      · exact q2 _ (hP (803, c) (by simp)) e z.2
      · exact q2 _ (hP (804, c) (by simp)) e z.2
  · rw [k7 a i (q2 _ (hA (c + 2) (by simp))) (q2 _ (hA (c + 4) (by simp))) (q2 _ (hA (c + 6) (by simp)))]
    exact h.2.2.2.2.2.1 a i q1 q2 q3
  · rw [k3, k4]
    rcases h.2.2.2.2.2.2 with e | ⟨e0, r, e1, e2, e3, e4⟩
    · exact Or.inl e
    · exact Or.inr ⟨e0, r, e1, e2, ⟨by rw [k1]; exact e3.1, by rw [k2]; exact e3.2⟩, e4⟩
theorem sl13 {A : Nat → Nat} {V : Nat → Prop} {S : pq_S} (h : LAY A S) (hV : ∀ c, c < 92 → V c) : SLAY A V S 13 := ⟨fun q hq => hV _ (by omega), h.k13, ⟨h.k14, h.k16, h.k18⟩, ⟨h.k15, h.k17, h.k19⟩, ⟨h.r13_800, h.r13_801, h.r13_802⟩, ⟨h.r14_900, h.r16_900, h.r18_900⟩, h.n15, h.n17, h.n19⟩
/-! the parts of HIST -/
def HS (A : Nat → Nat) (V : Nat → Prop) (S : pq_S) : Prop := (∀ c d, V c → V d → A c = A d → c = d) ∧ (∀ c, V c → A c ∈ pL S) ∧ (∀ c, c < 92 → V c) ∧ (∀ c, V c → c < 92 ∨ 100 ≤ c) ∧ (∀ r, pR S 404 (A 32) = some r → TY S r 14 ∧ pN S r = 4096 ∧ ∀ c, V c → r ≠ A c) ∧ PLAY A V S 0 ∧ (∀ h, h < 3 → (V (cP (h + 1)) ∧ pQ S (A 58) h = some (A (cP (h + 1))) ∧ PLAY A V S (h + 1)) ∨ (¬ V (cP (h + 1)) ∧ pQ S (A 58) h = none ∧ ∀ c, V c → c ≠ cQ (h + 1) ∧ ∀ i q, q < 10 → i < 20 → c ≠ cS (h + 1) i + q))
def SCO (g : GH) (A : Nat → Nat) (V : Nat → Prop) (S : pq_S) (h i : Nat) (st : Nat → Int32) : Prop := V (cS h i) ∧ SB g st ∧ STC g A S (cS h i) st
def HB (g : GH) (A : Nat → Nat) (V : Nat → Prop) (S : pq_S) (wk im : Nat) (ps : Nat → Nat → Int32) (iw : Nat → Nat) (is : Nat → Nat → Nat → Int32) : Prop := wk ≤ 16 ∧ im ≤ 3 ∧ pI S 1241 (A 60) = nI wk ∧ pI S 1112 (A 0) = nI im ∧ pI S 1272 (A 60) = nI im ∧ PST g A V S 0 wk ps ∧ (∀ i j, i < wk → j < 50 → pA S (A 82) (50 * i + j) = ps i j) ∧ ∀ h, h < im → V (cP (h + 1)) ∧ iw h ≤ 16 ∧ PST g A V S (h + 1) (iw h + 1) (is h) ∧ pA S (A 91) (851 * h + 850) = nI (iw h) ∧ (∀ j, j < 50 → pA S (A 91) (851 * h + j) = is h (iw h) j) ∧ ∀ i j, i < iw h → j < 50 → pA S (A 91) (851 * h + 50 + 50 * i + j) = is h i j
theorem HIST.hs {g : GH} {A : Nat → Nat} {V : Nat → Prop} {S : pq_S} (h : HIST g A V S) : HS A V S := ⟨h.1, h.2.1, h.2.2.1, h.2.2.2.1, h.2.2.2.2.1, h.2.2.2.2.2.1, h.2.2.2.2.2.2.1⟩
theorem HS.mk {g : GH} {A : Nat → Nat} {V : Nat → Prop} {S : pq_S} (h : HS A V S) {wk im : Nat} {ps : Nat → Nat → Int32} {iw : Nat → Nat} {is : Nat → Nat → Nat → Int32} (b : HB g A V S wk im ps iw is) : HIST g A V S := ⟨h.1, h.2.1, h.2.2.1, h.2.2.2.1, h.2.2.2.2.1, h.2.2.2.2.2.1, h.2.2.2.2.2.2, wk, im, ps, iw, is, b⟩
theorem HS.kq {F : List Nat} {P : List (Nat × Nat)} {AA : List Nat} {A : Nat → Nat} {V : Nat → Prop} {S T : pq_S} (h : HS A V S) (kp : KPL F P AA A S T) (k : KVL F P AA A V S T) : HS A V T := by
  obtain ⟨h1, h2, h3, h4, h5, h6, h7⟩ := h
  refine ⟨h1, fun c hc => kp.mem (h2 c hc), h3, h4, fun r hr => ?_, h6.kv k, fun h hh => ?_⟩
  · rcases kp.2.2.2.2.2.2 with e | ⟨e0, r2, e1, e2, e3, e4⟩
    · have := h5 r (e ▸ hr)
      exact ⟨kp.1 _ _ this.1, (kp.2.2.1 r this.1.1).trans this.2.1, this.2.2⟩
    · rw [e1] at hr
      cases hr
      exact ⟨e3, e4, fun c hc q => e2 (q ▸ h2 c hc)⟩
  · rcases h7 h hh with ⟨q1, q2, q3⟩ | ⟨q1, q2, q3⟩
    · exact Or.inl ⟨q1, (k.2.2.2.2.1 _ _ (h3 58 (by decide))).trans q2, q3.kv k⟩
    · exact Or.inr ⟨q1, (k.2.2.2.2.1 _ _ (h3 58 (by decide))).trans q2, q3⟩
theorem PLAY.sl {A : Nat → Nat} {V : Nat → Prop} {S : pq_S} {h i : Nat} (hh : PLAY A V S h) (hi : i < 17) (hV : V (cS h i)) : pQ S (A (cQ h)) i = some (A (cS h i)) ∧ SLAY A V S (cS h i) := by
  rcases hh.2.2.2.2.2.2 i hi with ⟨_, q2, q3⟩ | ⟨q1, _⟩
  · exact ⟨q2, q3⟩
  · exact absurd hV (q1 0 (by decide))
theorem SCO.kv {F : List Nat} {P : List (Nat × Nat)} {AA : List Nat} {g : GH} {A : Nat → Nat} {V : Nat → Prop} {S T : pq_S} {h i : Nat} {st : Nat → Int32} (hh : SCO g A V S h i st) (hl : SLAY A V S (cS h i)) (k : KVL F P AA A V S T) (hF : ∀ f ∈ [803, 804, 902], f ∉ F) (hP : ∀ f q, q < 7 → (f, cS h i + q) ∉ P) (hA : ∀ q, q < 7 → cS h i + q ∉ AA) : SCO g A V T h i st := by
  obtain ⟨h1, h2, h3⟩ := hh
  have kI : ∀ f q, q < 7 → f ∉ F → pI T f (A (cS h i + q)) = pI S f (A (cS h i + q)) := fun f q hq hf => k.1 f _ (hl.1 q hq) hf (hP f q hq)
  have kA : ∀ q j, q < 7 → pA T (A (cS h i + q)) j = pA S (A (cS h i + q)) j := fun q j hq => k.2.1 _ j (hl.1 q hq) (hA q hq)
  exact ⟨h1, h2, h3.cg (kI 902 1 (by decide) (hF 902 (by decide))) (kI 902 3 (by decide) (hF 902 (by decide))) (kI 902 5 (by decide) (hF 902 (by decide))) (kI 803 0 (by decide) (hF 803 (by decide))) (kI 804 0 (by decide) (hF 804 (by decide))) (fun j => kA 2 j (by decide)) (fun j => kA 4 j (by decide)) (fun j => kA 6 j (by decide))⟩
theorem cP_big (h : Nat) : 100 ≤ cP (h + 1) := by unfold cP; rw [if_neg (by omega)]; omega
/-- the past may be shorter, all else stays -/
theorem HB.kq {F : List Nat} {P : List (Nat × Nat)} {AA : List Nat} {g : GH} {A : Nat → Nat} {V : Nat → Prop} {S T : pq_S} {wk wk2 im : Nat} {ps : Nat → Nat → Int32} {iw : Nat → Nat} {is : Nat → Nat → Nat → Int32} (b : HB g A V S wk im ps iw is) (h : HS A V S) (k : KVL F P AA A V S T) (hF : ∀ f ∈ [501, 803, 804, 902, 1112, 1272], f ∉ F) (hP : ∀ e ∈ P, e.2 < 92 ∧ e.1 ≠ 1112 ∧ e.1 ≠ 1272) (hA : ∀ j ∈ AA, j < 92 ∧ j ≠ 82 ∧ j ≠ 91) (hw : wk2 ≤ wk) (h5 : pI T 501 (A 56) = nI wk2) (h6 : pI T 1241 (A 60) = nI wk2) : HB g A V T wk2 im ps iw is := by
  obtain ⟨b1, b2, b3, b4, b5, b6, b7, b8⟩ := b
  have hV := h.2.2.1
  have hF2 : ∀ f ∈ [803, 804, 902], f ∉ F := fun f hf => hF f (by simp at hf ⊢; omega)
  have hP2 : ∀ h i f q, q < 7 → (f, cS h i + q) ∉ P := fun h i f q _ z => by have := (hP _ z).1; have := cS_big h i; omega
  have hA2 : ∀ h i q, q < 7 → cS h i + q ∉ AA := fun h i q _ z => by have := (hA _ z).1; have := cS_big h i; omega
  refine ⟨by omega, b2, h6, (k.1 _ _ (hV 0 (by decide)) (hF 1112 (by decide)) (fun z => (hP _ z).2.1 rfl)).trans b4, (k.1 _ _ (hV 60 (by decide)) (hF 1272 (by decide)) (fun z => (hP _ z).2.2 rfl)).trans b5, ⟨h5, by omega, fun i hi => ?_⟩, fun i j hi hj => (k.2.1 82 _ (hV 82 (by decide)) (fun z => (hA _ z).2.1 rfl)).trans (b7 i j (by omega) hj), fun x hx => ?_⟩
  · have hs : SCO g A V S 0 i (ps i) := b6.2.2 i (by omega)
    exact hs.kv (h.2.2.2.2.2.1.sl (by omega) hs.1).2 k hF2 (hP2 _ _) (hA2 _ _)
  · obtain ⟨c1, c2, c3, c4, c5, c6⟩ := b8 x hx
    have hPl : PLAY A V S (x + 1) := by
      rcases h.2.2.2.2.2.2 x (by omega) with ⟨_, _, q3⟩ | ⟨q1, _⟩
      · exact q3
      · exact absurd c1 q1
    have k91 : ∀ i, pA T (A 91) i = pA S (A 91) i := fun i => k.2.1 91 i (hV 91 (by decide)) (fun z => (hA _ z).2.2 rfl)
    refine ⟨c1, c2, ⟨(k.1 _ _ hPl.1 (hF 501 (by decide)) (fun z => by have := (hP _ z).1; have := cP_big x; omega)).trans c3.1, c3.2.1, fun i hi => ?_⟩, (k91 _).trans c4, fun j hj => (k91 _).trans (c5 j hj), fun i j hi hj => (k91 _).trans (c6 i j hi hj)⟩
    have hs : SCO g A V S (x + 1) i (is x i) := c3.2.2 i hi
    exact hs.kv (hPl.sl (by have := c3.2.1; omega) hs.1).2 k hF2 (hP2 _ _) (hA2 _ _)
theorem r_undo {n a c d w : Nat} (hw : w < 16) (hac : c ≠ d) : ∀ (m k f : Nat) (S : pq_S), k + m = 50 → m < f → pR S 1246 a = some c → pR S 1248 a = some d → pN S c = 50 → pN S d = 800 → pI S 1241 a = nI w → ∃ T, b_X12_undo_26 n f a (nI k) S = some (nI w, T) ∧ WT 1242 c S T ∧ pI T 1242 a = 0 ∧ (∀ i, i < k → pA T c i = pA S c i) ∧ ∀ i, k ≤ i → i < 50 → pA T c i = pA S d (50 * w + i) := by
  intro m
  induction m with
  | zero =>
    intro k f S h1 h2 hr hd hN hM hp
    obtain ⟨f, rfl⟩ : ∃ g, f = g + 1 := ⟨f - 1, by omega⟩
    have : k = 50 := by omega
    subst this
    refine ⟨sI S 1242 a 0, ?_, ⟨fun _ _ h => h, rfl, rfl, rfl, fun f b q => by rw [pI_sI, if_neg (fun z => q z.1)], fun _ _ _ => rfl⟩, pI_e .., fun _ _ => rfl, fun i h3 h4 => by omega⟩
    rw [b_X12_undo_26, if_pos (by decide), b_X12_undo_58, pI_n (by decide), hp]
  | succ m ih =>
    intro k f S h1 h2 hr hd hN hM hp
    obtain ⟨f, rfl⟩ : ∃ g, f = g + 1 := ⟨f - 1, by omega⟩
    obtain ⟨T, t1, t2, t3, t4, t5⟩ := ih (k + 1) f (sA S c k (pA S d (50 * w + k))) (by omega) (by omega) hr hd hN hM hp
    have w1 : WT 1242 c S (sA S c k (pA S d (50 * w + k))) := ⟨fun _ _ h => h, rfl, rfl, rfl, fun _ _ _ => rfl, fun b j q => by rw [pA_sA, if_neg (fun z => q z.1)]⟩
    refine ⟨T, ?_, w1.tr t2, t3, fun i hi => ?_, fun i h3 h4 => ?_⟩
    · rw [← t1, b_X12_undo_26]
      simp (disch := omega) only [hr, hd, hN, hM, hp, ob_mk, cb_mk, lt_mk, ck_if, pR_sI, pN_sI, pA_sI, pQ_sI, pR_sA, pN_sA, pI_sA, pQ_sA, pR_sF, pN_sF, pI_sF, pQ_sF, ite_true, ite_false, if_true, if_false, not_true_eq_false, not_false_eq_true, LIT, ofN, nI_add, pk_mul, ixn, nI_clamp, nI_ltI, nI_leI, nI_eq, Nat.add_zero, Nat.zero_add, Nat.mul_zero, Nat.mul_one, Nat.reduceMul]
      rw [if_neg (by omega)]
    · rw [t4 i (by omega), pA_sA, if_neg (by omega)]
    · by_cases e : i = k
      · subst e
        rw [t4 i (by omega), pA_sA, if_pos ⟨rfl, rfl⟩]
      · rw [t5 i (by omega) h4, pA_sA, if_neg (fun z => hac z.1.symm)]
/-- the same, with another state -/
def gS (g : GH) (st : Nat → Int32) : GH := (g.1, g.2.1, st)
def undF : List Nat := scrF ++ [1114, 1242, 1241]
def undP : List (Nat × Nat) := scrP ++ [(501, 56), (902, 14), (902, 16), (902, 18), (803, 13), (804, 13)]
def undA : List Nat := scrA ++ [15, 17, 19, 80]
theorem JG.und {A : Nat → Nat} {V : Nat → Prop} {g : GH} {S T : pq_S} (h : JG A V g S) (k : KPL undF undP undA A S T) {st : Nat → Int32} (hs : SB g st) (h13 : STC g A T 13 st) (h80 : ∀ i, i < 50 → pA T (A 80) i = st i) (ht : pI T 1114 (A 0) = pI T 1242 (A 60)) {wk wk2 im : Nat} {ps : Nat → Nat → Int32} {iw : Nat → Nat} {is : Nat → Nat → Nat → Int32} (b : HB g A V S wk im ps iw is) (hw : wk2 ≤ wk) (h5 : pI T 501 (A 56) = nI wk2) (h6 : pI T 1241 (A 60) = nI wk2) : JG A V (gS g st) T := by
  have hv := h.hi.kv (by decide) (by decide) k
  have h3 := h.hi.2.2.1
  have hl : LAY A T := h.lay.kv hv h3 (by decide) (by decide)
  refine ⟨⟨hl, h.gb, hs, h.cx.cg (hv.eqF h3 (by decide)) (hv.eqA h3 (by decide)), h.cm.cg (hv.eqF h3 (by decide)) (hv.eqA h3 (by decide)), h13, h80⟩, h.2.1.cg (hv.eqF h3 (by decide)) (hv.eqA h3 (by decide)), h.2.2.1.cg (hv.eqF h3 (by decide)) (hv.eqA h3 (by decide)), ?_, (h.hi.hs.kq k hv).mk (b.kq h.hi.hs hv (by decide) (by decide) (by decide) hw h5 h6)⟩
  obtain ⟨g1, g2, g3, g4, tp, p1, p2, p3, p4⟩ := h.tp
  have kF : ∀ f c, c < 92 → f ∉ undF → (f, c) ∉ undP → pI T f (A c) = pI S f (A c) := fun f c q1 q2 q3 => hv.1 f c (h3 c q1) q2 q3
  have kA : ∀ c i, c < 92 → c ∉ undA → pA T (A c) i = pA S (A c) i := fun c i q1 q2 => hv.2.1 c i (h3 c q1) q2
  refine ⟨?_, ?_, ?_, ht, tp, p1, ?_, ?_, fun i hi => ?_⟩
  · rw [kF _ _ (by decide) (by decide) (by decide), kF _ _ (by decide) (by decide) (by decide), g1]
  · rw [kF _ _ (by decide) (by decide) (by decide), kA _ _ (by decide) (by decide), g2]
  · rw [kF _ _ (by decide) (by decide) (by decide), kA _ _ (by decide) (by decide), g3]
  · rw [kF _ _ (by decide) (by decide) (by decide), p2]
  · rw [kF _ _ (by decide) (by decide) (by decide), p3]
  · obtain ⟨b, q1, q2, q3⟩ := p4 i hi
    exact ⟨b, q1, by rw [kA _ _ (by decide) (by decide), q2], by rw [kA _ _ (by decide) (by decide), q3]⟩
/-- a Past's last state comes off -/
theorem x_pop (n : Nat) {A : Nat → Nat} {V : Nat → Prop} {S : pq_S} {h k : Nat} (hs : HS A V S) (hl : LAY A S) (hp : PLAY A V S h) (hk : k < 17) (hc : pI S 501 (A (cP h)) = nI (k + 1)) (hV : V (cS h k)) : ∃ T, m_X5_pop n (A (cP h)) (A 13) S = some T ∧ CPT A 13 (sI S 501 (A (cP h)) (nI k)) T ∧ CPC A 13 (cS h k) (sI S 501 (A (cP h)) (nI k)) T := by
  have hs1 := (hp.sl hk hV)
  have hb := cS_big h k
  obtain ⟨T, t1, t2, t3⟩ := cp_st n (S := sI S 501 (A (cP h)) (nI k)) hs.1 (sl13 (V := V) (show LAY A (sI S 501 (A (cP h)) (nI k)) from ⟨hl.1, hl.2.1, hl.2.2.1, fun e he => by rw [pI_n (by decide)]; exact hl.2.2.2.1 e he, hl.2.2.2.2⟩) hs.2.2.1) (d := cS h k) (show SLAY A V (sI S 501 (A (cP h)) (nI k)) (cS h k) from hs1.2) (Or.inl (by omega))
  refine ⟨T, ?_, t2, t3⟩
  unfold m_X5_pop
  simp (disch := omega) only [hc, hp.2.2.2.2.1, hp.2.2.2.2.2.1, pk_sub, Nat.add_sub_cancel, hs1.1, ob_mk, cb_mk, lt_mk, ck_if, pR_sI, pN_sI, pA_sI, pQ_sI, pR_sA, pN_sA, pI_sA, pQ_sA, pR_sF, pN_sF, pI_sF, pQ_sF, ite_true, ite_false, if_true, if_false, not_true_eq_false, not_false_eq_true, LIT, ofN, nI_add, pk_mul, ixn, nI_clamp, nI_ltI, nI_leI, nI_eq, Nat.add_zero, Nat.zero_add, Nat.mul_zero, Nat.mul_one, Nat.reduceMul, pI_e]
  rw [if_neg (by omega), if_neg (by omega), if_neg (by simp)]
  exact congrArg (fun o => Option.bind o _) t1
theorem ob_6 (n xa ma : Nat) (hn : 20000 ≤ n) : OB_6 n xa ma (JJ xa ma) := by
  rintro S ⟨A, V, g, rfl, rfl, h⟩
  have h : JG A V g S := h
  obtain ⟨_, _, _, _, _, _, _, wk, im, ps, iw, is, b⟩ := h.hi
  have b : HB g A V S wk im ps iw is := b
  have b1 := b.1
  have b3 := b.2.2.1
  have b6 := b.2.2.2.2.2.1
  have c0 : pI S 501 (A 56) = nI wk := b6.1
  unfold m_X11_undo m_X12_undo
  have hR := h.lay.r0_1109
  by_cases hw : wk = 0
  · subst hw
    refine ⟨-1, S, st0 S (A 60), ?_, ?_, h.st0.jj⟩
    · rw [hR, ob_mk, c0, if_pos nI_0]
    · rw [pI_n (by decide), b3, if_pos nI_0]
  · obtain ⟨w, rfl⟩ : ∃ w, wk = w + 1 := ⟨wk - 1, by omega⟩
    have hsc : SCO g A V S 0 w (ps w) := b6.2.2 w (by omega)
    have hpl := h.hi.hs.2.2.2.2.2.1
    obtain ⟨T, t1, t2, t3⟩ := x_pop n (h := 0) (k := w) h.hi.hs h.lay hpl (by omega) b6.1 hsc.1
    obtain ⟨k1, k2, k3, k4, k5, k6, k7⟩ := t2
    have hne80 := h.lay.ne (i := 80) (j := 82) (by decide) (by decide) (by decide)
    have w1241 : pI (sI T 1114 (A 0) 0) 1241 (A 60) = nI (w + 1) := by
      rw [pI_n (by decide), k6 _ _ (fun z => absurd z.1 (by decide)) (fun z => absurd z.1 (by decide)), pI_n (by decide), b3]
    obtain ⟨U, u1, u2, u3, u4, u5⟩ := r_undo (n := n) (a := A 60) (c := A 80) (d := A 82) (w := w) (by omega) hne80 50 0 n (sI (sI (sI T 1114 (A 0) 0) 1200 (A 60) 0) 1241 (A 60) (nI w)) (by omega) (by omega) (by show pR T _ _ = _; rw [k3]; exact h.lay.r60_1246) (by show pR T _ _ = _; rw [k3]; exact h.lay.r60_1248) (by show pN T _ = _; rw [k4]; exact h.lay.n80) (by show pN T _ = _; rw [k4]; exact h.lay.n82) (pI_e ..)
    have z1 : KPL undF undP undA A S (sI (sI (sI T 1114 (A 0) 0) 1200 (A 60) 0) 1241 (A 60) (nI w)) := (((((KPL.rf _ _ _ _ _).wP (i := 56) (by decide)).cpt ⟨k1, k2, k3, k4, k5, k6, k7⟩ (by decide) (by decide)).wI (by decide)).wI (by decide)).wI (by decide)
    have z2 : KPL undF undP undA A S U := h.tr z1 (u2.kp (j := 80) (by decide) (by decide))
    have uF : ∀ f a, f ≠ 1242 → pI U f a = pI (sI (sI (sI T 1114 (A 0) 0) 1200 (A 60) 0) 1241 (A 60) (nI w)) f a := u2.2.2.2.2.1
    have uA : ∀ c i, c < 92 → c ≠ 80 → pA U (A c) i = pA T (A c) i := fun c i q1 q2 => u2.2.2.2.2.2 _ i (h.lay.ne (i := c) (j := 80) q1 (by decide) q2)
    have hst : STC g A T 13 (ps w) := t3.st h.gb hsc.2.2
    refine ⟨nI w, sI T 1114 (A 0) 0, U, ?_, ?_, (h.und z2 hsc.2.1 ?_ (fun i hi => ?_) ?_ b (wk2 := w) (by omega) ?_ ?_).jj⟩
    · rw [hR, ob_mk, c0, if_neg (nI_ne0 (by omega) (by omega)), ob_mk, h.lay.r0_1101, ob_mk, h.lay.r3_701, ob_mk]
      rw [show m_X5_pop n (A 56) (A 13) S = some T from t1, ob_mk, pR_sI, k3, pR_sI, hR, ob_mk, pI_n (by decide), k6 _ _ (fun z => absurd z.1 (by decide)) (fun z => absurd z.1 (by decide))]
      rw [show pI (sI S 501 (A (cP 0)) (nI w)) 501 (A 56) = nI w from pI_e ..]
    · rw [pI_n (by decide), w1241, if_neg (nI_ne0 (by omega) (by omega)), show nI (w + 1) - 1 = nI w from nI_pred .., lt_mk]
      exact u1
    · exact hst.cg (by rw [uF _ _ (by decide), pI_n (by decide), pI_n (by decide), pI_n (by decide)]) (by rw [uF _ _ (by decide), pI_n (by decide), pI_n (by decide), pI_n (by decide)]) (by rw [uF _ _ (by decide), pI_n (by decide), pI_n (by decide), pI_n (by decide)]) (by rw [uF _ _ (by decide), pI_n (by decide), pI_n (by decide), pI_n (by decide)]) (by rw [uF _ _ (by decide), pI_n (by decide), pI_n (by decide), pI_n (by decide)]) (fun i => uA 15 i (by decide) (by decide)) (fun i => uA 17 i (by decide) (by decide)) (fun i => uA 19 i (by decide) (by decide))
    · rw [u5 i (by omega) hi]
      show pA T (A 82) _ = _
      rw [k7 _ _ (h.lay.ne (i := 82) (j := 15) (by decide) (by decide) (by decide)) (h.lay.ne (i := 82) (j := 17) (by decide) (by decide) (by decide)) (h.lay.ne (i := 82) (j := 19) (by decide) (by decide) (by decide))]
      exact b.2.2.2.2.2.2.1 w i (by omega) hi
    · rw [uF _ _ (by decide), pI_n (by decide), pI_n (by decide), pI_e, u3]
    · rw [uF _ _ (by decide), pI_n (by decide), pI_n (by decide), pI_n (by decide), k6 _ _ (fun z => absurd z.1 (by decide)) (fun z => absurd z.1 (by decide))]
      exact pI_e ..
    · rw [uF _ _ (by decide), pI_e]
