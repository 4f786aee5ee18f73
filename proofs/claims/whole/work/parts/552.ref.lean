theorem i32_cases (v : Int32) {P : Nat} (hP : P < 2 ^ 31) : (∃ p, p < P ∧ v = nI p) ∨ ¬ (0 ≤ v ∧ v < nI P) := by
  by_cases h : 0 ≤ v ∧ v < nI P
  · left
    have h1 : (0 : Int) ≤ v.toInt := by have := Int32.le_iff_toInt_le.mp h.1; simpa using this
    have h2 : v.toInt < (P : Int) := by have := Int32.lt_iff_toInt_lt.mp h.2; rwa [nI_toInt hP] at this
    refine ⟨v.toInt.toNat, by omega, ?_⟩
    apply Int32.toInt_inj.mp
    rw [nI_toInt (by omega)]
    omega
  · exact Or.inr h
theorem i32_le_pred {v : Int32} {P : Nat} (hP : P < 2 ^ 31) : (0 ≤ v ∧ v ≤ nI P - 1) ↔ (0 ≤ v ∧ v < nI P) := by
  have e : (nI P - 1 : Int32).toInt = (P : Int) - 1 := by
    rw [Int32.toInt_sub, nI_toInt hP]
    show ((P : Int) - 1).bmod (2 ^ 32) = _
    apply Int.bmod_eq_of_le <;> omega
  constructor <;> intro h <;> refine ⟨h.1, ?_⟩
  · have := Int32.le_iff_toInt_le.mp h.2
    rw [e] at this
    rw [Int32.lt_iff_toInt_lt, nI_toInt hP]
    omega
  · have := Int32.lt_iff_toInt_lt.mp h.2
    rw [nI_toInt hP] at this
    rw [Int32.le_iff_toInt_le, e]
    omega
theorem nI_ip {p P : Nat} (h : p < P) (hP : P < 2 ^ 31) : (0 : Int32) ≤ nI p ∧ nI p < nI P := ⟨nI_pos' (by omega), by
  rw [Int32.lt_iff_toInt_lt, nI_toInt hP, nI_toInt (by omega)]
  omega⟩
/-- within two figures -/
theorem i32_wi (v : Int32) (a b : Nat) (hb : b < 2 ^ 31) (ha : a ≤ b) : (∃ k, a ≤ k ∧ k ≤ b ∧ v = nI k) ∨ ¬ (nI a ≤ v ∧ v ≤ nI b) := by
  by_cases h : nI a ≤ v ∧ v ≤ nI b
  · left
    have h1 : (a : Int) ≤ v.toInt := by have := Int32.le_iff_toInt_le.mp h.1; rwa [nI_toInt (by omega)] at this
    have h2 : v.toInt ≤ (b : Int) := by have := Int32.le_iff_toInt_le.mp h.2; rwa [nI_toInt hb] at this
    refine ⟨v.toInt.toNat, by omega, by omega, ?_⟩
    apply Int32.toInt_inj.mp
    rw [nI_toInt (by omega)]
    omega
  · exact Or.inr h
theorem nI_wi {k a b : Nat} (h1 : a ≤ k) (h2 : k ≤ b) (hb : b < 2 ^ 31) : nI a ≤ nI k ∧ nI k ≤ nI b := by
  rw [Int32.le_iff_toInt_le, Int32.le_iff_toInt_le, nI_toInt hb, nI_toInt (by omega), nI_toInt (by omega)]
  omega
theorem sp_may00 {n ma q : Nat} {code : Int32} {S : pq_S} (e1 : pR S 1201 ma = some q) (hN : pN S q = 2) (h0 : pI S 1200 ma = 0) (hc : ¬ code = 0) : m_X12_may n ma 0 code 0 S = some (0, sA (sI S 1200 ma code) q 0 (pA S q 0 + 1)) := sp_may0 (k := 0) e1 hN (by decide) h0 hc
theorem sp_may01 {n ma q : Nat} {code : Int32} {S : pq_S} (e1 : pR S 1201 ma = some q) (hN : pN S q = 2) (h0 : pI S 1200 ma = 0) (hc : ¬ code = 0) : m_X12_may n ma 0 code 1 S = some (0, sA (sI S 1200 ma code) q 1 (pA S q 1 + 1)) := sp_may0 (k := 1) e1 hN (by decide) h0 hc
theorem sp_isPlace1 {n ma P p : Nat} {c : Int32} {S : pq_S} (e : pI S 1224 ma = nI P) (hP : P < 2 ^ 31) (hp : p < P) (h0 : pI S 1200 ma = 0) : m_X12_isPlace n ma (nI p) c S = some (1, S) := by
  unfold m_X12_isPlace
  rw [sp_within, e, if_pos ((i32_le_pred hP).mpr (nI_ip hp hP)), cb_mk, sp_may1 h0, cb_mk]
theorem sp_isPlace0 {n ma P q : Nat} {v : Int32} {S : pq_S} (e : pI S 1224 ma = nI P) (hP : P < 2 ^ 31) (hv : ¬ (0 ≤ v ∧ v < nI P)) (h0 : pI S 1200 ma = 0) (e1 : pR S 1201 ma = some q) (hN : pN S q = 2) : m_X12_isPlace n ma v 1 S = some (0, sA (sI S 1200 ma 1) q 0 (pA S q 0 + 1)) := by
  unfold m_X12_isPlace
  rw [sp_within, e, if_neg (fun h => hv ((i32_le_pred hP).mp h)), cb_mk, sp_may00 e1 hN h0 (by decide), cb_mk]
theorem sp_isWant1 {n ma P p : Nat} {c : Int32} {S : pq_S} (e : pI S 1225 ma = nI P) (hP : P < 2 ^ 31) (hp : p < P) (h0 : pI S 1200 ma = 0) : m_X12_isWant n ma (nI p) c S = some (1, S) := by
  unfold m_X12_isWant
  rw [sp_within, e, if_pos ((i32_le_pred hP).mpr (nI_ip hp hP)), cb_mk, sp_may1 h0, cb_mk]
theorem sp_isWant0 {n ma P q : Nat} {v : Int32} {S : pq_S} (e : pI S 1225 ma = nI P) (hP : P < 2 ^ 31) (hv : ¬ (0 ≤ v ∧ v < nI P)) (h0 : pI S 1200 ma = 0) (e1 : pR S 1201 ma = some q) (hN : pN S q = 2) : m_X12_isWant n ma v 1 S = some (0, sA (sI S 1200 ma 1) q 0 (pA S q 0 + 1)) := by
  unfold m_X12_isWant
  rw [sp_within, e, if_neg (fun h => hv ((i32_le_pred hP).mp h)), cb_mk, sp_may00 e1 hN h0 (by decide), cb_mk]
theorem sp_isMine1 {n ma P p : Nat} {c : Int32} {S : pq_S} (e : pI S 1226 ma = nI P) (hP : P < 2 ^ 31) (hp : p < P) (h0 : pI S 1200 ma = 0) : m_X12_isMine n ma (nI p) c S = some (1, S) := by
  unfold m_X12_isMine
  rw [sp_within, e, if_pos ((i32_le_pred hP).mpr (nI_ip hp hP)), cb_mk, sp_may1 h0, cb_mk]
theorem sp_isMine0 {n ma P q : Nat} {v : Int32} {S : pq_S} (e : pI S 1226 ma = nI P) (hP : P < 2 ^ 31) (hv : ¬ (0 ≤ v ∧ v < nI P)) (h0 : pI S 1200 ma = 0) (e1 : pR S 1201 ma = some q) (hN : pN S q = 2) : m_X12_isMine n ma v 1 S = some (0, sA (sI S 1200 ma 1) q 0 (pA S q 0 + 1)) := by
  unfold m_X12_isMine
  rw [sp_within, e, if_neg (fun h => hv ((i32_le_pred hP).mp h)), cb_mk, sp_may00 e1 hN h0 (by decide), cb_mk]
/-! the class's guards -/
theorem wr_need1 {n a : Nat} {S : pq_S} {c s : Nat} {E : Nat → pq_S → Prop} {Q : pq_S → Prop} (h : Q S) : wp_X11_need n a 1 S c s E Q := by
  unfold wp_X11_need
  rw [if_neg (by decide)]
  exact h
theorem wr_need0 {n a : Nat} {S : pq_S} {c s : Nat} {E : Nat → pq_S → Prop} {Q : pq_S → Prop} (hc : 1 ≤ c) (hs : 6 ≤ s) (h : E 1 (sI S 1116 a (pI S 1116 a + 1))) : wp_X11_need n a 0 S c s E Q := by
  unfold wp_X11_need
  rw [if_pos rfl]
  exact ⟨hc, hs, h⟩
theorem wr_such {n a t : Nat} {P : Nat} {v : Int32} {S : pq_S} {E : Nat → pq_S → Prop} {Q : pq_S → Prop} (e : pI S 902 t = nI P) (h1 : 0 ≤ v ∧ v < nI P → Q S) (h0 : ¬ (0 ≤ v ∧ v < nI P) → E 2 (sI S 1115 a (pI S 1115 a + 1))) : ∃ r6 S_4, m_X9_has n t v S = some (r6, S_4) ∧ (∃ c10 s11 : Nat, c10 ≤ 1 ∧ s11 ≤ 6 ∧ wp_X11_needSuch n a r6 S_4 c10 s11 E (fun S_9 => Q S_9)) := by
  refine ⟨_, _, sp_has _ _ _ _, 1, 6, Nat.le_refl _, Nat.le_refl _, ?_⟩
  unfold wp_X11_needSuch
  rw [e]
  by_cases h : 0 ≤ v ∧ v < nI P
  · rw [if_pos h, if_neg (by decide)]
    exact h1 h
  · rw [if_neg h, if_pos rfl]
    exact ⟨by decide, by decide, h0 h⟩
theorem wr_place {n : Nat} {A : Nat → Nat} {g : GH} {v : Int32} {S : pq_S} {E : Nat → pq_S → Prop} {Q : pq_S → Prop} (hL : LAY A S) (hc : CX g S A) (h1 : 0 ≤ v ∧ v < nI (gP g) → Q S) (h0 : ¬ (0 ≤ v ∧ v < nI (gP g)) → E 2 (sI S 1115 (A 0) (pI S 1115 (A 0) + 1))) : wp_X11_needPlace n (A 0) v S 1 6 E Q := ⟨_, hL.r0_1101, _, hL.r3_700, _, hL.r4_100, wr_such hc.1.1 h1 h0⟩
theorem wr_want {n : Nat} {A : Nat → Nat} {g : GH} {v : Int32} {S : pq_S} {E : Nat → pq_S → Prop} {Q : pq_S → Prop} (hL : LAY A S) (hc : CX g S A) (h1 : 0 ≤ v ∧ v < nI (gW g) → Q S) (h0 : ¬ (0 ≤ v ∧ v < nI (gW g)) → E 2 (sI S 1115 (A 0) (pI S 1115 (A 0) + 1))) : wp_X11_needWant n (A 0) v S 1 6 E Q := ⟨_, hL.r0_1101, _, hL.r3_700, _, hL.r4_101, wr_such hc.1.2.1 h1 h0⟩
theorem wr_mine {n : Nat} {A : Nat → Nat} {g : GH} {v : Int32} {S : pq_S} {E : Nat → pq_S → Prop} {Q : pq_S → Prop} (hL : LAY A S) (hc : CX g S A) (h1 : 0 ≤ v ∧ v < nI (gM g) → Q S) (h0 : ¬ (0 ≤ v ∧ v < nI (gM g)) → E 2 (sI S 1115 (A 0) (pI S 1115 (A 0) + 1))) : wp_X11_needMine n (A 0) v S 1 6 E Q := ⟨_, hL.r0_1101, _, hL.r3_700, _, hL.r4_102, wr_such hc.1.2.2.1 h1 h0⟩
/-! a refused call: both count it -/
theorem JG.lay {A : Nat → Nat} {V : Nat → Prop} {g : GH} {S : pq_S} (h : JG A V g S) : LAY A S := h.1.1
theorem JG.bad {A : Nat → Nat} {V : Nat → Prop} {g : GH} {S : pq_S} {c : Int32} (h : JG A V g S) : JG A V g (sA (sI (sI (sI S 1116 (A 0) (pI S 1116 (A 0) + 1)) 1200 (A 60) 0) 1200 (A 60) c) (A 61) 1 (pA S (A 61) 1 + 1)) := by
  refine h.kpt (KPL.wA (KPL.wI (KPL.wI (KPL.wI (KPL.rf _ _ _ _ _) (by decide)) (by decide)) (by decide)) (by decide)) ?_
  obtain ⟨h1, h2, h3, h4, tp, h5, h6, h7, h8⟩ := h.2.2.2.1
  have n1 : A 62 ≠ A 61 := h.lay.ne (by decide) (by decide) (by decide)
  have n2 : A 2 ≠ A 61 := h.lay.ne (by decide) (by decide) (by decide)
  refine ⟨h1, ?_, ?_, h4, tp, h5, h6, h7, fun i hi => ?_⟩
  · show pI S 1115 (A 0) = if A 61 = A 61 ∧ 0 = 1 then _ else pA S (A 61) 0
    rw [if_neg (by simp)]
    exact h2
  · show (if 1116 = 1200 ∧ A 0 = A 60 then c else if 1116 = 1200 ∧ A 0 = A 60 then 0 else if 1116 = 1116 ∧ A 0 = A 0 then pI S 1116 (A 0) + 1 else _) = if A 61 = A 61 ∧ 1 = 1 then pA S (A 61) 1 + 1 else _
    rw [if_neg (by simp), if_neg (by simp), if_pos ⟨rfl, rfl⟩, if_pos ⟨rfl, rfl⟩, h3]
  · obtain ⟨b, hb, e1, e2⟩ := h8 i hi
    refine ⟨b, hb, ?_, ?_⟩
    · rw [pA_sA, if_neg (fun q => n1 q.1)]; exact e1
    · rw [pA_sA, if_neg (fun q => n2 q.1)]; exact e2
theorem JG.miss {A : Nat → Nat} {V : Nat → Prop} {g : GH} {S : pq_S} {c : Int32} (h : JG A V g S) : JG A V g (sA (sI (sI (sI S 1115 (A 0) (pI S 1115 (A 0) + 1)) 1200 (A 60) 0) 1200 (A 60) c) (A 61) 0 (pA S (A 61) 0 + 1)) := by
  refine h.kpt (KPL.wA (KPL.wI (KPL.wI (KPL.wI (KPL.rf _ _ _ _ _) (by decide)) (by decide)) (by decide)) (by decide)) ?_
  obtain ⟨h1, h2, h3, h4, tp, h5, h6, h7, h8⟩ := h.2.2.2.1
  have n1 : A 62 ≠ A 61 := h.lay.ne (by decide) (by decide) (by decide)
  have n2 : A 2 ≠ A 61 := h.lay.ne (by decide) (by decide) (by decide)
  refine ⟨h1, ?_, ?_, h4, tp, h5, h6, h7, fun i hi => ?_⟩
  · show (if 1115 = 1200 ∧ A 0 = A 60 then c else if 1115 = 1200 ∧ A 0 = A 60 then 0 else if 1115 = 1115 ∧ A 0 = A 0 then pI S 1115 (A 0) + 1 else _) = if A 61 = A 61 ∧ 0 = 0 then pA S (A 61) 0 + 1 else _
    rw [if_neg (by simp), if_neg (by simp), if_pos ⟨rfl, rfl⟩, if_pos ⟨rfl, rfl⟩, h2]
  · show pI S 1116 (A 0) = if A 61 = A 61 ∧ 1 = 0 then _ else pA S (A 61) 1
    rw [if_neg (by simp)]
    exact h3
  · obtain ⟨b, hb, e1, e2⟩ := h8 i hi
    refine ⟨b, hb, ?_, ?_⟩
    · rw [pA_sA, if_neg (fun q => n1 q.1)]; exact e1
    · rw [pA_sA, if_neg (fun q => n2 q.1)]; exact e2
/-! the reference, started: thrown is 0, nothing else has changed -/
abbrev st0 (S : pq_S) (ma : Nat) : pq_S := sI S 1200 ma 0
theorem st0_th (S : pq_S) (ma : Nat) : pI (st0 S ma) 1200 ma = 0 := by
  show (if 1200 = 1200 ∧ ma = ma then (0 : Int32) else _) = 0
  rw [if_pos ⟨rfl, rfl⟩]
theorem st0_I (S : pq_S) (ma f a : Nat) (h : f ≠ 1200) : pI (st0 S ma) f a = pI S f a := by
  show (if f = 1200 ∧ a = ma then (0 : Int32) else pI S f a) = _
  rw [if_neg (fun q => h q.1)]
theorem JG.st0 {A : Nat → Nat} {V : Nat → Prop} {g : GH} {S : pq_S} (h : JG A V g S) : JG A V g (st0 S (A 60)) := h.kp (KPL.wI (KPL.rf _ _ _ _ _) (by decide))
theorem KPL.st0 {A : Nat → Nat} {S T : pq_S} (h : KP A S T) : KP A S (st0 T (A 60)) := KPL.wI h (by decide)
theorem ki_ok {A : Nat → Nat} {V : Nat → Prop} {g : GH} {S S2 : pq_S} {f : Nat → Int64} {m : pq_S → Option (Int32 × pq_S)} {r : Int32} (h : JG A V g S) (hm : m S = some (r, S2)) (hk : KP A S S2) (ht : pI S2 1200 (A 60) = 0) : KI (JJ (A 0) (A 60)) (A 60) m 0 (vp_updL f 0 (Int32.toInt64 r)) S := ⟨r, S2, hm, ht, fun _ => by simp [vp_updL], (h.kp hk).jj⟩
theorem kz_ok {A : Nat → Nat} {V : Nat → Prop} {g : GH} {S S2 : pq_S} {f : Nat → Int64} {m : pq_S → Option (Int32 × pq_S)} {r : Int32} (h : JG A V g S) (hm : m S = some (r, S2)) (hk : KP A S S2) (ht : pI S2 1200 (A 60) = 0) : KZ (JJ (A 0) (A 60)) (A 60) m 0 (vp_updL f 0 (if r = 0 then 0 else 1)) S := ⟨r, S2, hm, ht, fun _ => by simp [vp_updL], (h.kp hk).jj⟩
theorem kj_ok {A : Nat → Nat} {V : Nat → Prop} {g : GH} {S S2 : pq_S} {f : Nat → Int64} {m : pq_S → Option (Int64 × pq_S)} {r : Int64} (h : JG A V g S) (hm : m S = some (r, S2)) (hk : KP A S S2) (ht : pI S2 1200 (A 60) = 0) : KJ (JJ (A 0) (A 60)) (A 60) m 0 (vp_updL f 0 r) S := ⟨r, S2, hm, ht, fun _ => by simp [vp_updL], (h.kp hk).jj⟩
abbrev badS (A : Nat → Nat) (S : pq_S) : pq_S := sI S 1116 (A 0) (pI S 1116 (A 0) + 1)
abbrev missS (A : Nat → Nat) (S : pq_S) : pq_S := sI S 1115 (A 0) (pI S 1115 (A 0) + 1)
abbrev badM (A : Nat → Nat) (c : Int32) (S : pq_S) : pq_S := sA (sI S 1200 (A 60) c) (A 61) 1 (pA S (A 61) 1 + 1)
abbrev missM (A : Nat → Nat) (c : Int32) (S : pq_S) : pq_S := sA (sI S 1200 (A 60) c) (A 61) 0 (pA S (A 61) 0 + 1)
theorem th_badM {A : Nat → Nat} {S : pq_S} {c : Int32} : pI (badM A c S) 1200 (A 60) = c := by
  show (if 1200 = 1200 ∧ A 60 = A 60 then c else _) = c
  rw [if_pos ⟨rfl, rfl⟩]
theorem th_missM {A : Nat → Nat} {S : pq_S} {c : Int32} : pI (missM A c S) 1200 (A 60) = c := by
  show (if 1200 = 1200 ∧ A 60 = A 60 then c else _) = c
  rw [if_pos ⟨rfl, rfl⟩]
theorem ki_bad {A : Nat → Nat} {V : Nat → Prop} {g : GH} {S : pq_S} {f : Nat → Int64} {m : pq_S → Option (Int32 × pq_S)} {b c : Int32} (h : JG A V g S) (hc : c ≠ 0) (hm : m (badS A S) = some (b, badM A c (st0 (badS A S) (A 60)))) : KI (JJ (A 0) (A 60)) (A 60) m c f (badS A S) := ⟨b, _, hm, th_badM, fun q => absurd q hc, (h.bad (c := c)).jj⟩
theorem ki_miss {A : Nat → Nat} {V : Nat → Prop} {g : GH} {S : pq_S} {f : Nat → Int64} {m : pq_S → Option (Int32 × pq_S)} {b c : Int32} (h : JG A V g S) (hc : c ≠ 0) (hm : m (missS A S) = some (b, missM A c (st0 (missS A S) (A 60)))) : KI (JJ (A 0) (A 60)) (A 60) m c f (missS A S) := ⟨b, _, hm, th_missM, fun q => absurd q hc, (h.miss (c := c)).jj⟩
theorem kj_bad {A : Nat → Nat} {V : Nat → Prop} {g : GH} {S : pq_S} {f : Nat → Int64} {m : pq_S → Option (Int64 × pq_S)} {b : Int64} {c : Int32} (h : JG A V g S) (hc : c ≠ 0) (hm : m (badS A S) = some (b, badM A c (st0 (badS A S) (A 60)))) : KJ (JJ (A 0) (A 60)) (A 60) m c f (badS A S) := ⟨b, _, hm, th_badM, fun q => absurd q hc, (h.bad (c := c)).jj⟩
theorem kz_bad {A : Nat → Nat} {V : Nat → Prop} {g : GH} {S : pq_S} {f : Nat → Int64} {m : pq_S → Option (Int32 × pq_S)} {b c : Int32} (h : JG A V g S) (hc : c ≠ 0) (hm : m (badS A S) = some (b, badM A c (st0 (badS A S) (A 60)))) : KZ (JJ (A 0) (A 60)) (A 60) m c f (badS A S) := ⟨b, _, hm, th_badM, fun q => absurd q hc, (h.bad (c := c)).jj⟩
theorem kz_miss {A : Nat → Nat} {V : Nat → Prop} {g : GH} {S : pq_S} {f : Nat → Int64} {m : pq_S → Option (Int32 × pq_S)} {b c : Int32} (h : JG A V g S) (hc : c ≠ 0) (hm : m (missS A S) = some (b, missM A c (st0 (missS A S) (A 60)))) : KZ (JJ (A 0) (A 60)) (A 60) m c f (missS A S) := ⟨b, _, hm, th_missM, fun q => absurd q hc, (h.miss (c := c)).jj⟩
theorem sp_mayS1 {n ma : Nat} {code kind : Int32} {S : pq_S} : m_X12_may n ma 1 code kind (sI S 1200 ma 0) = some (1, sI S 1200 ma 0) := sp_may1 (st0_th S ma)
theorem sp_mayS01 {n : Nat} {A : Nat → Nat} {code : Int32} {S : pq_S} (e1 : pR S 1201 (A 60) = some (A 61)) (hN : pN S (A 61) = 2) (hc : ¬ code = 0) : m_X12_may n (A 60) 0 code 1 (sI S 1200 (A 60) 0) = some (0, badM A code (st0 S (A 60))) := sp_may01 (S := st0 S (A 60)) e1 hN (st0_th S (A 60)) hc
theorem sp_mayS00 {n : Nat} {A : Nat → Nat} {code : Int32} {S : pq_S} (e1 : pR S 1201 (A 60) = some (A 61)) (hN : pN S (A 61) = 2) (hc : ¬ code = 0) : m_X12_may n (A 60) 0 code 0 (sI S 1200 (A 60) 0) = some (0, missM A code (st0 S (A 60))) := sp_may00 (S := st0 S (A 60)) e1 hN (st0_th S (A 60)) hc
