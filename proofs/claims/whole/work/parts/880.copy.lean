theorem HS.eqv {A : Nat → Nat} {V : Nat → Prop} {S T : pq_S} (h : HS A V S) (h1 : pL T = pL S) (h2 : pK T = pK S) (h3 : pR T = pR S) (h4 : pN T = pN S) (h5 : pQ T = pQ S) : HS A V T := by
  simp only [HS, PLAY, SLAY, TY, h1, h2, h3, h4, h5] at h ⊢
  exact h
theorem cS_ne {x i h j q r : Nat} (hi : i < 17) (hj : j < 17) (hq : q < 7) (hr : r < 7) (e : cS x i + q = cS h j + r) : x = h ∧ i = j ∧ q = r := by
  unfold cS at e
  omega
theorem SCO.cpt {g : GH} {A : Nat → Nat} {V : Nat → Prop} {S T : pq_S} {x i h j : Nat} {st : Nat → Int32} {a : Nat} {v : Int32} (hh : SCO g A V S x i st) (hI : ∀ c d, V c → V d → A c = A d → c = d) (hl : SLAY A V S (cS x i)) (hl2 : SLAY A V S (cS h j)) (hi : i < 17) (hj : j < 17) (hne : ¬ (x = h ∧ i = j)) (k : CPT A (cS h j) S T) : SCO g A V (sI T 501 a v) x i st := by
  obtain ⟨h1, h2, h3⟩ := hh
  have ne : ∀ q r, q < 7 → r < 7 → A (cS x i + q) ≠ A (cS h j + r) := fun q r hq hr e => hne (by have := cS_ne hi hj hq hr (hI _ _ (hl.1 q hq) (hl2.1 r hr) e); exact ⟨this.1, this.2.1⟩)
  have kI : ∀ f q, q < 7 → f ≠ 501 → pI (sI T 501 a v) f (A (cS x i + q)) = pI S f (A (cS x i + q)) := fun f q hq hf => by
    rw [pI_n hf, k.2.2.2.2.2.1 _ _ (fun z => ?_) (fun z => ?_)]
    · rcases z.2 with e | e | e
      · exact ne q 1 hq (by decide) e
      · exact ne q 3 hq (by decide) e
      · exact ne q 5 hq (by decide) e
    · exact ne q 0 hq (by decide) z.2
  have kA : ∀ q l, q < 7 → pA (sI T 501 a v) (A (cS x i + q)) l = pA S (A (cS x i + q)) l := fun q l hq => k.2.2.2.2.2.2 _ _ (ne q 2 hq (by decide)) (ne q 4 hq (by decide)) (ne q 6 hq (by decide))
  exact ⟨h1, h2, h3.cg (kI 902 1 (by decide) (by decide)) (kI 902 3 (by decide) (by decide)) (kI 902 5 (by decide) (by decide)) (kI 803 0 (by decide) (by decide)) (kI 804 0 (by decide) (by decide)) (fun l => kA 2 l (by decide)) (fun l => kA 4 l (by decide)) (fun l => kA 6 l (by decide))⟩
/-- only Past h changed -/
def FRH (h : Nat) (A : Nat → Nat) (V : Nat → Prop) (A2 : Nat → Nat) (V2 : Nat → Prop) (S T : pq_S) : Prop := (∀ c, V c → V2 c ∧ A2 c = A c) ∧ (∀ a k, TY S a k → TY T a k) ∧ (∀ f c, V c → ¬ (f = 501 ∧ c = cP h) → (∀ i q, i < 17 → q < 7 → c ≠ cS h i + q) → pI T f (A c) = pI S f (A c)) ∧ (∀ c l, V c → (∀ i q, i < 17 → q < 7 → c ≠ cS h i + q) → pA T (A c) l = pA S (A c) l) ∧ (∀ f c, V c → pR T f (A c) = pR S f (A c)) ∧ (∀ c, V c → pN T (A c) = pN S (A c))
theorem FRH.rf (h : Nat) (A : Nat → Nat) (V : Nat → Prop) (S : pq_S) : FRH h A V A V S S := ⟨fun _ h => ⟨h, rfl⟩, fun _ _ h => h, fun _ _ _ _ _ => rfl, fun _ _ _ _ => rfl, fun _ _ _ => rfl, fun _ _ => rfl⟩
theorem FRH.tr {h : Nat} {A A2 A3 : Nat → Nat} {V V2 V3 : Nat → Prop} {S T U : pq_S} (a : FRH h A V A2 V2 S T) (b : FRH h A2 V2 A3 V3 T U) : FRH h A V A3 V3 S U := by
  refine ⟨fun c hc => ⟨(b.1 c (a.1 c hc).1).1, ((b.1 c (a.1 c hc).1).2).trans (a.1 c hc).2⟩, fun x q z => b.2.1 x q (a.2.1 x q z), fun f c hc h1 h2 => ?_, fun c l hc h2 => ?_, fun f c hc => ?_, fun c hc => ?_⟩
  · have := b.2.2.1 f c (a.1 c hc).1 h1 h2
    rw [(a.1 c hc).2] at this
    exact this.trans (a.2.2.1 f c hc h1 h2)
  · have := b.2.2.2.1 c l (a.1 c hc).1 h2
    rw [(a.1 c hc).2] at this
    exact this.trans (a.2.2.2.1 c l hc h2)
  · have := b.2.2.2.2.1 f c (a.1 c hc).1
    rw [(a.1 c hc).2] at this
    exact this.trans (a.2.2.2.2.1 f c hc)
  · have := b.2.2.2.2.2 c (a.1 c hc).1
    rw [(a.1 c hc).2] at this
    exact this.trans (a.2.2.2.2.2 c hc)
theorem FRH.push {h j : Nat} {A A2 : Nat → Nat} {V V2 : Nat → Prop} {S S2 T : pq_S} {v : Int32} (hs : HS A V S) (hj : j < 17) (G : GRW A V A2 V2 S S2) (hs2 : HS A2 V2 S2) (hP : V2 (cP h)) (hl : SLAY A2 V2 S2 (cS h j)) (k : CPT A2 (cS h j) S2 T) : FRH h A V A2 V2 S (sI T 501 (A2 (cP h)) v) := by
  have ne : ∀ c r, V c → (∀ i q, i < 17 → q < 7 → c ≠ cS h i + q) → r < 7 → A c ≠ A2 (cS h j + r) := fun c r hc h2 hr e => by
    rw [← (G.1 c hc).2] at e
    exact h2 j r hj hr (hs2.1 _ _ (G.1 c hc).1 (hl.1 r hr) e)
  refine ⟨G.1, fun a q x => ?_, fun f c hc h1 h2 => ?_, fun c l hc h2 => ?_, fun f c hc => ?_, fun c hc => ?_⟩
  · have := G.2.1 a q x
    exact ⟨by show a ∈ pL T; rw [k.1]; exact this.1, by show pK T a = q; rw [k.2.1]; exact this.2⟩
  · rw [pI_sI, if_neg (fun z => h1 ⟨z.1, ?_⟩), k.2.2.2.2.2.1 _ _ (fun z => ?_) (fun z => ?_), G.2.2.1 _ _ (hs.2.1 _ hc)]
    · rcases z.2 with e | e | e
      · exact ne c 1 hc h2 (by decide) e
      · exact ne c 3 hc h2 (by decide) e
      · exact ne c 5 hc h2 (by decide) e
    · exact ne c 0 hc h2 (by decide) z.2
    · have e := z.2
      rw [← (G.1 c hc).2] at e
      exact hs2.1 _ _ (G.1 c hc).1 hP e
  · show pA T _ _ = _
    rw [k.2.2.2.2.2.2 _ _ (ne c 2 hc h2 (by decide)) (ne c 4 hc h2 (by decide)) (ne c 6 hc h2 (by decide)), G.2.2.2.1 _ _ (hs.2.1 _ hc)]
  · show pR T _ _ = _
    rw [k.2.2.1, G.2.2.2.2.1 _ _ (hs.2.1 _ hc)]
  · show pN T _ = _
    rw [k.2.2.2.1, G.2.2.2.2.2 _ (hs.2.1 _ hc)]
theorem cP_ne {x h : Nat} (e : cP x = cP h) : x = h := by
  unfold cP at e
  by_cases a : x = 0
  · by_cases b : h = 0
    · omega
    · rw [if_pos a, if_neg b] at e; omega
  · by_cases b : h = 0
    · rw [if_neg a, if_pos b] at e; omega
    · rw [if_neg a, if_neg b] at e; omega
theorem cP_S {x h i q : Nat} (hx : x ≤ 3) : cP x ≠ cS h i + q := fun e => by
  have := cS_big h i
  unfold cP at e
  by_cases a : x = 0
  · rw [if_pos a] at e; omega
  · rw [if_neg a] at e; omega
/-- one push, all that it gives -/
theorem w_one (n : Nat) {g : GH} {h k d : Nat} {A : Nat → Nat} {V : Nat → Prop} {S : pq_S} {mc ms : Nat} {Q : pq_S → Prop} {ps : Nat → Nat → Int32} {st : Nat → Int32} (hg : GB g) (hh : h ≤ 3) (hs : HS A V S) (hv : V (cP h)) (hk : k < 17) (hc : pI S 501 (A (cP h)) = nI k) (hd : SLAY A V S d) (hdd : ∀ q r i, q < 7 → r < 7 → i < 17 → d + q ≠ cS h i + r) (hdd2 : cS h k + 6 < d ∨ d + 6 < cS h k) (hst : STC g A S d st) (hsb : SB g st) (hps : ∀ i, i < k → SCO g A V S h i (ps i)) (hmc : 7 ≤ mc) (hms : 62 ≤ ms) (hQ : ∀ A2 V2 U, HS A2 V2 U → FRH h A V A2 V2 S U → pI U 501 (A2 (cP h)) = nI (k + 1) → (∀ i, i < k → SCO g A2 V2 U h i (ps i)) → SCO g A2 V2 U h k st → Q U) : wp_X5_push n (A (cP h)) (A d) S mc ms Q := by
  have hp := PLAY.gr0 hs hh hv
  refine w_push n hs hh hp hk hc hd hdd2 hmc hms (fun A2 V2 S2 T G hs2 hv2 t1 t2 => ?_)
  have hp2 := PLAY.gr0 hs2 hh (G.1 _ hv).1
  have hl2 := (hp2.sl hk hv2).2
  refine hQ A2 V2 _ (hs2.eqv t1.1 t1.2.1 t1.2.2.1 t1.2.2.2.1 t1.2.2.2.2.1) (FRH.push hs hk G hs2 (G.1 _ hv).1 hl2 t1) (pI_e ..) (fun i hi => ?_) ?_
  · have a := (hps i hi).gr (hp.sl (by omega) (hps i hi).1).2 hs.2.1 G
    exact a.cpt hs2.1 (hp2.sl (by omega) a.1).2 hl2 (by omega) hk (fun z => by omega) t1
  · refine ⟨hv2, hsb, ?_⟩
    have b : STC g A2 S2 d st := STC.gr hst hd.1 hs.2.1 G
    have c : STC g A2 T (cS h k) st := t2.st hg b
    exact c.cg (pI_n (by decide)) (pI_n (by decide)) (pI_n (by decide)) (pI_n (by decide)) (pI_n (by decide)) (fun _ => rfl) (fun _ => rfl) (fun _ => rfl)
theorem SCO.fr {g : GH} {h y i : Nat} {A A2 : Nat → Nat} {V V2 : Nat → Prop} {S T : pq_S} {st : Nat → Int32} (hh : SCO g A V S y i st) (hl : SLAY A V S (cS y i)) (hi : i < 17) (hy : y ≠ h) (k : FRH h A V A2 V2 S T) (hx : h ≤ 3) : SCO g A2 V2 T y i st := by
  obtain ⟨h1, h2, h3⟩ := hh
  have eA : ∀ q, q < 7 → A2 (cS y i + q) = A (cS y i + q) := fun q hq => (k.1 _ (hl.1 q hq)).2
  have e0 : A2 (cS y i) = A (cS y i) := eA 0 (by decide)
  have nn : ∀ q, q < 7 → ∀ j r, j < 17 → r < 7 → cS y i + q ≠ cS h j + r := fun q hq j r hj hr e => hy (cS_ne hi hj hq hr e).1
  have kI : ∀ f q, q < 7 → pI T f (A (cS y i + q)) = pI S f (A (cS y i + q)) := fun f q hq => k.2.2.1 f _ (hl.1 q hq) (fun z => cP_S hx z.2.symm) (nn q hq)
  have kA : ∀ q l, q < 7 → pA T (A (cS y i + q)) l = pA S (A (cS y i + q)) l := fun q l hq => k.2.2.2.1 _ l (hl.1 q hq) (nn q hq)
  refine ⟨(k.1 _ h1).1, h2, ?_⟩
  show STX g T (A2 (cS y i)) (A2 (cS y i + 1)) (A2 (cS y i + 3)) (A2 (cS y i + 5)) (A2 (cS y i + 2)) (A2 (cS y i + 4)) (A2 (cS y i + 6)) st
  rw [e0, eA 1 (by decide), eA 2 (by decide), eA 3 (by decide), eA 4 (by decide), eA 5 (by decide), eA 6 (by decide)]
  exact h3.cg (kI 902 1 (by decide)) (kI 902 3 (by decide)) (kI 902 5 (by decide)) (kI 803 0 (by decide)) (kI 804 0 (by decide)) (fun l => kA 2 l (by decide)) (fun l => kA 4 l (by decide)) (fun l => kA 6 l (by decide))
theorem w_cf (n : Nat) {g : GH} {h y m : Nat} {ps : Nat → Nat → Int32} (hg : GB g) (hh : h ≤ 3) (hy : y ≤ 3) (hyh : y ≠ h) (hm : m ≤ 16) : ∀ (r j f : Nat) (A : Nat → Nat) (V : Nat → Prop) (S : pq_S) (mc ms : Nat) (Q : pq_S → Prop), j + r = m → r < f → HS A V S → V (cP h) → V (cP y) → pI S 501 (A (cP y)) = nI m → pI S 501 (A (cP h)) = nI j → (∀ i, i < m → SCO g A V S y i (ps i)) → (∀ i, i < j → SCO g A V S h i (ps i)) → 7 * r ≤ mc → 62 * r ≤ ms → (∀ A2 V2 T, HS A2 V2 T → FRH h A V A2 V2 S T → pI T 501 (A2 (cP h)) = nI m → (∀ i, i < m → SCO g A2 V2 T h i (ps i)) → Q T) → pb_X5_copyFrom_7 n f (A (cP h)) (A (cP y)) (nI j) S mc ms Q := by
  intro r
  induction r with
  | zero =>
    intro j f A V S mc ms Q h1 h2 hs v1 v2 p1 p2 q1 q2 c1 c2 hQ
    obtain ⟨f, rfl⟩ : ∃ g, f = g + 1 := ⟨f - 1, by omega⟩
    have : j = m := by omega
    subst this
    rw [pb_X5_copyFrom_7, p1, if_pos (Int32.le_refl _)]
    exact hQ A V S hs (FRH.rf _ _ _ _) p2 q2
  | succ r ih =>
    intro j f A V S mc ms Q h1 h2 hs v1 v2 p1 p2 q1 q2 c1 c2 hQ
    obtain ⟨f, rfl⟩ : ∃ g, f = g + 1 := ⟨f - 1, by omega⟩
    have hp := PLAY.gr0 hs hy v2
    obtain ⟨s1, s2⟩ := hp.sl (i := j) (by omega) (q1 j (by omega)).1
    rw [pb_X5_copyFrom_7, p1, if_neg (by simp (disch := omega) only [LIT, ofN, nI_add, pk_mul, ixn, nI_clamp, nI_ltI, nI_leI, nI_eq, Nat.add_zero, Nat.zero_add, Nat.mul_zero, Nat.mul_one, Nat.reduceMul]; omega)]
    refine ⟨_, hp.2.2.2.2.1, ?_⟩
    rw [hp.2.2.2.2.2.1, if_neg (by simp (disch := omega) only [LIT, ofN, nI_add, pk_mul, ixn, nI_clamp, nI_ltI, nI_leI, nI_eq, Nat.add_zero, Nat.zero_add, Nat.mul_zero, Nat.mul_one, Nat.reduceMul]; omega)]
    refine ⟨_, hp.2.2.2.2.1, by rw [hp.2.2.2.2.2.1]; exact ix_nI (by omega) (by decide), ?_⟩
    rw [nI_clamp (show j < 2 ^ 31 by omega), s1, if_neg (by simp)]
    refine ⟨_, hp.2.2.2.2.1, by rw [hp.2.2.2.2.2.1]; exact ix_nI (by omega) (by decide), A (cS y j), s1, 7, 62, by omega, by omega, ?_⟩
    refine w_one n hg hh hs v1 (by omega) p2 s2 (fun q r i a1 a2 a3 e => hyh (cS_ne (by omega) a3 a1 a2 e).1) ?_ (q1 j (by omega)).2.2 (q1 j (by omega)).2.1 q2 (Nat.le_refl _) (Nat.le_refl _) (fun A2 V2 U u1 u2 u3 u4 u5 => ?_)
    · unfold cS
      omega
    · unfold pb_X5_copyFrom_43
      rw [← (u2.1 _ v1).2, ← (u2.1 _ v2).2, show nI j + 1 = nI (j + 1) from nI_add j 1]
      refine ih (j + 1) f A2 V2 U (mc - 7) (ms - 62) Q (by omega) (by omega) u1 (u2.1 _ v1).1 (u2.1 _ v2).1 ?_ u3 (fun i hi => (q1 i hi).fr (hp.sl (by omega) (q1 i hi).1).2 (by omega) hyh u2 hh) (fun i hi => ?_) (by omega) (by omega) (fun A3 V3 T t1 t2 t3 t4 => hQ A3 V3 T t1 (u2.tr t2) t3 t4)
      · rw [(u2.1 _ v2).2, u2.2.2.1 _ _ v2 (fun z => hyh (cP_ne z.2)) (fun i q _ _ => cP_S hy), p1]
      · by_cases e : i = j
        · subst e; exact u5
        · exact u4 i (by omega)
