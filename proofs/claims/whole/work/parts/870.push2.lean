theorem w_push48 (n : Nat) {A : Nat → Nat} {V : Nat → Prop} {S : pq_S} {h k d mc ms : Nat} {Q : pq_S → Prop} (hs : HS A V S) (hp : PLAY A V S h) (hk : k < 17) (hv : V (cS h k)) (hc : pI S 501 (A (cP h)) = nI k) (hd : SLAY A V S d) (hdd : cS h k + 6 < d ∨ d + 6 < cS h k) (hQ : ∀ T, CPT A (cS h k) S T → CPC A (cS h k) d S T → Q (sI T 501 (A (cP h)) (nI (k + 1)))) : pb_X5_push_48 n (A (cP h)) (A d) S mc ms Q := by
  unfold pb_X5_push_48
  obtain ⟨q2, q3⟩ := hp.sl hk hv
  obtain ⟨T, t1, t2, t3⟩ := cp_st n hs.1 q3 hd hdd
  rw [hc]
  refine ⟨_, hp.2.2.2.2.1, ?_, A (cS h k), ?_, T, t1, ?_⟩
  · rw [hp.2.2.2.2.2.1]; exact ix_nI hk (by decide)
  · rw [nI_clamp (by omega)]; exact q2
  · rw [t2.2.2.2.2.2.1 _ _ (fun z => absurd z.1 (by decide)) (fun z => absurd z.1 (by decide)), hc, show nI k + 1 = nI (k + 1) from nI_add k 1]
    exact hQ T t2 t3
theorem PLAY.gr0 {A : Nat → Nat} {V : Nat → Prop} {S : pq_S} {h : Nat} (hs : HS A V S) (hh : h ≤ 3) (hv : V (cP h)) : PLAY A V S h := by
  by_cases e : h = 0
  · subst e; exact hs.2.2.2.2.2.1
  · obtain ⟨x, rfl⟩ : ∃ x, h = x + 1 := ⟨h - 1, by omega⟩
    rcases hs.2.2.2.2.2.2 x (by omega) with ⟨_, _, q⟩ | ⟨q, _⟩
    · exact q
    · exact absurd hv q
theorem w_push (n : Nat) {A : Nat → Nat} {V : Nat → Prop} {S : pq_S} {h k d mc ms : Nat} {Q : pq_S → Prop} (hs : HS A V S) (hh : h ≤ 3) (hp : PLAY A V S h) (hk : k < 17) (hc : pI S 501 (A (cP h)) = nI k) (hd : SLAY A V S d) (hdd : cS h k + 6 < d ∨ d + 6 < cS h k) (hmc : 7 ≤ mc) (hms : 62 ≤ ms) (hQ : ∀ A2 V2 S2 T, GRW A V A2 V2 S S2 → HS A2 V2 S2 → V2 (cS h k) → CPT A2 (cS h k) S2 T → CPC A2 (cS h k) d S2 T → Q (sI T 501 (A2 (cP h)) (nI (k + 1)))) : wp_X5_push n (A (cP h)) (A d) S mc ms Q := by
  unfold wp_X5_push
  rw [hc, if_neg (fun q => absurd (nI_pos' (show k < 2 ^ 31 by omega)) (Int32.not_le.mpr q))]
  refine ⟨_, hp.2.2.2.2.1, ?_⟩
  rw [hp.2.2.2.2.2.1, if_pos (by simp (disch := omega) only [LIT, ofN, nI_add, pk_mul, ixn, nI_clamp, nI_ltI, nI_leI, nI_eq, Nat.add_zero, Nat.zero_add, Nat.mul_zero, Nat.mul_one, Nat.reduceMul]; exact hk)]
  refine ⟨_, hp.2.2.2.2.1, ?_, ?_⟩
  · rw [hp.2.2.2.2.2.1]; exact ix_nI hk (by decide)
  · rw [nI_clamp (show k < 2 ^ 31 by omega)]
    rcases hp.2.2.2.2.2.2 k hk with ⟨v, q2, q3⟩ | ⟨v, q2⟩
    · rw [q2, if_neg (by simp)]
      exact w_push48 n hs hp hk v hc hd hdd (fun T t1 t2 => hQ A V S T (GRW.rf _ _ _) hs v t1 t2)
    · rw [q2, if_pos rfl]
      refine ⟨_, hp.2.2.2.2.1, by omega, by omega, fun q9 h9 => ⟨6, 57, by omega, by omega, ?_⟩⟩
      refine w_state n h9 (by omega) (by omega) (fun Z T hz hT => ⟨?_, ?_⟩)
      · rw [hT.2.2.1.2.2.2.2.2.1 _ (hs.2.1 _ hp.2.1), hp.2.2.2.2.2.1]
        exact ix_nI hk (by decide)
      · obtain ⟨G1, G2⟩ := hs.grow hp hk v hT
        subst hz
        have hp2 := PLAY.gr0 (h := h) G1 hh (G2.1 _ hp.1).1
        have eP := (G2.1 _ hp.1).2
        have ed : gA A Z (cS h k) d = A d := (G2.1 _ (hd.1 0 (by decide))).2
        have := w_push48 n (mc := mc - (1 + 6)) (ms := ms - (5 + 57)) (Q := Q) G1 hp2 hk (Or.inr (by omega)) (by rw [eP, G2.2.2.1 _ _ (hs.2.1 _ hp.1), hc]) (hd.gr hs.2.1 G2) hdd (fun T2 t1 t2 => hQ _ _ _ T2 G2 G1 (Or.inr (by omega)) t1 t2)
        rw [eP, ed] at this
        exact this
/-! all of the invariant, grown -/
theorem LAY.gr {A A2 : Nat → Nat} {V V2 : Nat → Prop} {S T : pq_S} (h : LAY A S) (hs : HS A V S) (k : GRW A V A2 V2 S T) : LAY A2 T := by
  have e1 : ∀ e ∈ ly_R, e.1 < 92 ∧ e.2.2 < 92 := by decide
  have e2 : ∀ e ∈ ly_K, e.1 < 92 := by decide
  have e3 : ∀ e ∈ ly_N, e.1 < 92 := by decide
  have e4 : ∀ e ∈ ly_W, e.1 < 92 := by decide
  have eA : ∀ c, c < 92 → A2 c = A c := fun c hc => (k.1 c (hs.2.2.1 c hc)).2
  have eM : ∀ c, c < 92 → A c ∈ pL S := fun c hc => hs.2.1 c (hs.2.2.1 c hc)
  refine ⟨fun e he => ?_, fun e he => ?_, fun e he => ?_, fun e he => ?_, fun i j hi hj e => ?_⟩
  · rw [eA _ (e1 e he).1, eA _ (e1 e he).2, k.2.2.2.2.1 _ _ (eM _ (e1 e he).1)]; exact h.1 e he
  · rw [eA _ (e2 e he)]; exact k.2.1 _ _ (h.2.1 e he)
  · rw [eA _ (e3 e he), k.2.2.2.2.2 _ (eM _ (e3 e he))]; exact h.2.2.1 e he
  · rw [eA _ (e4 e he), k.2.2.1 _ _ (eM _ (e4 e he))]; exact h.2.2.2.1 e he
  · rw [eA _ hi, eA _ hj] at e; exact h.2.2.2.2 i j hi hj e
theorem SCO.gr {g : GH} {A A2 : Nat → Nat} {V V2 : Nat → Prop} {S T : pq_S} {h i : Nat} {st : Nat → Int32} (hh : SCO g A V S h i st) (hl : SLAY A V S (cS h i)) (hs : ∀ c, V c → A c ∈ pL S) (k : GRW A V A2 V2 S T) : SCO g A2 V2 T h i st := ⟨(k.1 _ hh.1).1, hh.2.1, STC.gr hh.2.2 hl.1 hs k⟩
theorem HB.gr {g : GH} {A A2 : Nat → Nat} {V V2 : Nat → Prop} {S T : pq_S} {wk im : Nat} {ps : Nat → Nat → Int32} {iw : Nat → Nat} {is : Nat → Nat → Nat → Int32} (b : HB g A V S wk im ps iw is) (h : HS A V S) (k : GRW A V A2 V2 S T) : HB g A2 V2 T wk im ps iw is := by
  obtain ⟨b1, b2, b3, b4, b5, b6, b7, b8⟩ := b
  have eA : ∀ c, c < 92 → A2 c = A c := fun c hc => (k.1 c (h.2.2.1 c hc)).2
  have eM : ∀ c, c < 92 → A c ∈ pL S := fun c hc => h.2.1 c (h.2.2.1 c hc)
  have kI : ∀ f c, c < 92 → pI T f (A2 c) = pI S f (A c) := fun f c hc => by rw [eA c hc, k.2.2.1 f _ (eM c hc)]
  have kA : ∀ c i, c < 92 → pA T (A2 c) i = pA S (A c) i := fun c i hc => by rw [eA c hc, k.2.2.2.1 _ i (eM c hc)]
  refine ⟨b1, b2, (kI _ _ (by decide)).trans b3, (kI _ _ (by decide)).trans b4, (kI _ _ (by decide)).trans b5, ⟨(kI 501 56 (by decide)).trans b6.1, b6.2.1, fun i hi => ?_⟩, fun i j hi hj => (kA _ _ (by decide)).trans (b7 i j hi hj), fun x hx => ?_⟩
  · have hq : SCO g A V S 0 i (ps i) := b6.2.2 i hi
    exact hq.gr (h.2.2.2.2.2.1.sl (by omega) hq.1).2 h.2.1 k
  · obtain ⟨c1, c2, c3, c4, c5, c6⟩ := b8 x hx
    have hPl : PLAY A V S (x + 1) := PLAY.gr0 h (by omega) c1
    refine ⟨(k.1 _ c1).1, c2, ⟨?_, c3.2.1, fun i hi => ?_⟩, (kA _ _ (by decide)).trans c4, fun j hj => (kA _ _ (by decide)).trans (c5 j hj), fun i j hi hj => (kA _ _ (by decide)).trans (c6 i j hi hj)⟩
    · rw [(k.1 _ c1).2, k.2.2.1 _ _ (h.2.1 _ c1)]; exact c3.1
    · have hq : SCO g A V S (x + 1) i (is x i) := c3.2.2 i hi
      exact hq.gr (hPl.sl (by have := c3.2.1; omega) hq.1).2 h.2.1 k
theorem JG.gr {A A2 : Nat → Nat} {V V2 : Nat → Prop} {g : GH} {S T : pq_S} (h : JG A V g S) (h2 : HS A2 V2 T) (k : GRW A V A2 V2 S T) : JG A2 V2 g T := by
  have hs := h.hi.hs
  have eA : ∀ c, c < 92 → A2 c = A c := fun c hc => (k.1 c (hs.2.2.1 c hc)).2
  have eM : ∀ c, c < 92 → A c ∈ pL S := fun c hc => hs.2.1 c (hs.2.2.1 c hc)
  have kI : ∀ f c, c < 92 → pI T f (A2 c) = pI S f (A c) := fun f c hc => by rw [eA c hc, k.2.2.1 f _ (eM c hc)]
  have kA : ∀ c i, c < 92 → pA T (A2 c) i = pA S (A c) i := fun c i hc => by rw [eA c hc, k.2.2.2.1 _ i (eM c hc)]
  refine ⟨⟨h.lay.gr hs k, h.gb, h.sb, ?_, ?_, STC.gr (V := V) (c := 13) h.sx (fun q hq => hs.2.2.1 _ (by omega)) hs.2.1 k, fun i hi => (kA 80 i (by decide)).trans (h.nw i hi)⟩, ?_, ?_, ?_, ?_⟩
  · obtain ⟨⟨x0, x1, x2, x3, x4, x5⟩, y0, y1, y2, y3⟩ := h.cx
    exact ⟨⟨(kI _ _ (by decide)).trans x0, (kI _ _ (by decide)).trans x1, (kI _ _ (by decide)).trans x2, (kI _ _ (by decide)).trans x3, (kI _ _ (by decide)).trans x4, (kI _ _ (by decide)).trans x5⟩, fun i hi => (kA _ _ (by decide)).trans (y0 i hi), fun i hi => (kA _ _ (by decide)).trans (y1 i hi), fun i hi => (kA _ _ (by decide)).trans (y2 i hi), fun i hi => (kA _ _ (by decide)).trans (y3 i hi)⟩
  · obtain ⟨⟨x0, x1, x2, x3, x4, x5⟩, y0, y1, y2, y3⟩ := h.cm
    exact ⟨⟨(kI _ _ (by decide)).trans x0, (kI _ _ (by decide)).trans x1, (kI _ _ (by decide)).trans x2, (kI _ _ (by decide)).trans x3, (kI _ _ (by decide)).trans x4, (kI _ _ (by decide)).trans x5⟩, fun i hi => (kA _ _ (by decide)).trans (y0 i hi), fun i hi => (kA _ _ (by decide)).trans (y1 i hi), fun i hi => (kA _ _ (by decide)).trans (y2 i hi), fun i hi => (kA _ _ (by decide)).trans (y3 i hi)⟩
  · intro w hw
    obtain ⟨h1, h2, h3, h4, h5⟩ := h.2.1 w hw
    exact ⟨h1, (kI _ _ (by omega)).trans h2, (kA _ _ (by decide)).trans h3, fun q hq => ⟨(h4 q hq).1, (kA _ _ (by omega)).trans (h4 q hq).2.1, (kA _ _ (by decide)).trans (h4 q hq).2.2.1, (kA _ _ (by decide)).trans (h4 q hq).2.2.2⟩, h5⟩
  · obtain ⟨h1, h2, h3, h4, h5, h6⟩ := h.2.2.1
    exact ⟨⟨h1.1, (kA 59 0 (by decide)).trans h1.2.1, (kA 59 1 (by decide)).trans h1.2.2⟩, (kI _ _ (by decide)).trans h2, (kI _ _ (by decide)).trans h3, fun i hi => ⟨(h4 i hi).1, (h4 i hi).2.1, (kA _ _ (by decide)).trans (h4 i hi).2.2.1, (kA _ _ (by decide)).trans (h4 i hi).2.2.2.1, (kA _ _ (by decide)).trans (h4 i hi).2.2.2.2⟩, h5, fun p hp hq => (kA _ _ (by decide)).trans (h6 p hp hq)⟩
  · obtain ⟨h1, h2, h3, h4, tp, h5, h6, h7, h8⟩ := h.tp
    refine ⟨?_, ?_, ?_, ?_, tp, h5, (kI _ _ (by decide)).trans h6, (kI _ _ (by decide)).trans h7, fun i hi => ?_⟩
    · rw [kI _ _ (by decide), kI _ _ (by decide), h1]
    · rw [kI _ _ (by decide), kA _ _ (by decide), h2]
    · rw [kI _ _ (by decide), kA _ _ (by decide), h3]
    · rw [kI _ _ (by decide), kI _ _ (by decide), h4]
    · obtain ⟨b, hb, e1, e2⟩ := h8 i hi
      exact ⟨b, hb, (kA _ _ (by decide)).trans e1, (kA _ _ (by decide)).trans e2⟩
  · obtain ⟨_, _, _, _, _, _, _, wk, im, ps, iw, is, b⟩ := h.hi
    exact h2.mk (HB.gr (show HB g A V S wk im ps iw is from b) hs k)
