/-! work: what stands behind it -/
def wkF : List Nat := rxG ++ [1114] ++ fmF2 ++ rmG ++ [1241, 1242]
def wkA : List Nat := rxA ++ fmA ++ rmA ++ [79, 80, 82]
section
variable {A A2 : Nat → Nat} {V V2 : Nat → Prop} {g : GH} {n : Nat} {S T U : pq_S}
theorem FX.kvl {F : List Nat} {P : List (Nat × Nat)} {AA : List Nat} (k : FX F P AA A S T) (hs : HS A V S) (hP : ∀ e ∈ P, e.2 < 92) (hA : ∀ j ∈ AA, j < 92) : KVL F P AA A V S T := by
  have hV := hs.2.2.1
  refine ⟨fun f c hc q1 q2 => k.2.1 f _ q1 (fun e he q z => q2 ?_), fun c i hc q => k.2.2 _ i (fun j hj z => q ?_), fun f c _ _ => by rw [k.1.2.2.1], fun c _ => by rw [k.1.2.2.2.1], fun c i _ => by rw [k.1.2.2.2.2], fun a q x => ⟨by rw [k.1.1]; exact x.1, by rw [k.1.2.1]; exact x.2⟩⟩
  · have := hs.1 c e.2 hc (hV _ (hP e he)) z
    rw [q, this]
    exact he
  · rw [hs.1 c j hc (hV _ (hA j hj)) z]
    exact hj
theorem LAY.a2 (h : LAY A S) (e : ∀ c, c < 92 → A2 c = A c) : LAY A2 S := by
  have e1 : ∀ e ∈ ly_R, e.1 < 92 ∧ e.2.2 < 92 := by decide
  have e2 : ∀ e ∈ ly_K, e.1 < 92 := by decide
  have e3 : ∀ e ∈ ly_N, e.1 < 92 := by decide
  have e4 : ∀ e ∈ ly_W, e.1 < 92 := by decide
  refine ⟨fun x hx => ?_, fun x hx => ?_, fun x hx => ?_, fun x hx => ?_, fun i j hi hj q => ?_⟩
  · rw [e _ (e1 x hx).1, e _ (e1 x hx).2]; exact h.1 x hx
  · rw [e _ (e2 x hx)]; exact h.2.1 x hx
  · rw [e _ (e3 x hx)]; exact h.2.2.1 x hx
  · rw [e _ (e4 x hx)]; exact h.2.2.2.1 x hx
  · rw [e _ hi, e _ hj] at q; exact h.2.2.2.2 i j hi hj q
theorem CX.a2 (h : CX g S A) (e : ∀ c, c < 92 → A2 c = A c) : CX g S A2 := by
  unfold CX
  rw [e 5 (by decide), e 7 (by decide), e 9 (by decide), e 11 (by decide), e 4 (by decide), e 6 (by decide), e 8 (by decide), e 10 (by decide), e 12 (by decide)]
  exact h
theorem CM.a2 (h : CM g S A) (e : ∀ c, c < 92 → A2 c = A c) : CM g S A2 := by
  unfold CM
  rw [e 60 (by decide), e 67 (by decide), e 68 (by decide), e 69 (by decide), e 70 (by decide)]
  exact h
theorem LW.a2 (h : LW g S A) (e : ∀ c, c < 92 → A2 c = A c) : LW g S A2 := by
  intro w hw
  rw [e (20 + 4 * w) (by omega), e 75 (by decide), e (21 + 4 * w) (by omega), e 73 (by decide), e 74 (by decide)]
  exact h w hw
theorem BOOK.a2 (h : BOOK g S A) (e : ∀ c, c < 92 → A2 c = A c) : BOOK g S A2 := by
  unfold BOOK LKR
  rw [e 52 (by decide), e 60 (by decide), e 84 (by decide), e 53 (by decide), e 59 (by decide)]
  exact h
theorem TAPE.a2 (h : TAPE S A) (e : ∀ c, c < 92 → A2 c = A c) : TAPE S A2 := by
  unfold TAPE
  rw [e 0 (by decide), e 60 (by decide), e 61 (by decide), e 1 (by decide), e 62 (by decide), e 2 (by decide)]
  exact h
theorem FX.a2 {F : List Nat} {P : List (Nat × Nat)} {AA : List Nat} (k : FX F P AA A S T) (e : ∀ c, c < 92 → A2 c = A c) (hP : ∀ e ∈ P, e.2 < 92) (hA : ∀ j ∈ AA, j < 92) : FX F P AA A2 S T := ⟨k.1, fun f a q1 q2 => k.2.1 f a q1 (fun x hx q => by rw [← e _ (hP x hx)]; exact q2 x hx q), fun a i q => k.2.2 a i (fun j hj => by rw [← e _ (hA j hj)]; exact q j hj)⟩
theorem work_end {Se X F : pq_S} {st : Nat → Int32} {wk im : Nat} {ps : Nat → Nat → Int32} {iw : Nat → Nat} {is : Nat → Nat → Nat → Int32} (h : JG A V g X) (hX : FX [1208, 1202] [] [] A Se X) (b : HB g A V X wk im ps iw is) (hwk : wk < 16) (hsU : HS A2 V2 U) (Fr : FRH 0 A V A2 V2 Se U) (h5 : pI U 501 (A2 56) = nI (wk + 1)) (hp : ∀ i, i < wk → SCO g A2 V2 U 0 i (ps i)) (hl : SCO g A2 V2 U 0 wk (gst g)) (kF : FX wkF rxP wkA A2 U F) (hsb : SB g st) (h13 : STC g A2 F 13 st) (h80 : ∀ i, i < 50 → pA F (A2 80) i = st i) (e1 : pI F 1241 (A2 60) = nI (wk + 1)) (e2 : pI F 1114 (A2 0) = pI F 1242 (A2 60)) (row : ∀ j, j < 50 → pA F (A2 82) (50 * wk + j) = gst g j) (old : ∀ i, i < 50 * wk → pA F (A2 82) i = pA U (A2 82) i) (t1 : pI F 1113 (A2 0) = pI F 1208 (A2 60)) (t2 : pI F 1001 (A2 1) = 0) (t3 : pI F 1202 (A2 60) = 0) : JG A2 V2 (gS g st) F := by
  have hs := h.hi.hs
  have hV := hs.2.2.1
  have eA : ∀ c, c < 92 → A2 c = A c := fun c hc => (Fr.1 c (hV c hc)).2
  have lSe : LAY A Se := h.lay.eqv hX.1.1.symm hX.1.2.1.symm hX.1.2.2.1.symm hX.1.2.2.2.1.symm (fun a => (hX.2.1 901 a (by decide) (by simp)).symm)
  have hsSe : HS A V Se := hs.eqv hX.1.1.symm hX.1.2.1.symm hX.1.2.2.1.symm hX.1.2.2.2.1.symm hX.1.2.2.2.2.symm
  have lU2 : LAY A2 U := lSe.fr hV Fr
  have lU : LAY A U := lU2.a2 (fun c hc => (eA c hc).symm)
  have lF2 : LAY A2 F := kF.lay lU2 (by decide) (by decide)
  have kFA : FX wkF rxP wkA A U F := kF.a2 (fun c hc => (eA c hc).symm) (by decide) (by decide)
  have iU : ∀ f c, c < 92 → f ≠ 501 → f ≠ 1208 → f ≠ 1202 → pI U f (A c) = pI X f (A c) := fun f c hc q1 q2 q3 => by
    rw [Fr.2.2.1 f c (hV c hc) (fun z => q1 z.1) (cS_no hc), hX.2.1 f _ (by simp [q2, q3]) (by simp)]
  have aU : ∀ c i, c < 92 → pA U (A c) i = pA X (A c) i := fun c i hc => by
    rw [Fr.2.2.2.1 c i (hV c hc) (cS_no hc), hX.2.2 _ _ (by simp)]
  have iF : ∀ f c, c < 92 → f ∉ wkF → f ≠ 501 → f ≠ 1208 → f ≠ 1202 → (∀ x ∈ rxP, x.2 < 92 ∧ (f = x.1 → c ≠ x.2)) → pI F f (A c) = pI X f (A c) := fun f c hc q0 q1 q2 q3 q4 => by
    rw [kFA.I lU q0 hc q4, iU f c hc q1 q2 q3]
  have aF : ∀ c i, c < 92 → (∀ j ∈ wkA, j < 92 ∧ c ≠ j) → pA F (A c) i = pA X (A c) i := fun c i hc q => by
    rw [kFA.W lU hc q, aU c i hc]
  have cx : CX g F A := h.cx.cg (fun e he => by
    have : e.2 < 92 ∧ e.1 ∉ wkF ∧ e.1 ≠ 501 ∧ e.1 ≠ 1208 ∧ e.1 ≠ 1202 ∧ ∀ x ∈ rxP, x.2 < 92 ∧ (e.1 = x.1 → e.2 ≠ x.2) := by revert e; decide
    exact iF _ _ this.1 this.2.1 this.2.2.1 this.2.2.2.1 this.2.2.2.2.1 this.2.2.2.2.2) (fun c hc i => by
    have : c < 92 ∧ ∀ j ∈ wkA, j < 92 ∧ c ≠ j := by revert c; decide
    exact aF c i this.1 this.2)
  have cm : CM g F A := h.cm.cg (fun e he => by
    have : e.2 < 92 ∧ e.1 ∉ wkF ∧ e.1 ≠ 501 ∧ e.1 ≠ 1208 ∧ e.1 ≠ 1202 ∧ ∀ x ∈ rxP, x.2 < 92 ∧ (e.1 = x.1 → e.2 ≠ x.2) := by revert e; decide
    exact iF _ _ this.1 this.2.1 this.2.2.1 this.2.2.2.1 this.2.2.2.2.1 this.2.2.2.2.2) (fun c hc i => by
    have : c < 92 ∧ ∀ j ∈ wkA, j < 92 ∧ c ≠ j := by revert c; decide
    exact aF c i this.1 this.2)
  have lw : LW g F A := h.2.1.cg (fun e he => by
    have : e.2 < 92 ∧ e.1 ∉ wkF ∧ e.1 ≠ 501 ∧ e.1 ≠ 1208 ∧ e.1 ≠ 1202 ∧ ∀ x ∈ rxP, x.2 < 92 ∧ (e.1 = x.1 → e.2 ≠ x.2) := by revert e; decide
    exact iF _ _ this.1 this.2.1 this.2.2.1 this.2.2.2.1 this.2.2.2.2.1 this.2.2.2.2.2) (fun c hc i => by
    have : c < 92 ∧ ∀ j ∈ wkA, j < 92 ∧ c ≠ j := by revert c; decide
    exact aF c i this.1 this.2)
  have bk : BOOK g F A := h.2.2.1.cg (fun e he => by
    have : e.2 < 92 ∧ e.1 ∉ wkF ∧ e.1 ≠ 501 ∧ e.1 ≠ 1208 ∧ e.1 ≠ 1202 ∧ ∀ x ∈ rxP, x.2 < 92 ∧ (e.1 = x.1 → e.2 ≠ x.2) := by revert e; decide
    exact iF _ _ this.1 this.2.1 this.2.2.1 this.2.2.2.1 this.2.2.2.2.1 this.2.2.2.2.2) (fun c hc i => by
    have : c < 92 ∧ ∀ j ∈ wkA, j < 92 ∧ c ≠ j := by revert c; decide
    exact aF c i this.1 this.2)
  have tpA : TAPE F A := by
    refine tape0 h.tp ?_ ?_ ?_ (fun i => ?_) ?_ ?_ ?_
    · rw [← eA 0 (by decide), ← eA 60 (by decide)]; exact t1
    · exact iF _ _ (by decide) (by decide) (by decide) (by decide) (by decide) (by decide)
    · exact iF _ _ (by decide) (by decide) (by decide) (by decide) (by decide) (by decide)
    · exact aF _ _ (by decide) (by decide)
    · rw [← eA 0 (by decide), ← eA 60 (by decide)]; exact e2
    · rw [← eA 1 (by decide)]; exact t2
    · rw [← eA 60 (by decide)]; exact t3
  have hsF : HS A2 V2 F := hsU.eqv kF.1.1 kF.1.2.1 kF.1.2.2.1 kF.1.2.2.2.1 kF.1.2.2.2.2
  have kv : KVL wkF rxP wkA A2 V2 U F := kF.kvl hsU (by decide) (by decide)
  have hP92 : ∀ e ∈ rxP, e.2 < 92 := by decide
  have hA92 : ∀ j ∈ wkA, j < 92 := by decide
  have SE : ∀ y i st', i < 17 → y ≤ 3 → V2 (cP y) → SCO g A2 V2 U y i st' → SCO g A2 V2 F y i st' := fun y i st' hi hy hv q => q.kv ((PLAY.gr0 hsU hy hv).sl hi q.1).2 kv (by decide) (fun f r _ z => by have := hP92 _ z; have := cS_big y i; omega) (fun r _ z => by have := hA92 _ z; have := cS_big y i; omega)
  have v56 : V2 (cP 0) := hsU.2.2.1 56 (by decide)
  obtain ⟨b1, b2, b3, b4, b5, b6, b7, b8⟩ := b
  refine ⟨⟨lF2, h.gb, hsb, cx.a2 eA, cm.a2 eA, h13, h80⟩, lw.a2 eA, bk.a2 eA, tpA.a2 eA, ?_⟩
  refine hsF.mk (g := gS g st) (wk := wk + 1) (im := im) (ps := fun i => if i = wk then gst g else ps i) (iw := iw) (is := is) ⟨by omega, b2, e1, ?_, ?_, ⟨?_, by omega, fun i hi => ?_⟩, fun i j hi hj => ?_, fun x hx => ?_⟩
  · rw [eA 0 (by decide), iF _ _ (by decide) (by decide) (by decide) (by decide) (by decide) (by decide)]; exact b4
  · rw [eA 60 (by decide), iF _ _ (by decide) (by decide) (by decide) (by decide) (by decide) (by decide)]; exact b5
  · show pI F 501 (A2 56) = _
    rw [kF.I lU2 (by decide) (by decide) (by decide)]; exact h5
  · show SCO g A2 V2 F 0 i (if i = wk then gst g else ps i)
    by_cases e : i = wk
    · subst e; rw [if_pos rfl]; exact SE 0 _ _ (by omega) (by decide) v56 hl
    · rw [if_neg e]; exact SE 0 _ _ (by omega) (by decide) v56 (hp i (by omega))
  · show _ = (if i = wk then gst g else ps i) j
    by_cases e : i = wk
    · subst e; rw [if_pos rfl]; exact row j hj
    · rw [if_neg e, old _ (by omega), eA 82 (by decide), aU 82 _ (by decide)]; exact b7 i j (by omega) hj
  · obtain ⟨c1, c2, c3, c4, c5, c6⟩ := b8 x hx
    have hPl : PLAY A V X (x + 1) := PLAY.gr0 hs (by omega) c1
    have hPs : PLAY A V Se (x + 1) := PLAY.gr0 hsSe (by omega) c1
    have v1 : V2 (cP (x + 1)) := (Fr.1 _ c1).1
    refine ⟨v1, c2, ⟨?_, c3.2.1, fun i hi => ?_⟩, ?_, fun j hj => ?_, fun i j hi hj => ?_⟩
    · rw [kv.1 501 _ v1 (by decide) (fun z => by have := hP92 _ z; have := cP_big x; omega), (Fr.1 _ c1).2, Fr.2.2.1 _ _ c1 (fun z => by have := cP_ne z.2; omega) (fun i q _ _ => cP_S (by omega)), ← hX.2.1 501 _ (by decide) (by simp)]
      exact c3.1
    · have q : SCO g A V X (x + 1) i (is x i) := c3.2.2 i hi
      have h17 := c3.2.1
      have q2 : SCO g A V Se (x + 1) i (is x i) := q.eq (fun f a hf => (hX.2.1 f a (by rcases hf with rfl | rfl | rfl <;> decide) (by simp)).symm) (fun r l _ => (hX.2.2 _ _ (by simp)).symm)
      exact SE (x + 1) i _ (by omega) (by omega) v1 (q2.fr (hPs.sl (by omega) q2.1).2 (by omega) (by omega) Fr (by omega))
    · rw [eA 91 (by decide), aF _ _ (by decide) (by decide)]; exact c4
    · rw [eA 91 (by decide), aF _ _ (by decide) (by decide)]; exact c5 j hj
    · rw [eA 91 (by decide), aF _ _ (by decide) (by decide)]; exact c6 i j hi hj
end
