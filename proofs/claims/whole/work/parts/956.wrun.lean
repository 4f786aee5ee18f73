/-! work: the run, from the state that the push leaves -/
def wzF : List Nat := fmF2 ++ rmG ++ [1241, 1242]
def wzA : List Nat := fmA ++ rmA ++ [79, 80, 82]
def WR3 (A b : Nat → Nat) (n z R wk : Nat) (g : GH) (U : pq_S) : Prop := ∀ Z, LAY A Z → (∀ i, pA Z (A 62) i = pA U (A 62) i) → pI Z 1202 (A 60) = pI U 1202 (A 60) → pI Z 1224 (A 60) = nI (gP g) → pI Z 1225 (A 60) = nI (gW g) → pI Z 1226 (A 60) = nI (gM g) → pI Z 1241 (A 60) = nI wk → ∃ T p, m_X12_work n (A 60) (nI z) Z = b_X12_work_89 n (A 60) T ∧ FXn A Z T ∧ pI T 1202 (A 60) = 0 ∧ pI T 1200 (A 60) = 0 ∧ MF A b z T p ∧ pI T 1240 (A 60) = nI (5 * R) ∧ BL (pA U (A 38)) (pA T (A 78)) (gP g) (gW g) (gM g) 6 0 R
section
variable {A A2 b : Nat → Nat} {V V2 : Nat → Prop} {g : GH} {n z : Nat} {S T U : pq_S}
theorem work_go {R wk : Nat} {Z : pq_S} (hn : 20000 ≤ n) (hR : R ≤ 25) (hwk : wk < 16) (hx : XV g A U (gst g)) (lwU : LW g U A) (cmU : CM g U A) (h80 : ∀ i, i < 50 → pA U (A 80) i = gst g i) (e41 : pI U 1241 (A 60) = nI wk) (f1 : pI U 601 (A 36) = 0) (f2 : pI U 602 (A 36) = 0) (f3 : pI U 603 (A 36) = 0) (ref : WR3 A b n z R wk g U) (kZ : FX (rxG ++ [1114]) rxP rxA A U Z) : ∃ S43 T43 F st bg x y, (m_runS_d n 64) (A 36) (A 3) (nI 0) (nI R) (nI 0) U = some S43 ∧ RK A g x y S43 T43 st bg ∧ FXR A U S43 ∧ m_X12_work n (A 60) (nI z) Z = some (pI T43 1244 (A 60), F) ∧ FX wzF [] wzA A Z F ∧ (∀ i, i < 50 → pA F (A 80) i = st i) ∧ pI F 1242 (A 60) = pI T43 1245 (A 60) ∧ pI F 1241 (A 60) = nI (wk + 1) ∧ (∀ j, j < 50 → pA F (A 82) (50 * wk + j) = gst g j) ∧ (∀ i, i < 50 * wk → pA F (A 82) i = pA Z (A 82) i) ∧ pI F 1202 (A 60) = 0 ∧ pI F 1200 (A 60) = 0 ∧ pI F 1208 (A 60) = -1 := by
  have lU := hx.1
  have lZ := kZ.lay lU (by decide) (by decide)
  have cmZ : CM g Z A := cmU.cg (fun e he => by
    have : e.2 < 92 ∧ e.1 ∉ rxG ++ [1114] ∧ ∀ x ∈ rxP, x.2 < 92 ∧ (e.1 = x.1 → e.2 ≠ x.2) := by revert e; decide
    exact kZ.I lU this.2.1 this.1 this.2.2) (fun c hc i => by
    have : c < 92 ∧ ∀ j ∈ rxA, j < 92 ∧ c ≠ j := by revert c; decide
    exact kZ.W lU this.1 this.2 i)
  have lwZ : LW g Z A := lwU.cg (fun e he => by
    have : e.2 < 92 ∧ e.1 ∉ rxG ++ [1114] ∧ ∀ x ∈ rxP, x.2 < 92 ∧ (e.1 = x.1 → e.2 ≠ x.2) := by revert e; decide
    exact kZ.I lU this.2.1 this.1 this.2.2) (fun c hc i => by
    have : c < 92 ∧ ∀ j ∈ rxA, j < 92 ∧ c ≠ j := by revert c; decide
    exact kZ.W lU this.1 this.2 i)
  obtain ⟨T, p, a1, a2, a3, a4, a5, a6, a7⟩ := ref Z lZ (fun i => kZ.W lU (by decide) (by decide) i) (kZ.I lU (by decide) (by decide) (by decide)) cmZ.1.1 cmZ.1.2.1 cmZ.1.2.2.1 (by rw [kZ.I lU (by decide) (by decide) (by decide)]; exact e41)
  have lT := a2.lay lZ (by decide) (by decide)
  have cmT : CM g T A := cmZ.cg (fun e he => by
    have : e.2 < 92 ∧ e.1 ∉ fmF2 := by revert e; decide
    exact a2.I lZ this.2 this.1 (by simp)) (fun c hc i => by
    have : c < 92 ∧ ∀ j ∈ fmA, j < 92 ∧ c ≠ j := by revert c; decide
    exact a2.W lZ this.1 this.2 i)
  have lwT : LW g T A := lwZ.cg (fun e he => by
    have : e.2 < 92 ∧ e.1 ∉ fmF2 := by revert e; decide
    exact a2.I lZ this.2 this.1 (by simp)) (fun c hc i => by
    have : c < 92 ∧ ∀ j ∈ fmA, j < 92 ∧ c ≠ j := by revert c; decide
    exact a2.W lZ this.1 this.2 i)
  have eT41 : pI T 1241 (A 60) = nI wk := by rw [a2.I lZ (by decide) (by decide) (by decide), kZ.I lU (by decide) (by decide) (by decide)]; exact e41
  have eT80 : ∀ i, i < 50 → pA T (A 80) i = gst g i := fun i hi => by rw [a2.W lZ (by decide) (by decide), kZ.W lU (by decide) (by decide)]; exact h80 i hi
  obtain ⟨T2, c1, c2, c3, c4, ⟨c5, c6, c7⟩, c8, c9, c10, c11, c12⟩ := r_wgo (n := n) hn lT a5 hR a6 eT41 hwk hx.2.1 hx.2.2.1 cmT lwT eT80
  have lT2 := c3.1
  have hB : BL (pA U (A 38)) (pA T2 (A 79)) (gP g) (gW g) (gM g) 6 0 R := BL.cg 6 0 R a7 (fun i _ hi => ⟨rfl, c8 i hi⟩)
  have rk : RK A g (pA U (A 38)) (pA T2 (A 79)) U T2 (gst g) 0 := ⟨hx, c3, lwU, c4, ⟨f1, c5, by decide⟩, by rw [f2, c6], by rw [f3, c7], fun _ _ => rfl, fun _ _ => rfl⟩
  obtain ⟨S43, T43, st, bg, d1, d2, d3, d4, d5⟩ := r_all (A := A) (n := n) (g := g) (x := pA U (A 38)) (y := pA T2 (A 79)) hn 6 0 (by decide) 64 64 0 R U T2 (gst g) 0 (by decide) (by decide) hR (Nat.zero_le _) hB rk
  obtain ⟨F, w1, w2, w3, w4⟩ := r_wend (n := n) hn d3.2.1
  have l43 := d3.2.1.1
  have k1 : FX wzF [] wzA A Z T2 := (a2.mono (by decide) (by decide) (by decide)).tr (c2.mono (by decide) (by decide) (by decide))
  have k2 : FX wzF [] wzA A Z T43 := k1.tr (d5.mono (by decide) (by decide) (by decide))
  have k3 : FX wzF [] wzA A Z F := k2.tr (w2.mono (by decide) (by decide) (by decide))
  refine ⟨S43, T43, F, st, bg, _, _, d1, d3, d4, ?_, k3, w3, w4, ?_, fun j hj => ?_, fun i hi => ?_, ?_, ?_, ?_⟩
  · rw [a1, c1, d2]; exact w1
  · rw [w2.I l43 (by decide) (by decide) (by decide), d5.I lT2 (by decide) (by decide) (by decide)]; exact c9
  · rw [w2.W l43 (by decide) (by decide), d5.W lT2 (by decide) (by decide)]; exact c10 j hj
  · rw [w2.W l43 (by decide) (by decide), d5.W lT2 (by decide) (by decide), c11 i hi, a2.W lZ (by decide) (by decide)]
  · rw [w2.I l43 (by decide) (by decide) (by decide), d5.I lT2 (by decide) (by decide) (by decide), c2.I lT (by decide) (by decide) (by decide)]; exact a3
  · rw [w2.I l43 (by decide) (by decide) (by decide), d5.I lT2 (by decide) (by decide) (by decide), c2.I lT (by decide) (by decide) (by decide)]; exact a4
  · rw [w2.I l43 (by decide) (by decide) (by decide), d5.I lT2 (by decide) (by decide) (by decide)]; exact c12
theorem work_run {Se X : pq_S} {R wk im : Nat} {ps : Nat → Nat → Int32} {iw : Nat → Nat} {is : Nat → Nat → Nat → Int32} (hn : 20000 ≤ n) (hR : R ≤ 25) (h : JG A V g X) (hX : FX [1208, 1202] [] [] A Se X) (b' : HB g A V X wk im ps iw is) (hwk : wk < 16) (hsU : HS A2 V2 U) (Fr : FRH 0 A V A2 V2 Se U) (h5 : pI U 501 (A2 56) = nI (wk + 1)) (hp : ∀ i, i < wk → SCO g A2 V2 U 0 i (ps i)) (hl : SCO g A2 V2 U 0 wk (gst g)) (f1 : pI Se 601 (A 36) = 0) (f2 : pI Se 602 (A 36) = 0) (f3 : pI Se 603 (A 36) = 0) (u1 : pI Se 1113 (A 0) = -1) (u2 : pI Se 1001 (A 1) = 0) (ref : WR3 A b n z R wk g U) : ∃ S43, (m_runS_d n 64) (A 36) (A 3) (nI 0) (nI R) (nI 0) U = some S43 ∧ LAY A S43 ∧ ∃ F st, m_X12_work n (A 60) (nI z) (sI S43 1114 (A 0) (pI S43 603 (A 36))) = some (pI S43 602 (A 36), F) ∧ pI F 1200 (A 60) = 0 ∧ JG A2 V2 (gS g st) F := by
  have hs := h.hi.hs
  have hV := hs.2.2.1
  have eA : ∀ c, c < 92 → A2 c = A c := fun c hc => (Fr.1 c (hV c hc)).2
  have lSe : LAY A Se := h.lay.eqv hX.1.1.symm hX.1.2.1.symm hX.1.2.2.1.symm hX.1.2.2.2.1.symm (fun a => (hX.2.1 901 a (by decide) (by simp)).symm)
  have lU2 : LAY A2 U := lSe.fr hV Fr
  have lU : LAY A U := lU2.a2 (fun c hc => (eA c hc).symm)
  have iS : ∀ f c, c < 92 → f ≠ 501 → pI U f (A c) = pI Se f (A c) := fun f c hc q1 => Fr.2.2.1 f c (hV c hc) (fun z => q1 z.1) (cS_no hc)
  have iU : ∀ f c, c < 92 → f ≠ 501 → f ≠ 1208 → f ≠ 1202 → pI U f (A c) = pI X f (A c) := fun f c hc q1 q2 q3 => by
    rw [iS f c hc q1, hX.2.1 f _ (by simp [q2, q3]) (by simp)]
  have aU : ∀ c i, c < 92 → pA U (A c) i = pA X (A c) i := fun c i hc => by
    rw [Fr.2.2.2.1 c i (hV c hc) (cS_no hc), hX.2.2 _ _ (by simp)]
  have cx : CX g U A := h.cx.cg (fun e he => by
    have : e.2 < 92 ∧ e.1 ≠ 501 ∧ e.1 ≠ 1208 ∧ e.1 ≠ 1202 := by revert e; decide
    exact iU _ _ this.1 this.2.1 this.2.2.1 this.2.2.2) (fun c hc i => by
    have : c < 92 := by revert c; decide
    exact aU c i this)
  have cm : CM g U A := h.cm.cg (fun e he => by
    have : e.2 < 92 ∧ e.1 ≠ 501 ∧ e.1 ≠ 1208 ∧ e.1 ≠ 1202 := by revert e; decide
    exact iU _ _ this.1 this.2.1 this.2.2.1 this.2.2.2) (fun c hc i => by
    have : c < 92 := by revert c; decide
    exact aU c i this)
  have lw : LW g U A := h.2.1.cg (fun e he => by
    have : e.2 < 92 ∧ e.1 ≠ 501 ∧ e.1 ≠ 1208 ∧ e.1 ≠ 1202 := by revert e; decide
    exact iU _ _ this.1 this.2.1 this.2.2.1 this.2.2.2) (fun c hc i => by
    have : c < 92 := by revert c; decide
    exact aU c i this)
  have kI : ∀ f c, c < 92 → f ≠ 501 ∧ f ≠ 1208 ∧ f ≠ 1202 → pI U f (A c) = pI X f (A c) := fun f c hc q => iU f c hc q.1 q.2.1 q.2.2
  have hx : XV g A U (gst g) := ⟨lU, h.gb, h.sb, cx, h.sx.cg (kI _ _ (by decide) (by decide)) (kI _ _ (by decide) (by decide)) (kI _ _ (by decide) (by decide)) (kI _ _ (by decide) (by decide)) (kI _ _ (by decide) (by decide)) (fun i => aU 15 i (by decide)) (fun i => aU 17 i (by decide)) (fun i => aU 19 i (by decide))⟩
  have h80 : ∀ i, i < 50 → pA U (A 80) i = gst g i := fun i hi => by rw [aU 80 i (by decide)]; exact h.1.2.2.2.2.2.2 i hi
  have e41 : pI U 1241 (A 60) = nI wk := by rw [kI 1241 60 (by decide) (by decide)]; exact b'.2.2.1
  have g1 : pI U 601 (A 36) = 0 := by rw [iS 601 36 (by decide) (by decide)]; exact f1
  have g2 : pI U 602 (A 36) = 0 := by rw [iS 602 36 (by decide) (by decide)]; exact f2
  have g3 : pI U 603 (A 36) = 0 := by rw [iS 603 36 (by decide) (by decide)]; exact f3
  have go := fun Z (k : FX (rxG ++ [1114]) rxP rxA A U Z) => work_go (n := n) hn hR hwk hx lw cm h80 e41 g1 g2 g3 ref k
  obtain ⟨S43, _, _, _, _, _, _, o1, _, o3, _⟩ := go U (FX.rf _ _ _ _ _)
  have kZ : FX (rxG ++ [1114]) rxP rxA A U (sI S43 1114 (A 0) (pI S43 603 (A 36))) := (o3.mono (by decide) (by decide) (by decide)).wI (by decide)
  have lZ := kZ.lay lU (by decide) (by decide)
  have l43 := o3.lay lU (by decide) (by decide)
  obtain ⟨S', T43, F, st, bg, x, y, p1, p2, p3, p4, p5, p6, p7, p8, p9, p10, p11, p12, p13⟩ := go _ kZ
  obtain rfl : S43 = S' := Option.some.inj (o1.symm.trans p1)
  refine ⟨S43, o1, l43, F, st, by rw [p4, p2.2.2.2.2.2.1], p12, ?_⟩
  have kF : FX wkF rxP wkA A U F := (kZ.mono (by decide) (by decide) (by decide)).tr (p5.mono (by decide) (by decide) (by decide))
  have sx := p2.1.2.2.2.2
  have q902 : ∀ c, c < 92 → pI F 902 (A c) = pI S43 902 (A c) := fun c hc => by rw [p5.I lZ (by decide) hc (by simp), pI_n (by decide)]
  have q803 : pI F 803 (A 13) = pI S43 803 (A 13) := by rw [p5.I lZ (by decide) (by decide) (by simp), pI_n (by decide)]
  have q804 : pI F 804 (A 13) = pI S43 804 (A 13) := by rw [p5.I lZ (by decide) (by decide) (by simp), pI_n (by decide)]
  refine work_end h hX b' hwk hsU Fr h5 hp hl (kF.a2 eA (by decide) (by decide)) p2.1.2.2.1 ?_ ?_ ?_ ?_ ?_ ?_ ?_ ?_ ?_
  · show STX g F (A2 13) (A2 14) (A2 16) (A2 18) (A2 15) (A2 17) (A2 19) st
    rw [eA 13 (by decide), eA 14 (by decide), eA 16 (by decide), eA 18 (by decide), eA 15 (by decide), eA 17 (by decide), eA 19 (by decide)]
    exact sx.cg (q902 _ (by decide)) (q902 _ (by decide)) (q902 _ (by decide)) q803 q804 (fun i => p5.W lZ (by decide) (by decide) i) (fun i => p5.W lZ (by decide) (by decide) i) (fun i => p5.W lZ (by decide) (by decide) i)
  · rw [eA 80 (by decide)]; exact p6
  · rw [eA 60 (by decide)]; exact p8
  · rw [eA 0 (by decide), eA 60 (by decide), p5.I lZ (by decide) (by decide) (by simp), pI_e, p7]
    exact p2.2.2.2.2.2.2.1
  · rw [eA 82 (by decide)]; exact p9
  · intro i hi
    rw [eA 82 (by decide), p10 i hi, kZ.W lU (by decide) (by decide)]
  · rw [eA 0 (by decide), eA 60 (by decide), p13, kF.I lU (by decide) (by decide) (by decide), iS _ _ (by decide) (by decide)]; exact u1
  · rw [eA 1 (by decide), kF.I lU (by decide) (by decide) (by decide), iS _ _ (by decide) (by decide)]; exact u2
  · rw [eA 60 (by decide)]; exact p11
end
