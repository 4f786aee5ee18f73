/-! frames of a text's reading, its begin and its end -/
def FX (F : List Nat) (P : List (Nat × Nat)) (AA : List Nat) (A : Nat → Nat) (S T : pq_S) : Prop := (pL T = pL S ∧ pK T = pK S ∧ pR T = pR S ∧ pN T = pN S ∧ pQ T = pQ S) ∧ (∀ f a, f ∉ F → (∀ e ∈ P, f = e.1 → a ≠ A e.2) → pI T f a = pI S f a) ∧ ∀ a i, (∀ j ∈ AA, a ≠ A j) → pA T a i = pA S a i
section
variable {F : List Nat} {P : List (Nat × Nat)} {AA : List Nat} {A : Nat → Nat} {S T U : pq_S}
theorem FX.rf (F : List Nat) (P : List (Nat × Nat)) (AA : List Nat) (A : Nat → Nat) (S : pq_S) : FX F P AA A S S := ⟨⟨rfl, rfl, rfl, rfl, rfl⟩, fun _ _ _ _ => rfl, fun _ _ _ => rfl⟩
theorem FX.tr (h : FX F P AA A S T) (k : FX F P AA A T U) : FX F P AA A S U := ⟨⟨k.1.1.trans h.1.1, k.1.2.1.trans h.1.2.1, k.1.2.2.1.trans h.1.2.2.1, k.1.2.2.2.1.trans h.1.2.2.2.1, k.1.2.2.2.2.trans h.1.2.2.2.2⟩, fun f a q1 q2 => (k.2.1 f a q1 q2).trans (h.2.1 f a q1 q2), fun a i q => (k.2.2 a i q).trans (h.2.2 a i q)⟩
theorem FX.wI (h : FX F P AA A S T) {f a : Nat} {v : Int32} (hf : f ∈ F) : FX F P AA A S (sI T f a v) := ⟨h.1, fun f1 a1 q1 q2 => by
  rw [pI_sI, if_neg (fun (q : f1 = f ∧ a1 = a) => q1 (q.1 ▸ hf))]
  exact h.2.1 f1 a1 q1 q2, h.2.2⟩
theorem FX.wP (h : FX F P AA A S T) {f i : Nat} {v : Int32} (hf : (f, i) ∈ P) : FX F P AA A S (sI T f (A i) v) := ⟨h.1, fun f1 a1 q1 q2 => by
  rw [pI_sI, if_neg (fun q => q2 (f, i) hf q.1 q.2)]
  exact h.2.1 f1 a1 q1 q2, h.2.2⟩
theorem FX.wA (h : FX F P AA A S T) {j i : Nat} {v : Int32} (hf : j ∈ AA) : FX F P AA A S (sA T (A j) i v) := ⟨h.1, h.2.1, fun a1 i1 q => by
  rw [pA_sA, if_neg (fun z => q j hf z.1)]
  exact h.2.2 a1 i1 q⟩
theorem FX.wF (h : FX F P AA A S T) {j : Nat} {u : Nat → Int32} (hf : j ∈ AA) : FX F P AA A S (sF T (A j) u) := ⟨h.1, h.2.1, fun a1 i1 q => by
  rw [pA_sF, if_neg (fun z => q j hf z)]
  exact h.2.2 a1 i1 q⟩
theorem FX.mono {F2 : List Nat} {P2 : List (Nat × Nat)} {A2 : List Nat} (h : FX F P AA A S T) (h1 : ∀ f, f ∈ F → f ∈ F2) (h2 : ∀ e, e ∈ P → e ∈ P2) (h3 : ∀ e, e ∈ AA → e ∈ A2) : FX F2 P2 A2 A S T := ⟨h.1, fun f a q1 q2 => h.2.1 f a (fun q => q1 (h1 f q)) (fun e he => q2 e (h2 e he)), fun a i q => h.2.2 a i (fun j hj => q j (h3 j hj))⟩
theorem FX.kpl (h : FX F P AA A S T) : KPL F P AA A S T := ⟨fun a k q => ⟨by rw [h.1.1]; exact q.1, by rw [h.1.2.1]; exact q.2⟩, fun f a _ _ => by rw [h.1.2.2.1], fun a _ => by rw [h.1.2.2.2.1], fun a i _ => by rw [h.1.2.2.2.2], fun f a q1 q2 _ => h.2.1 f a q1 q2, fun a i _ q _ => h.2.2 a i q, Or.inl (by rw [h.1.2.2.1])⟩
theorem FX.lay (h : FX F P AA A S T) (hl : LAY A S) (h1 : 901 ∉ F) (h2 : ∀ e ∈ P, e.1 ≠ 901) : LAY A T := hl.eqv h.1.1 h.1.2.1 h.1.2.2.1 h.1.2.2.2.1 fun a => h.2.1 901 a h1 (fun e he q => absurd q.symm (h2 e he))
theorem FX.I (h : FX F P AA A S T) (hl : LAY A S) {f c : Nat} (h1 : f ∉ F) (hc : c < 92) (h2 : ∀ e ∈ P, e.2 < 92 ∧ (f = e.1 → c ≠ e.2)) : pI T f (A c) = pI S f (A c) := h.2.1 f _ h1 fun e he q z => (h2 e he).2 q (hl.2.2.2.2 _ _ hc (h2 e he).1 z)
theorem FX.W (h : FX F P AA A S T) (hl : LAY A S) {c : Nat} (hc : c < 92) (h2 : ∀ j ∈ AA, j < 92 ∧ c ≠ j) (i : Nat) : pA T (A c) i = pA S (A c) i := h.2.2 _ _ fun j hj z => (h2 j hj).2 (hl.2.2.2.2 _ _ hc (h2 j hj).1 z)
theorem TT.fx {lo hi : Nat} (h : TT lo hi S T) (hF : ∀ f, lo ≤ f → f ≤ hi → f ∈ F) : FX F P AA A S T := ⟨⟨h.1.1, h.1.2.1, h.1.2.2.1, h.1.2.2.2.1, h.1.2.2.2.2.1⟩, fun f a q _ => h.2 f a (fun z => q (hF f z.1 z.2)), fun a i _ => by rw [h.1.2.2.2.2.2]⟩
end
def fxF : List Nat := [1002, 1003, 1004, 1005, 1006]
def fxP : List (Nat × Nat) := [(902, 37), (902, 40), (902, 42), (902, 44), (902, 46), (104, 39), (105, 39), (203, 48), (1, 54)]
def fxA : List Nat := [38, 41, 43, 45, 47, 49, 55]
def fmF : List Nat := [1203, 1204, 1205, 1206, 1207, 1218, 1219, 1220, 1221, 1222, 1223, 1236, 1240, 1243, 1244, 1245]
def fmA : List Nat := [63, 64, 65, 66, 71, 72, 78, 79, 83]
abbrev FXx : (Nat → Nat) → pq_S → pq_S → Prop := FX fxF fxP fxA
abbrev FXm : (Nat → Nat) → pq_S → pq_S → Prop := FX fmF [] fmA
def fxF2 : List Nat := fxF ++ [1113, 1001, 601, 602, 603]
def fmF2 : List Nat := fmF ++ [1200, 1202, 1208]
abbrev FXy : (Nat → Nat) → pq_S → pq_S → Prop := FX fxF2 fxP fxA
abbrev FXn : (Nat → Nat) → pq_S → pq_S → Prop := FX fmF2 [] fmA
theorem TT.x {A : Nat → Nat} {S T : pq_S} (h : TT 1003 1006 S T) : FXx A S T := h.fx fun f h1 h2 => by
  have : f = 1003 ∨ f = 1004 ∨ f = 1005 ∨ f = 1006 := by omega
  rcases this with rfl | rfl | rfl | rfl <;> decide
theorem TT.m {A : Nat → Nat} {S T : pq_S} (h : TT 1204 1206 S T) : FXm A S T := h.fx fun f h1 h2 => by
  have : f = 1204 ∨ f = 1205 ∨ f = 1206 := by omega
  rcases this with rfl | rfl | rfl <;> decide
theorem FX.y {A : Nat → Nat} {S T : pq_S} (h : FXx A S T) : FXy A S T := h.mono (fun _ q => List.mem_append_left _ q) (fun _ q => q) (fun _ q => q)
theorem FX.n {A : Nat → Nat} {S T : pq_S} (h : FXm A S T) : FXn A S T := h.mono (fun _ q => List.mem_append_left _ q) (fun _ q => q) (fun _ q => q)
theorem JG.tx {A : Nat → Nat} {V : Nat → Prop} {g : GH} {S Se U : pq_S} (h : JG A V g S) (k1 : FXy A S Se) (k2 : FXn A Se U) (e1 : pI Se 1113 (A 0) = pI U 1208 (A 60)) (e2 : pI Se 1001 (A 1) = 0) (e3 : pI U 1202 (A 60) = 0) : JG A V g U := by
  have a1 : KPT A S Se := k1.kpl.mono (by decide) (by decide) (by decide)
  have a2 : KPT A Se U := k2.kpl.mono (by decide) (by decide) (by decide)
  have l1 : LAY A Se := k1.lay h.lay (by decide) (by decide)
  refine h.kpt (h.tr a1 a2) ?_
  obtain ⟨t1, t2, t3, t4, _⟩ := h.tp
  refine ⟨?_, ?_, ?_, ?_, 0, by decide, ?_, ?_, fun i hi => by omega⟩
  · rw [k2.I l1 (by decide) (by decide) (by decide), e1]
  · rw [k2.I l1 (by decide) (by decide) (by decide), k1.I h.lay (by decide) (by decide) (by decide), k2.W l1 (by decide) (by decide), k1.W h.lay (by decide) (by decide), t2]
  · rw [k2.I l1 (by decide) (by decide) (by decide), k1.I h.lay (by decide) (by decide) (by decide), k2.W l1 (by decide) (by decide), k1.W h.lay (by decide) (by decide), t3]
  · rw [k2.I l1 (by decide) (by decide) (by decide), k1.I h.lay (by decide) (by decide) (by decide), k2.I l1 (by decide) (by decide) (by decide), k1.I h.lay (by decide) (by decide) (by decide), t4]
  · rw [k2.I l1 (by decide) (by decide) (by decide), e2]; rfl
  · rw [e3]; rfl
section
variable {A : Nat → Nat} {V : Nat → Prop} {g : GH} {n z : Nat} {S T : pq_S}
/-- the bytes that are fed -/
def bts (A : Nat → Nat) (S : pq_S) : Nat → Nat := fun i => (pA S (A 62) i).toNatClampNeg
theorem bts_ok (h : JG A V g S) {tp : Nat} (e : pI S 1202 (A 60) = nI tp) (ht : tp ≤ 600) : ∀ i, i < tp → bts A S i ≤ 255 ∧ pA S (A 62) i = nI (bts A S i) ∧ pA S (A 2) i = sgn8 (bts A S i) := by
  obtain ⟨_, _, _, _, tp', t5, t6, t7, t8⟩ := h.tp
  have : tp' = tp := (nI_eq (by omega) (by omega)).mp (t7.symm.trans e)
  subst this
  intro i hi
  obtain ⟨c, c1, c2, c3⟩ := t8 i hi
  have : bts A S i = c := by unfold bts; rw [c2, nI_clamp (by omega)]
  rw [this]
  exact ⟨c1, c2, c3⟩
/-- the class begins a text -/
theorem x_begin (h : JG A V g S) {tp : Nat} (e : pI S 1202 (A 60) = nI tp) (ht : tp ≤ 600) (hz : z ≤ tp) : ∃ S', m_X10_begin n (A 1) (nI z) S = some S' ∧ FXx A S S' ∧ XF A (bts A S) z S' 0 := by
  have hb := bts_ok h e ht
  unfold m_X10_begin
  rw [h.lay.r1_1000, ob_mk, h.lay.n2, lt_mk, ofN]
  have e1 : (if nI 600 < nI z then nI 600 else nI z) = nI z := if_neg (nI_nlt (by omega) (by omega))
  rw [e1]
  refine ⟨_, rfl, (((((FX.rf _ _ _ _ _).wI (by decide)).wI (by decide)).wI (by decide)).wI (by decide)).wI (by decide), ⟨h.lay.r1_1000, h.lay.n2, ?_, by omega, fun i hi => ⟨(hb i (by omega)).1, (hb i (by omega)).2.2⟩⟩, Nat.zero_le _, ?_, ?_⟩
  · rw [pI_n (by decide), pI_n (by decide), pI_n (by decide), pI_n (by decide), pI_e]
  · rw [pI_n (by decide), pI_n (by decide), pI_n (by decide), pI_e]; rfl
  · rw [pI_n (by decide), pI_e]
/-- the reference begins the same text, after the class has done with it -/
theorem r_begin {U : pq_S} (h : JG A V g S) {tp : Nat} (e : pI S 1202 (A 60) = nI tp) (ht : tp ≤ 600) (hz : z ≤ tp) (hl : LAY A U) (hU : ∀ i, pA U (A 62) i = pA S (A 62) i) : ∃ T, m_X12_begins n (A 60) (nI z) U = some T ∧ FXn A U T ∧ MF A (bts A S) z T 0 ∧ pI T 1202 (A 60) = 0 ∧ pI T 1207 (A 60) = 0 ∧ pI T 1200 (A 60) = pI U 1200 (A 60) := by
  have hb := bts_ok h e ht
  unfold m_X12_begins
  rw [lt_mk]
  refine ⟨_, rfl, ((((((FX.rf _ _ _ _ _).wI (by decide)).wI (by decide)).wI (by decide)).wI (by decide)).wI (by decide)).wI (by decide), ⟨⟨hl.r60_1209, hl.n62, ?_, by omega, fun i hi => ⟨(hb i (by omega)).1, (hU i).trans (hb i (by omega)).2.1⟩⟩, Nat.zero_le _, ?_, ?_⟩, ?_, pI_e .., by rw [pI_n (by decide), pI_n (by decide), pI_n (by decide), pI_n (by decide), pI_n (by decide), pI_n (by decide)]⟩
  · rw [pI_n (by decide), pI_n (by decide), pI_n (by decide), pI_e]
  · rw [pI_n (by decide), pI_n (by decide), pI_e]; rfl
  · rw [pI_n (by decide), pI_e]
  · rw [pI_n (by decide), pI_n (by decide), pI_n (by decide), pI_n (by decide), pI_n (by decide), pI_e]
theorem x_end {b : Nat → Nat} {p : Nat} (hx : XF A b z S p) (hl : LAY A S) : ∃ S', m_X11_endText n (A 0) S = some (0, S') ∧ S' = sI (sI S 1113 (A 0) (-1)) 1001 (A 1) 0 := by
  unfold m_X11_endText b_X11_endText_22
  rw [hl.r0_1100, ob_mk, if_pos hx.2.2.2, pR_sI, hl.r0_1100, ob_mk, pR_sI, pR_sI, hl.r0_1100, ob_mk, pI_n (by decide), pI_n (by decide), if_pos hx.2.2.2]
  exact ⟨_, rfl, rfl⟩
theorem x_endE {b : Nat → Nat} {k q : Nat} (hx : XE A b z S k q) (hl : LAY A S) : ∃ S', m_X11_endText n (A 0) S = some (nI k - 10, S') ∧ S' = sI (sI S 1113 (A 0) (nI q)) 1001 (A 1) 0 := by
  have h5 : ¬ pI S 1005 (A 1) = 0 := by rw [hx.2.2.1]; exact nI_ne0 (by have := hx.2.2.2.2; omega) (by have := hx.2.2.2.2; omega)
  unfold m_X11_endText b_X11_endText_22
  rw [hl.r0_1100, ob_mk, if_neg h5, ob_mk, hx.2.2.2.1, pR_sI, hl.r0_1100, ob_mk, pR_sI, pR_sI, hl.r0_1100, ob_mk, pI_n (by decide), pI_n (by decide), if_neg h5, ob_mk, pI_n (by decide), pI_n (by decide), hx.2.2.1]
  exact ⟨_, rfl, rfl⟩
theorem r_res {b : Nat → Nat} {p : Nat} (hm : MF A b z T p) (v : Int32) : m_X12_result n (A 60) v T = some (v, sI T 1208 (A 60) (-1)) := by
  unfold m_X12_result m_X12_fine
  rw [pI_n (by decide), if_pos hm.2.2.2, cb_mk, if10, hm.2.2.2]
theorem r_resE {b : Nat → Nat} {k q : Nat} (hm : ME A b z T k q) (v : Int32) : m_X12_result n (A 60) v T = some (nI k - 10, sI T 1208 (A 60) (nI q)) := by
  have h5 : ¬ pI T 1205 (A 60) = -1 := by rw [hm.2.2.2.1]; exact nI_nm1 (by have := hm.2.2.2.2; omega)
  unfold m_X12_result m_X12_fine
  rw [pI_n (by decide), if_neg h5, cb_mk, if00, pI_n (by decide), hm.2.2.1, hm.2.2.2.1]
theorem kd_ne {k : Nat} (h1 : 1 ≤ k) (h2 : k ≤ 3) : ¬ nI k - 10 = 0 := by
  have : k = 1 ∨ k = 2 ∨ k = 3 := by omega
  rcases this with rfl | rfl | rfl <;> decide
end
theorem sw_ap {P : pq_S → Prop} {m : Option pq_S} {Q : pq_S → pq_S → Prop} (h : ∀ T, P T → ∃ S', m = some S' ∧ Q S' T) {T0 : pq_S} (h0 : P T0) : ∃ S', m = some S' ∧ ∀ T, P T → Q S' T := by
  obtain ⟨S', e, _⟩ := h T0 h0
  refine ⟨S', e, fun T hT => ?_⟩
  obtain ⟨S2, e2, q⟩ := h T hT
  rw [e] at e2
  cases e2
  exact q
