theorem sp_isDayX (n : Nat) (v : Int32) (S : pq_S) : m_X11_isDay n v S = some (if 0 ≤ v ∧ v ≤ 9999 then 1 else 0, S) := by
  unfold m_X11_isDay
  rw [sp_isWithin, cb_mk]
theorem sp_isDayM (n : Nat) (v : Int32) (S : pq_S) : m_X12_isDay n v S = some (if 0 ≤ v ∧ v ≤ 9999 then 1 else 0, S) := by
  unfold m_X12_isDay
  by_cases h1 : v < 0
  · rw [if_pos h1, if_neg (fun h => absurd h.1 (Int32.not_le.mpr h1))]
  · by_cases h2 : 9999 < v
    · rw [if_neg h1, if_pos h2, if_neg (fun h => absurd h.2 (Int32.not_le.mpr h2))]
    · rw [if_neg h1, if_neg h2, if_pos ⟨Int32.not_lt.mp h1, Int32.not_lt.mp h2⟩]
theorem mn_cg {g h : Nat → Int32} {day : Int32} : ∀ (k j : Nat) (b : Int32), (∀ i, i < 2 * (j + k) → g i = h i) → mn g day k j b = mn h day k j b := by
  intro k
  induction k with
  | zero => intro j b _; rfl
  | succ k ih =>
    intro j b e
    rw [mn, mn, e (2 * j) (by omega), e (2 * j + 1) (by omega)]
    exact ih (j + 1) _ (fun i hi => e i (by omega))
/-- the moons of a day -/
def moF (g : GH) (day : Int32) : Int32 := mn (fun i => nI (gmo g i)) day (gK g) 0 0
theorem nI_lt0 {k : Nat} (h : 1 ≤ k) (hk : k < 2 ^ 31) : (0 : Int32) < nI k := by
  rw [Int32.lt_iff_toInt_lt, nI_toInt hk]
  show (0 : Int) < (k : Int)
  omega
theorem sp_moX {n : Nat} {A : Nat → Nat} {g : GH} {S : pq_S} (hL : LAY A S) (hg : GB g) (hc : CX g S A) (hn : 4 ≤ n) (day : Int32) : m_X1_moonsOn n (A 4) day S = some (moF g day, S) := by
  unfold m_X1_moonsOn
  have h := sp_moonsX (n := n) (a := A 4) (t := A 11) (c := A 12) (K := gK g) (day := day) (S := S) hL.r4_103 hL.r11_900 hL.w11 hc.1.2.2.2.1 hL.n12 hg.1.2.2.2.1 (fun j hj => by
    rw [hc.2.2.2.2 (2 * j) (by omega)]
    exact nI_lt0 (hg.2.2.2.2 j hj).1 (by have := (hg.2.2.2.2 j hj).2.1; omega)) n 0 0 (Nat.zero_le _) (by have := hg.1.2.2.2.1; omega)
  rw [nI_0] at h
  rw [h, Nat.sub_zero]
  unfold moF
  rw [mn_cg (gK g) 0 0 (fun i hi => hc.2.2.2.2 i (by omega))]
theorem sp_moM {n : Nat} {A : Nat → Nat} {g : GH} {S : pq_S} (hL : LAY A S) (hg : GB g) (hc : CM g S A) (hn : 4 ≤ n) (day : Int32) : m_X12_moonsOn n (A 60) day S = some (moF g day, S) := by
  unfold m_X12_moonsOn
  have h := sp_moonsM (n := n) (a := A 60) (c := A 70) (K := gK g) (day := day) (S := S) hL.r60_1217 hc.1.2.2.2.1 hL.n70 hg.1.2.2.2.1 (fun j hj => by
    rw [hc.2.2.2.2 (2 * j) (by omega)]
    exact nI_lt0 (hg.2.2.2.2 j hj).1 (by have := (hg.2.2.2.2 j hj).2.1; omega)) n 0 0 (Nat.zero_le _) (by have := hg.1.2.2.2.1; omega)
  rw [nI_0] at h
  rw [h, Nat.sub_zero]
  unfold moF
  rw [mn_cg (gK g) 0 0 (fun i hi => hc.2.2.2.2 i (by omega))]
theorem JG.gb {A : Nat → Nat} {V : Nat → Prop} {g : GH} {S : pq_S} (h : JG A V g S) : GB g := h.1.2.1
theorem JG.sb {A : Nat → Nat} {V : Nat → Prop} {g : GH} {S : pq_S} (h : JG A V g S) : SB g (gst g) := h.1.2.2.1
theorem JG.cx {A : Nat → Nat} {V : Nat → Prop} {g : GH} {S : pq_S} (h : JG A V g S) : CX g S A := h.1.2.2.2.1
theorem JG.cm {A : Nat → Nat} {V : Nat → Prop} {g : GH} {S : pq_S} (h : JG A V g S) : CM g S A := h.1.2.2.2.2.1
theorem JG.sx {A : Nat → Nat} {V : Nat → Prop} {g : GH} {S : pq_S} (h : JG A V g S) : STX g S (A 13) (A 14) (A 16) (A 18) (A 15) (A 17) (A 19) (gst g) := h.1.2.2.2.2.2.1
theorem JG.nw {A : Nat → Nat} {V : Nat → Prop} {g : GH} {S : pq_S} (h : JG A V g S) : ∀ i, i < 50 → pA S (A 80) i = gst g i := h.1.2.2.2.2.2.2
theorem JG.tp {A : Nat → Nat} {V : Nat → Prop} {g : GH} {S : pq_S} (h : JG A V g S) : TAPE S A := h.2.2.2.1
theorem JG.hi {A : Nat → Nat} {V : Nat → Prop} {g : GH} {S : pq_S} (h : JG A V g S) : HIST g A V S := h.2.2.2.2
theorem ob_ty : ∀ xa ma S, JJ xa ma S → TY S xa 11 ∧ TY S ma 12 := by
  rintro xa ma S ⟨A, V, g, rfl, rfl, h⟩
  have h : JG A V g S := h
  exact ⟨h.lay.k0, h.lay.k60⟩
theorem ob_5 (n xa ma : Nat) : OB_5 n xa ma (JJ xa ma) := by
  rintro S ⟨A, V, g, rfl, rfl, h⟩
  have h : JG A V g S := h
  obtain ⟨r, S1, S2, h1, h2, h3, h4⟩ := sp_fault n (A 0) (A 60) S h.tp.1
  exact ⟨r, S1, S2, h1, h2, by rw [h4]; exact h.st0.jj⟩
theorem ob_40 (n xa ma : Nat) : OB_40 n xa ma (JJ xa ma) := by
  rintro S ⟨A, V, g, rfl, rfl, h⟩ y
  have h : JG A V g S := h
  unfold m_X11_status m_X12_status
  by_cases h0 : y = 0
  · refine ⟨_, S, sI S 1200 (A 60) 0, if_pos h0, ?_, h.st0.jj⟩
    subst h0
    rw [sp_within, if_pos (by decide), cb_mk, if_neg (by decide), pR_sI, h.lay.r60_1201, ob_mk, pN_sI, h.lay.n61, ck_pos ⟨by decide, by decide⟩, h.tp.2.1]
    rfl
  · by_cases h1 : y = 1
    · refine ⟨_, S, sI S 1200 (A 60) 0, by rw [if_neg h0, if_pos h1], ?_, h.st0.jj⟩
      subst h1
      rw [sp_within, if_pos (by decide), cb_mk, if_neg (by decide), pR_sI, h.lay.r60_1201, ob_mk, pN_sI, h.lay.n61, ck_pos ⟨by decide, by decide⟩, h.tp.2.2.1]
      rfl
    · refine ⟨_, S, sI S 1200 (A 60) 0, by rw [if_neg h0, if_neg h1], ?_, h.st0.jj⟩
      rw [sp_within, if_neg (fun q => ?_), cb_mk, if_pos rfl]
      rcases i32_wi y 0 1 (by decide) (by decide) with ⟨k, k1, k2, rfl⟩ | q1
      · have : k = 0 ∨ k = 1 := by omega
        rcases this with rfl | rfl
        · exact h0 rfl
        · exact h1 rfl
      · exact q1 q
theorem ob_41 (n xa ma : Nat) : OB_41 n xa ma (JJ xa ma) := by
  rintro S ⟨A, V, g, rfl, rfl, h⟩ y
  have h : JG A V g S := h
  obtain ⟨_, _, _, _, tp, t1, t2, t3, t4⟩ := h.tp
  obtain ⟨_, _, _, _, _, _, _, wk, im, ps, iw, is, b1, b2, b3, b4, b5, b6, b7, b8⟩ := h.hi
  unfold m_X11_count m_X12_count
  by_cases h0 : y = 0
  · exact ⟨_, S, st0 S (A 60), if_pos h0, by rw [if_pos h0, pI_sI, if_neg (by simp), b4, b5], h.st0.jj⟩
  · by_cases h1 : y = 1
    · exact ⟨_, S, st0 S (A 60), by rw [if_neg h0, if_pos h1, h.lay.r0_1100, ob_mk], by rw [if_neg h0, if_pos h1, pI_sI, if_neg (by simp), t2, t3], h.st0.jj⟩
    · by_cases h2 : y = 2
      · exact ⟨_, S, st0 S (A 60), by rw [if_neg h0, if_neg h1, if_pos h2, h.lay.r0_1109, ob_mk], by rw [if_neg h0, if_neg h1, if_pos h2, pI_sI, if_neg (by simp), b3]; exact congrArg (fun x => some (x, _)) b6.1.symm, h.st0.jj⟩
      · exact ⟨_, S, st0 S (A 60), by rw [if_neg h0, if_neg h1, if_neg h2], by rw [if_neg h0, if_neg h1, if_neg h2], h.st0.jj⟩
theorem ob_30 (n xa ma : Nat) (hn : 20000 ≤ n) : OB_30 n xa ma (JJ xa ma) := by
  rintro S f ⟨A, V, g, rfl, rfl, h⟩ y
  have h : JG A V g S := h
  refine ⟨200, 8000, by decide, by decide, _, _, sp_isDayX _ _ _, 1, 6, by decide, by decide, ?_⟩
  by_cases hd : 0 ≤ y ∧ y ≤ 9999
  · rw [if_pos hd]
    refine wr_need1 ⟨_, h.lay.r0_1101, _, h.lay.r3_700, _, _, sp_moX h.lay h.gb h.cx (by omega) y, ?_⟩
    refine ki_ok h ?_ (KPL.st0 (KPL.rf _ _ _ _ _)) (st0_th _ _)
    unfold m_X12_moons
    rw [sp_isDayM, cb_mk, if_pos hd, sp_mayS1, cb_mk, if_neg (by decide)]
    exact congrArg (fun o => cb o _) (sp_moM h.st0.lay h.gb h.st0.cm (by omega) y)
  · rw [if_neg hd]
    refine wr_need0 (by decide) (by decide) ⟨rfl, ki_bad h (b := 0) (by decide) ?_⟩
    unfold m_X12_moons
    rw [sp_isDayM, cb_mk, if_neg hd]
    rw [sp_mayS01 (S := badS A S) h.lay.r60_1201 h.lay.n61 (by decide), cb_mk, if_pos rfl]
theorem ob_31 (n xa ma : Nat) (hn : 20000 ≤ n) : OB_31 n xa ma (JJ xa ma) := by
  rintro S f ⟨A, V, g, rfl, rfl, h⟩ y
  have h : JG A V g S := h
  refine ⟨200, 8000, by decide, by decide, _, _, sp_isDayX _ _ _, 1, 6, by decide, by decide, ?_⟩
  by_cases hd : 0 ≤ y ∧ y ≤ 9999
  · rw [if_pos hd]
    rcases i32_wi y 0 9999 (by decide) (by decide) with ⟨k, k1, k2, rfl⟩ | q
    · refine wr_need1 ⟨_, h.lay.r0_1101, _, h.lay.r3_700, _, _, sp_firstX (n := n) (f := n) (fun day => sp_moX h.lay h.gb h.cx (by omega) day) k (by omega) (by omega), ?_⟩
      refine ki_ok h ?_ (KPL.st0 (KPL.rf _ _ _ _ _)) (st0_th _ _)
      unfold m_X12_dark
      rw [sp_isDayM, cb_mk, if_pos hd, sp_mayS1, cb_mk, if_neg (by decide)]
      exact congrArg (fun o => cb o _) (sp_firstM (n := n) (f := n) (fun day => sp_moM h.st0.lay h.gb h.st0.cm (by omega) day) k (by omega) (by omega))
    · exact absurd hd q
  · rw [if_neg hd]
    refine wr_need0 (by decide) (by decide) ⟨rfl, ki_bad h (b := 0) (by decide) ?_⟩
    unfold m_X12_dark
    rw [sp_isDayM, cb_mk, if_neg hd, sp_mayS01 (S := badS A S) h.lay.r60_1201 h.lay.n61 (by decide), cb_mk, if_pos rfl]
theorem ob_32 (n xa ma : Nat) (hn : 20000 ≤ n) : OB_32 n xa ma (JJ xa ma) := by
  rintro S f ⟨A, V, g, rfl, rfl, h⟩ y
  have h : JG A V g S := h
  refine ⟨200, 8000, by decide, by decide, _, _, sp_isDayX _ _ _, 1, 6, by decide, by decide, ?_⟩
  by_cases hd : 0 ≤ y ∧ y ≤ 9999
  · rw [if_pos hd]
    rcases i32_wi y 0 9999 (by decide) (by decide) with ⟨k, k1, k2, rfl⟩ | q
    · refine wr_need1 ⟨_, h.lay.r0_1101, _, h.lay.r3_700, _, h.lay.r0_1101, _, h.lay.r3_700, _, h.lay.r4_103, _, _, sp_firstX (n := n) (f := n) (fun day => sp_moX h.lay h.gb h.cx (by omega) day) k (by omega) (by omega), ?_⟩
      refine ki_ok h ?_ (KPL.st0 (KPL.rf _ _ _ _ _)) (st0_th _ _)
      unfold m_X12_bright
      rw [sp_isDayM, cb_mk, if_pos hd, sp_mayS1, cb_mk, if_neg (by decide), pI_sI, if_neg (by simp), h.cm.1.2.2.2.1, h.cx.1.2.2.2.1]
      exact congrArg (fun o => cb o _) (sp_firstM (n := n) (f := n) (fun day => sp_moM h.st0.lay h.gb h.st0.cm (by omega) day) k (by omega) (by omega))
    · exact absurd hd q
  · rw [if_neg hd]
    refine wr_need0 (by decide) (by decide) ⟨rfl, ki_bad h (b := 0) (by decide) ?_⟩
    unfold m_X12_bright
    rw [sp_isDayM, cb_mk, if_neg hd, sp_mayS01 (S := badS A S) h.lay.r60_1201 h.lay.n61 (by decide), cb_mk, if_pos rfl]
