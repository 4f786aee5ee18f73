theorem sw_cg {g : GH} {st st' : Nat → Int32} {G G' : Nat → Nat} : ∀ (k p acc : Nat), (∀ q, p ≤ q → q < p + k → WK g st q (G q) = WK g st' q (G' q)) → swF g st G k p acc = swF g st' G' k p acc := by
  intro k
  induction k with
  | zero => intro p acc _; rfl
  | succ k ih =>
    intro p acc h
    rw [swF, swF, h p (by omega) (by omega)]
    exact ih (p + 1) _ (fun q q1 q2 => h q (by omega) (by omega))
theorem wl_stu {g : GH} {st : Nat → Int32} {p k : Nat} {v : Int32} (hk : k < 18) : ∀ m i, wlF g (stu st k v) p m i = wlF g st p m i := by
  intro m
  induction m with
  | zero => intro i; rfl
  | succ m ih =>
    intro i
    rw [wlF, wlF, ih, stu_ne (by omega)]
theorem WK_stu {g : GH} {st : Nat → Int32} {p k G : Nat} {v : Int32} (hk : k < 6) : WK g (stu st k v) p G = WK g st p G := by
  unfold WK
  rw [wl_stu (by omega)]
  have : nS (stu st k v) (6 + p) = nS st (6 + p) := by unfold nS; rw [stu_ne (by omega)]
  rw [this]
theorem nS_stu_e {st : Nat → Int32} {k m : Nat} (hm : m < 2 ^ 31) : nS (stu st k (nI m)) k = m := by unfold nS; rw [stu_eq, nI_clamp hm]
theorem nS_stu_n {st : Nat → Int32} {k i : Nat} {v : Int32} (h : i ≠ k) : nS (stu st k v) i = nS st i := by unfold nS; rw [stu_ne h]
theorem ob_14 (n xa ma : Nat) (hn : 20000 ≤ n) : OB_14 n xa ma (JJ xa ma) := by
  rintro S f ⟨A, V, g, rfl, rfl, h⟩ y
  have h : JG A V g S := h
  have hb := h.gb.b
  refine ⟨200, 8000, by decide, by decide, _, _, sp_isWithin _ _ _ _ _, 1, 6, by decide, by decide, wr_need _ (fun c => ?_) (fun c => ⟨rfl, ki_bad h (b := 0) (by decide) ?_⟩)⟩
  · have R : ∀ (T1 : pq_S) (r : Int32), KP A S T1 → (∀ T2, pI T2 1253 (A 60) = nI (swF g (gst g) (nS (gst g)) (gP g) 0 0) → pI T2 1254 (A 60) = sbF g (gst g) (nS (gst g)) (gP g) 0 0 → (if y = 0 then some (pI T2 1253 (A 60), T2) else some (pI T2 1254 (A 60), T2)) = some (r, T2)) → KI (JJ (A 0) (A 60)) (A 60) (m_X12_sales n (A 60) y) 0 (vp_updL f 0 (Int32.toInt64 r)) T1 := fun T1 r k1 hr => by
      have h1 := h.kp k1
      obtain ⟨T2, a1, a2, a3, a4, a5, a6, a7⟩ := r_sales (n := n) (by omega) h1.rv
      refine ki_ok h1 (S2 := T2) ?_ (a5 T1 h1.tkk) (a6.trans (tk_th A T1))
      unfold m_X12_sales
      rw [sp_within, if_pos c, cb_mk, sp_mayS1, cb_mk, if_neg (by decide), jg_take h1 (by omega), ob_mk, a1, ob_mk]
      exact hr T2 a3 a4
    rcases w2 y with rfl | rfl | q
    · rw [if_pos rfl]
      obtain ⟨T1, a1, a2⟩ := x_bw (n := n) (o := none) (mo := 0) (by omega) (by omega) (fun j e => by cases e) h n 0 0 S (by omega) (by omega) (KPL.rf _ _ _ _ _)
      rw [Nat.sub_zero, sw_cg (st' := gst g) (G' := nS (gst g)) (gP g) 0 0 (fun q _ _ => by simp)] at a1
      exact ⟨_, h.lay.r0_1102, _, T1, a1, R T1 _ a2 (fun T2 e1 _ => by rw [if_pos rfl, e1])⟩
    · rw [if_neg (by decide)]
      obtain ⟨T1, a1, a2⟩ := x_bb (n := n) (by omega) h n 0 0 S (by omega) (by omega) (KPL.rf _ _ _ _ _)
      rw [Nat.sub_zero] at a1
      exact ⟨_, h.lay.r0_1102, _, T1, a1, R T1 _ a2 (fun T2 _ e2 => by rw [if_neg (by decide), e2])⟩
    · exact absurd c q
  · unfold m_X12_sales
    rw [sp_within, if_neg c, cb_mk, jg_bad h (by decide), cb_mk, if_pos rfl]
theorem ob_15 (n xa ma : Nat) (hn : 20000 ≤ n) : OB_15 n xa ma (JJ xa ma) := by
  rintro S f ⟨A, V, g, rfl, rfl, h⟩ y z
  have h : JG A V g S := h
  have hb := h.gb.b
  refine ⟨200, 8000, by decide, by decide, 1, 6, by decide, by decide, wrP h (fun i hi e => ⟨_, _, sp_isWithin _ _ _ _ _, 1, 6, by decide, by decide, wr_need _ (fun c => ?_) (fun c => Or.inr ⟨rfl, ki_bad h (b := 0) (by decide) ?_⟩)⟩) (fun q => Or.inl ⟨rfl, ki_miss h (b := 0) (by decide) ?_⟩)⟩
  · subst e
    rcases i32_wi z 0 99 (by decide) (by decide) with ⟨m, _, hm, rfl⟩ | r
    · obtain ⟨T1, a1, a2⟩ := x_bw (n := n) (o := some i) (mo := m) (by omega) hm (fun j e => by cases e; omega) h n 0 0 S (by omega) (by omega) (KPL.rf _ _ _ _ _)
      have h1 := h.kp a2
      have s0 := h.sb.h0 hi
      obtain ⟨M, hM⟩ : ∃ M, M = (if nS (gst g) i + m ≤ 999 then nS (gst g) i + m else 999) := ⟨_, rfl⟩
      have M9 : M ≤ 999 := by rw [hM]; split <;> omega
      have ad : m_X12_adds n (A 60) ((0 : Int32) + nI i) (nI m) (tk A T1) = some (sA (tk A T1) (A 81) i (nI M)) := by
        have := r_adds (n := n) (T := tk A T1) (u := pA (tk A T1) (A 81)) h1.rv.1 (k := i) (h := nS (gst g) i) (d := m) (by omega) (by omega) (by omega) (by rw [h1.rv.2.2.2.2 i (by omega)]; exact s0.1)
        rw [sF_self, ← hM, ← sA_as] at this
        rw [show (0 : Int32) + nI i = nI i from by rw [show (0 : Int32) = nI 0 from rfl, nI_add, Nat.zero_add]]
        exact this
      have r2 : RV g A (sA (tk A T1) (A 81) i (nI M)) (stu (gst g) i (nI M)) := rv_stu h1.rv (sb_stu h.sb hi hb.1 M9)
      obtain ⟨T2, b1, b2, b3, b4, b5, b6, b7⟩ := r_sales (n := n) (by omega) r2
      have same : swF g (gst g) (fun p => nS (gst g) p + if some i = some p then m else 0) (gP g) 0 0 = swF g (stu (gst g) i (nI M)) (nS (stu (gst g) i (nI M))) (gP g) 0 0 := sw_cg _ _ _ (fun q _ q2 => by
        rw [WK_stu (by omega)]
        by_cases e : q = i
        · subst e
          rw [nS_stu_e (by omega)]
          simp only [if_true]
          by_cases c9 : nS (gst g) q + m ≤ 999
          · rw [hM, if_pos c9]
          · rw [hM, if_neg c9, WK_big h.gb (show 144 ≤ nS (gst g) q + m by omega), WK_big h.gb (show 144 ≤ 999 by omega)]
        · rw [nS_stu_n e, if_neg (fun w => e (by cases w; rfl)), Nat.add_zero])
      rw [Nat.sub_zero, same] at a1
      refine ⟨_, h.lay.r0_1102, _, T1, a1, ki_ok h1 (S2 := T2) ?_ (b5 T1 (KPL.wA h1.tkk (by decide))) (b6.trans (tk_th A T1))⟩
      unfold m_X12_more
      rw [jg_P1 h1 hi, cb_mk, if_neg (by decide), sp_within, if_pos c, cb_mk, sp_mayS1, cb_mk, if_neg (by decide), jg_take h1 (by omega), ob_mk, ad, ob_mk, b1, ob_mk, b3]
    · exact absurd c r
  · subst e
    unfold m_X12_more
    rw [jg_P1b h hi, cb_mk, if_neg (by decide), sp_within, if_neg c, cb_mk, jg_bad h (by decide), cb_mk, if_pos rfl]
  · unfold m_X12_more
    rw [jg_P0 h q, cb_mk, if_pos rfl]
