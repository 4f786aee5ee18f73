def smN (f : Nat → Nat) : Nat → Nat → Nat
  | 0, _ => 0
  | k + 1, p => f p + smN f k (p + 1)
theorem sw_sm {g : GH} {st : Nat → Int32} {G : Nat → Nat} : ∀ (k p acc : Nat), swF g st G k p acc = acc + smN (fun q => WK g st q (G q) / 4096) k p := by
  intro k
  induction k with
  | zero => intro p acc; rfl
  | succ k ih => intro p acc; rw [swF, ih, smN]; omega
theorem sm_cg {f f' : Nat → Nat} : ∀ (k p : Nat), (∀ q, p ≤ q → q < p + k → f q = f' q) → smN f k p = smN f' k p := by
  intro k
  induction k with
  | zero => intro p _; rfl
  | succ k ih => intro p h; rw [smN, smN, h p (by omega) (by omega), ih (p + 1) (fun q q1 q2 => h q (by omega) (by omega))]
theorem sm_1 {f f' : Nat → Nat} {a : Nat} : ∀ (k p : Nat), p ≤ a → a < p + k → (∀ q, p ≤ q → q < p + k → q ≠ a → f q = f' q) → smN f' k p + f a = smN f k p + f' a := by
  intro k
  induction k with
  | zero => intro p h1 h2; omega
  | succ k ih =>
    intro p h1 h2 h
    rw [smN, smN]
    by_cases e : p = a
    · subst e
      rw [sm_cg k (p + 1) (fun q q1 q2 => h q (by omega) (by omega) (by omega))]
      omega
    · have := ih (p + 1) (by omega) (by omega) (fun q q1 q2 q3 => h q (by omega) (by omega) q3)
      have h9 := h p (by omega) (by omega) e
      omega
theorem sm_2 {f f' : Nat → Nat} {a b k : Nat} (hab : a ≠ b) (ha : a < k) (hb : b < k) (h : ∀ q, q < k → q ≠ a → q ≠ b → f q = f' q) : smN f' k 0 + f a + f b = smN f k 0 + f' a + f' b := by
  have h1 := sm_1 (f := f) (f' := fun q => if q = a then f' a else f q) (a := a) k 0 (by omega) (by omega) (fun q _ _ q3 => (if_neg q3).symm)
  have h2 := sm_1 (f := fun q => if q = a then f' a else f q) (f' := f') (a := b) k 0 (by omega) (by omega) (fun q _ q2 q3 => by
    by_cases e : q = a
    · subst e; exact if_pos rfl
    · show (if q = a then f' a else f q) = f' q
      rw [if_neg e]; exact h q (by omega) e q3)
  simp only [if_true] at h1
  simp only [if_neg (Ne.symm hab)] at h2
  omega
theorem sm_ge {f : Nat → Nat} {a b k : Nat} (hab : a ≠ b) (ha : a < k) (hb : b < k) : f a + f b ≤ smN f k 0 := by
  have := sm_2 (f := f) (f' := fun q => if q = a ∨ q = b then 0 else f q) hab ha hb (fun q _ q1 q2 => (if_neg (fun e => e.elim q1 q2)).symm)
  simp only [true_or, or_true, if_true] at this
  omega
theorem sm_bd {f : Nat → Nat} {M : Nat} : ∀ (k p : Nat), (∀ q, f q ≤ M) → smN f k p ≤ k * M := by
  intro k
  induction k with
  | zero => intro p _; rw [smN]; omega
  | succ k ih => intro p h; rw [smN, Nat.succ_mul]; have := ih (p + 1) h; have := h p; omega
/-- carrying: the best of c numbers from x on, so many with so much so far -/
def brF (V : Nat → Nat) : Nat → Nat → Nat → Int → Nat × Int
  | 0, _, c, m => (c, m)
  | k + 1, x, c, m => if m < (V x : Int) then brF V k (x + 1) x (V x) else brF V k (x + 1) c m
theorem LX.A {A : Nat → Nat} {T T' : pq_S} (h : LX A T T') (hL : LAY A T) {c : Nat} (hc : c < 92) (h1 : ∀ j ∈ [22, 23, 26, 27], c ≠ j) (i : Nat) : pA T' (A c) i = pA T (A c) i := by
  rcases h with rfl | ⟨w, F, s, v, hw, rfl⟩
  · rfl
  · have hw2 : w = 0 ∨ w = 1 := by omega
    rcases hw2 with rfl | rfl
    · show pA (sF (sF T (A 22) F) (A 23) s) (A c) i = _
      rw [pA_sF, if_neg (hL.ne hc (by decide) (h1 23 (by decide))), pA_sF, if_neg (hL.ne hc (by decide) (h1 22 (by decide)))]
    · show pA (sF (sF T (A 26) F) (A 27) s) (A c) i = _
      rw [pA_sF, if_neg (hL.ne hc (by decide) (h1 27 (by decide))), pA_sF, if_neg (hL.ne hc (by decide) (h1 26 (by decide)))]
theorem LX.I {A : Nat → Nat} {T T' : pq_S} (h : LX A T T') {f a : Nat} (hf : f ≠ 204) : pI T' f a = pI T f a := by
  rcases h with rfl | ⟨w, F, s, v, hw, rfl⟩
  · rfl
  · rw [pI_n hf]; rfl
section
variable {g : GH} {A : Nat → Nat} {V : Nat → Prop} {S : pq_S} {n : Nat}
/-- the sales' worth when x are carried -/
def vcF (g : GH) (st : Nat → Int32) (i j E x : Nat) : Nat := E + WK g st i (nS st i - x) / 4096 + WK g st j (nS st j + arF g (st 48) i j x 1) / 4096
theorem x_carry {i j E : Nat} (hn : 5000 ≤ n) (hi : i < gP g) (hj : j < gP g) (hE : E ≤ 10000) (hJ : JG A V g S) : ∀ (f x c : Nat) (m : Int) (T : pq_S), x ≤ nS (gst g) i + 1 → nS (gst g) i + 1 < x + f → -1 ≤ m → m ≤ 1000000 → KP A S T → (∀ y, y < 145 → pA T (A 29) y = nI (WK g (gst g) i y)) → (∀ y, y < 145 → pA T (A 30) y = nI (WK g (gst g) j y)) → pI T 304 (A 28) = nI c → pI T 305 (A 28) = iZ m → ∃ T', b_X3_findBestCarrying_101 n f (A 28) (nI i) (nI j) (nI (nS (gst g) i)) (nI (nS (gst g) j)) (nI E) (nI x) T = some T' ∧ KP A S T' ∧ pI T' 304 (A 28) = nI (brF (vcF g (gst g) i j E) (nS (gst g) i + 1 - x) x c m).1 ∧ pI T' 305 (A 28) = iZ (brF (vcF g (gst g) i j E) (nS (gst g) i + 1 - x) x c m).2 := by
  have hb := hJ.gb.b
  have s0 := hJ.sb.h0 hi
  have s1 := hJ.sb.h0 hj
  intro f
  induction f with
  | zero => intro x c m T h1 h2; omega
  | succ f ih =>
    intro x c m T h1 h2 h3 h4 hK u1 u2 f1 f2
    rw [b_X3_findBestCarrying_101]
    by_cases c0 : nS (gst g) i < x
    · rw [if_pos (nI_lt c0 (by omega)), show nS (gst g) i + 1 - x = 0 by omega, brF]
      exact ⟨T, rfl, hK, f1, f2⟩
    · have hT := hJ.kp hK
      obtain ⟨T1, a1, a2⟩ := xv_arr (n := n) (gd := 1) hT.xv hT.2.1 (by omega) hi hj (show x < 2 ^ 31 by omega)
      have k1 : KP A T T1 := a2.kp (by decide) (by decide) (KPL.rf _ _ _ _ _)
      have hT1 := hT.kp k1
      have u1' : ∀ y, y < 145 → pA T1 (A 29) y = nI (WK g (gst g) i y) := fun y hy => by rw [a2.A hT.lay (by decide) (by decide)]; exact u1 y hy
      have u2' : ∀ y, y < 145 → pA T1 (A 30) y = nI (WK g (gst g) j y) := fun y hy => by rw [a2.A hT.lay (by decide) (by decide)]; exact u2 y hy
      have come : arF g (gst g 48) i j x 1 ≤ x := cp_le' _ _
      have d1 : WK g (gst g) i (nS (gst g) i - x) / 4096 ≤ 2000 := by have := WK_bd (st := gst g) hJ.gb (p := i) (G := nS (gst g) i - x); omega
      have d2 : WK g (gst g) j (nS (gst g) j + arF g (gst g 48) i j x 1) / 4096 ≤ 2000 := by have := WK_bd (st := gst g) hJ.gb (p := j) (G := nS (gst g) j + arF g (gst g 48) i j x 1); omega
      have vb : vcF g (gst g) i j E x ≤ 20000 := by unfold vcF; omega
      have a1' : m_X7_arriving n (A 3) (nI i) (nI j) (nI x) 1 T = _ := a1
      rw [if_neg (nI_nlt (by omega) (by omega)), hT.lay.r28_300, ob_mk, a1', cb_mk, hT1.lay.r28_301, ob_mk, pk_sub (show x ≤ nS (gst g) i by omega), x_by (st := gst g) (p := i) hJ.gb hT1.lay.n29 (by omega) u1', cb_mk, x_wo' (WK_bd hJ.gb), cb_mk, hT1.lay.r28_302, ob_mk, nI_add, x_by (st := gst g) (p := j) hJ.gb hT1.lay.n30 (by omega) u2', cb_mk, x_wo' (WK_bd hJ.gb), cb_mk, nI_add, nI_add, show E + WK g (gst g) i (nS (gst g) i - x) / 4096 + WK g (gst g) j (nS (gst g) j + arF g (gst g 48) i j x 1) / 4096 = vcF g (gst g) i j E x from rfl, a2.I (by decide), f2, ← iZ_n (vcF g (gst g) i j E x), show nS (gst g) i + 1 - x = (nS (gst g) i + 1 - (x + 1)) + 1 by omega, brF]
      by_cases c2 : m < (vcF g (gst g) i j E x : Int)
      · rw [if_neg (fun q => absurd ((iZ_le (by omega) (by omega) (by omega) (by omega)).mp q) (by omega)), if_pos c2, b_X3_findBestCarrying_177, nI_1]
        refine ih (x + 1) x _ _ (by omega) (by omega) (by omega) (by omega) (KPL.wI (KPL.wI (hJ.tr hK k1) (by decide)) (by decide)) u1' u2' (by rw [pI_n (by decide), pI_e]) (by rw [pI_e])
      · rw [if_pos ((iZ_le (by omega) (by omega) (by omega) (by omega)).mpr (by omega)), if_neg c2, b_X3_findBestCarrying_177, nI_1]
        exact ih (x + 1) c m T1 (by omega) (by omega) h3 h4 (hJ.tr hK k1) u1' u2' (by rw [a2.I (by decide)]; exact f1) (by rw [a2.I (by decide)]; exact f2)
/-- what all the others are worth -/
def elF (g : GH) (st : Nat → Int32) (i j : Nat) : Nat := swF g st (nS st) (gP g) 0 0 - WK g st i (nS st i) / 4096 - WK g st j (nS st j) / 4096
theorem x_fbc {i j : Nat} (hn : 5000 ≤ n) (hi : i < gP g) (hj : j < gP g) (hij : i ≠ j) (hJ : JG A V g S) : ∃ T', m_X3_findBestCarrying n (A 28) (nI i) (nI j) S = some T' ∧ KP A S T' ∧ pI T' 304 (A 28) = nI (brF (vcF g (gst g) i j (elF g (gst g) i j)) (nS (gst g) i + 1) 0 0 (-1)).1 ∧ pI T' 305 (A 28) = iZ (brF (vcF g (gst g) i j (elF g (gst g) i j)) (nS (gst g) i + 1) 0 0 (-1)).2 := by
  have hb := hJ.gb.b
  have s0 := hJ.sb.h0 hi
  have s1 := hJ.sb.h0 hj
  have at0 : ∀ {T : pq_S} {p : Nat}, JG A V g T → p < gP g → m_X9_at n (A 14) (nI p) 0 T = some (nI (nS (gst g) p), T) := fun {T p} hT hp => by
    have := hT.xv.ho (n := n) (p := p) (c := 0) hp (by decide)
    rw [Nat.mul_zero, Nat.zero_add, (hJ.sb.h0 hp).1] at this
    exact this
  obtain ⟨T1, a1, a2⟩ := x_bw (n := n) (o := none) (mo := 0) (by omega) (by omega) (fun j e => by cases e) hJ n 0 0 S (by omega) (by omega) (KPL.rf _ _ _ _ _)
  rw [Nat.sub_zero, sw_cg (st' := gst g) (G' := nS (gst g)) (gP g) 0 0 (fun q _ _ => by simp)] at a1
  have a1 : m_X3_bestWorth n (A 28) (-1) 0 S = _ := a1
  have hT1 := hJ.kp a2
  obtain ⟨u, b1, b2⟩ := x_weigh (n := n) (r := 29) (Or.inl rfl) (by omega) hi hT1
  have k2 : KP A T1 (sF T1 (A 29) u) := KPL.wF (KPL.rf _ _ _ _ _) (by decide)
  have hT2 := hT1.kp k2
  obtain ⟨v, c1, c2⟩ := x_weigh (n := n) (r := 30) (Or.inr rfl) (by omega) hj hT2
  have k3 : KP A (sF T1 (A 29) u) (sF (sF T1 (A 29) u) (A 30) v) := KPL.wF (KPL.rf _ _ _ _ _) (by decide)
  have hT3 := hT2.kp k3
  have d : A 29 ≠ A 30 := hJ.lay.ne (by decide) (by decide) (by decide)
  have u1 : ∀ y, y < 145 → pA (sF (sF T1 (A 29) u) (A 30) v) (A 29) y = nI (WK g (gst g) i y) := fun y hy => by rw [pA_sF, if_neg d, pA_sF, if_pos rfl]; exact b2 y hy
  have u2 : ∀ y, y < 145 → pA (sF (sF T1 (A 29) u) (A 30) v) (A 30) y = nI (WK g (gst g) j y) := fun y hy => by rw [pA_sF, if_pos rfl]; exact c2 y hy
  have hs : WK g (gst g) i (nS (gst g) i) / 4096 + WK g (gst g) j (nS (gst g) j) / 4096 ≤ swF g (gst g) (nS (gst g)) (gP g) 0 0 := by
    rw [sw_sm, Nat.zero_add]
    exact sm_ge (f := fun q => WK g (gst g) q (nS (gst g) q) / 4096) hij hi hj
  have hE : elF g (gst g) i j ≤ 10000 := by
    have h1 : swF g (gst g) (nS (gst g)) (gP g) 0 0 ≤ gP g * 1300 := by
      rw [sw_sm, Nat.zero_add]
      exact sm_bd _ _ (fun q => by have := WK_bd (st := gst g) hJ.gb (p := q) (G := nS (gst g) q); omega)
    unfold elF
    omega
  have kS : KP A S (sF (sF T1 (A 29) u) (A 30) v) := hJ.tr a2 (hT1.tr k2 k3)
  obtain ⟨T', e1, e2, e3, e4⟩ := x_carry (n := n) hn hi hj hE hJ n 0 0 (-1) (sI (sI (sF (sF T1 (A 29) u) (A 30) v) 304 (A 28) 0) 305 (A 28) (-1)) (by omega) (by omega) (by omega) (by omega) (KPL.wI (KPL.wI kS (by decide)) (by decide)) u1 u2 (by rw [pI_n (by decide), pI_e, nI_0]) (by rw [pI_e]; rfl)
  rw [Nat.sub_zero] at e3 e4
  refine ⟨T', ?_, e2, e3, e4⟩
  unfold m_X3_findBestCarrying
  rw [hJ.lay.r28_300, ob_mk, hJ.lay.r3_701, ob_mk, hJ.lay.r13_800, ob_mk, at0 hJ hi, cb_mk, hJ.lay.r28_300, ob_mk, hJ.lay.r3_701, ob_mk, hJ.lay.r13_800, ob_mk, at0 hJ hj, cb_mk, a1, cb_mk, hT1.lay.r28_301, ob_mk, b1, ob_mk, hT2.lay.r28_302, ob_mk, c1, ob_mk, hT3.lay.r28_301, ob_mk, x_by (st := gst g) (p := i) hJ.gb hT3.lay.n29 (by omega) u1, cb_mk, x_wo' (WK_bd hJ.gb), cb_mk, hT3.lay.r28_302, ob_mk, x_by (st := gst g) (p := j) hJ.gb hT3.lay.n30 (by omega) u2, cb_mk, x_wo' (WK_bd hJ.gb), cb_mk, pk_sub (by omega), pk_sub (by omega)]
  exact e1
theorem r_carries {T : pq_S} {st : Nat → Int32} {i j x : Nat} (hn : 200 ≤ n) (hR : RV g A T st) (hl : LW g T A) (hi : i < gP g) (hj : j < gP g) (hij : i ≠ j) (hx : x ≤ nS st i) : ∃ T' M, M = (if nS st j + arF g (st 48) i j x 1 ≤ 999 then nS st j + arF g (st 48) i j x 1 else 999) ∧ m_X12_carries n (A 60) (nI i) (nI j) (nI x) 1 T = some (1, T') ∧ RV g A T' (stu (stu st i (nI (nS st i - x))) j (nI M)) ∧ (∀ S, KP A S T → KP A S T') ∧ pI T' 1200 (A 60) = pI T 1200 (A 60) ∧ LW g T' A := by
  have hb := hR.2.1.b
  have s0 := hR.2.2.1.h0 hi
  have s1 := hR.2.2.1.h0 hj
  obtain ⟨T1, a1, a2⟩ := rv_arr (n := n) (gd := 1) hR hl hn hi hj (show x < 2 ^ 31 by omega)
  have a1 : m_X12_arriveOf n (A 60) (nI i) (nI j) (nI x) 1 T = _ := a1
  have r1 := a2.rv hR
  have l1 := a2.lw hR.1 hl
  have come : arF g (st 48) i j x 1 ≤ x := cp_le' _ _
  have z0 : ∀ p, (0 : Int32) + nI p = nI p := fun p => by rw [show (0 : Int32) = nI 0 from rfl, nI_add, Nat.zero_add]
  have r2 : RV g A (sA T1 (A 81) i (nI (nS st i - x))) (stu st i (nI (nS st i - x))) := rv_stu r1 (sb_stu hR.2.2.1 hi hb.1 (by omega))
  obtain ⟨M, hM⟩ : ∃ M, M = (if nS st j + arF g (st 48) i j x 1 ≤ 999 then nS st j + arF g (st 48) i j x 1 else 999) := ⟨_, rfl⟩
  have M9 : M ≤ 999 := by rw [hM]; split <;> omega
  have ad : m_X12_adds n (A 60) (nI j) (nI (arF g (st 48) i j x 1)) (sA T1 (A 81) i (nI (nS st i - x))) = some (sA (sA T1 (A 81) i (nI (nS st i - x))) (A 81) j (nI M)) := by
    have := r_adds (n := n) (T := sA T1 (A 81) i (nI (nS st i - x))) (u := pA (sA T1 (A 81) i (nI (nS st i - x))) (A 81)) r2.1 (k := j) (h := nS st j) (d := arF g (st 48) i j x 1) (by omega) (by omega) (by omega) (by rw [r2.2.2.2.2 j (by omega), stu_ne (Ne.symm hij)]; exact s1.1)
    rw [sF_self, ← hM, ← sA_as] at this
    exact this
  refine ⟨sA (sA T1 (A 81) i (nI (nS st i - x))) (A 81) j (nI M), M, hM, ?_, rv_stu r2 (sb_stu r2.2.2.1 hj hb.1 M9), fun S k => KPL.wA (KPL.wA (a2.kp k) (by decide)) (by decide), by rw [pI_sA, pI_sA]; exact a2.th _ _, lw_81 (T := sA T1 (A 81) i (nI (nS st i - x))) r1.1 (lw_81 r1.1 l1)⟩
  unfold m_X12_carries
  rw [if_pos rfl, b_X12_carries_12, hR.1.r60_1247, ob_mk, hR.1.n81, z0, ck_pos (ixn (by omega) (by omega)), nI_clamp (show i < 2 ^ 31 by omega), hR.2.2.2.2 i (by omega), s0.1, if_pos (nI_le hx (by omega)), a1, cb_mk, r1.1.r60_1247, ob_mk, r1.1.n81, ck_pos (ixn (by omega) (by omega)), ck_pos (ixn (by omega) (by omega)), lt_mk, r1.2.2.2.2 i (by omega), s0.1, pk_sub hx, if_pos rfl, b_X12_carries_64, z0, ad, ob_mk]
theorem vc_eq {st : Nat → Int32} (hg : GB g) {i j x M : Nat} (hi : i < gP g) (hj : j < gP g) (hij : i ≠ j) (hx : x ≤ nS st i) (h9 : nS st i ≤ 999) (hM : M = (if nS st j + arF g (st 48) i j x 1 ≤ 999 then nS st j + arF g (st 48) i j x 1 else 999)) : swF g (stu (stu st i (nI (nS st i - x))) j (nI M)) (nS (stu (stu st i (nI (nS st i - x))) j (nI M))) (gP g) 0 0 = vcF g st i j (elF g st i j) x := by
  have hb := hg.b
  have M9 : M ≤ 999 := by rw [hM]; split <;> omega
  have ej : nS (stu (stu st i (nI (nS st i - x))) j (nI M)) j = M := nS_stu_e (by omega)
  have ei : nS (stu (stu st i (nI (nS st i - x))) j (nI M)) i = nS st i - x := by rw [nS_stu_n hij, nS_stu_e (by omega)]
  have wk : ∀ q G, WK g (stu (stu st i (nI (nS st i - x))) j (nI M)) q G = WK g st q G := fun q G => by rw [WK_stu (by omega), WK_stu (by omega)]
  have cap : WK g st j M = WK g st j (nS st j + arF g (st 48) i j x 1) := by
    rw [hM]
    split
    · rfl
    · rw [WK_big hg (show 144 ≤ 999 by omega), WK_big hg (show 144 ≤ nS st j + arF g (st 48) i j x 1 by omega)]
  have h2 := sm_2 (f := fun q => WK g st q (nS st q) / 4096) (f' := fun q => WK g (stu (stu st i (nI (nS st i - x))) j (nI M)) q (nS (stu (stu st i (nI (nS st i - x))) j (nI M)) q) / 4096) hij hi hj (fun q _ q1 q2 => by
    show WK g st q (nS st q) / 4096 = _
    rw [wk, nS_stu_n q2, nS_stu_n q1])
  have h3 := sm_ge (f := fun q => WK g st q (nS st q) / 4096) hij hi hj
  simp only [wk, ei, ej, cap] at h2
  rw [sw_sm, Nat.zero_add]
  simp only [wk]
  unfold vcF elF
  rw [sw_sm, Nat.zero_add]
  omega
theorem r_brings {i j : Nat} {w : Int32} (hn : 5000 ≤ n) (hi : i < gP g) (hj : j < gP g) (hij : i ≠ j) (hJ : JG A V g S) : ∀ (f x c : Nat) (m : Int) (T : pq_S), x ≤ nS (gst g) i + 1 → nS (gst g) i + 1 < x + f → -1 ≤ m → m ≤ 1000000 → KP A S T → pI T 1200 (A 60) = 0 → ∃ T', b_X12_brings_62 n f (A 60) (nI i) (nI j) w (nI c) (iZ m) (nI x) T = b_X12_brings_121 n w (nI (brF (vcF g (gst g) i j (elF g (gst g) i j)) (nS (gst g) i + 1 - x) x c m).1) (iZ (brF (vcF g (gst g) i j (elF g (gst g) i j)) (nS (gst g) i + 1 - x) x c m).2) T' ∧ KP A S T' ∧ pI T' 1200 (A 60) = 0 := by
  have hb := hJ.gb.b
  have s0 := hJ.sb.h0 hi
  have z0 : (0 : Int32) + nI i = nI i := by rw [show (0 : Int32) = nI 0 from rfl, nI_add, Nat.zero_add]
  intro f
  induction f with
  | zero => intro x c m T h1 h2; omega
  | succ f ih =>
    intro x c m T h1 h2 h3 h4 hK ht
    have hT := hJ.kp hK
    rw [b_X12_brings_62, hT.lay.r60_1246, ob_mk, hT.lay.n80, z0, ck_pos (ixn (by omega) (by omega)), nI_clamp (by omega), hT.nw i (by omega), s0.1]
    by_cases c0 : nS (gst g) i < x
    · rw [if_pos (nI_lt c0 (by omega)), show nS (gst g) i + 1 - x = 0 by omega, brF]
      exact ⟨T, rfl, hK, ht⟩
    · -- take, carry, sell
      have tkT : m_X12_take n (A 60) T = some (tk A T) := by
        have e : sI T 1200 (A 60) 0 = T := by rw [← ht, sI_self]
        have := jg_take (n := n) hT (by omega)
        rw [e] at this
        exact this
      obtain ⟨T1, M, hM, a1, a2, a3, a4, a5⟩ := r_carries (n := n) (by omega) hT.rv (hT.kp hT.tkk).2.1 hi hj hij (show x ≤ nS (gst g) i by omega)
      obtain ⟨T2, b1, b2, b3, b4, b5, b6, b7⟩ := r_sales (n := n) hn a2
      have ve := vc_eq hJ.gb hi hj hij (show x ≤ nS (gst g) i by omega) s0.2 hM
      rw [ve] at b3
      have kT2 : KP A S T2 := hJ.tr hK (b5 T (a3 T hT.tkk))
      have th2 : pI T2 1200 (A 60) = 0 := by rw [b6, a4]; exact tk_th A T
      have vb : vcF g (gst g) i j (elF g (gst g) i j) x ≤ 20000 := by
        rw [← ve, sw_sm, Nat.zero_add]
        have := sm_bd (f := fun q => WK g (stu (stu (gst g) i (nI (nS (gst g) i - x))) j (nI M)) q (nS (stu (stu (gst g) i (nI (nS (gst g) i - x))) j (nI M)) q) / 4096) (M := 1300) (gP g) 0 (fun q => by have := WK_bd (st := stu (stu (gst g) i (nI (nS (gst g) i - x))) j (nI M)) hJ.gb (p := q) (G := nS (stu (stu (gst g) i (nI (nS (gst g) i - x))) j (nI M)) q); omega)
        omega
      rw [if_neg (nI_nlt (by omega) (by omega)), tkT, ob_mk, a1, cb_mk, b1, ob_mk, b3, ← iZ_n (vcF g (gst g) i j (elF g (gst g) i j) x), show nS (gst g) i + 1 - x = (nS (gst g) i + 1 - (x + 1)) + 1 by omega, brF]
      by_cases c2 : m < (vcF g (gst g) i j (elF g (gst g) i j) x : Int)
      · rw [if_pos ((iZ_lt (by omega) (by omega) (by omega) (by omega)).mpr c2), if_pos c2, b_X12_brings_115, nI_1]
        exact ih (x + 1) x _ T2 (by omega) (by omega) (by omega) (by omega) kT2 th2
      · rw [if_neg (fun q => c2 ((iZ_lt (by omega) (by omega) (by omega) (by omega)).mp q)), if_neg c2, b_X12_brings_115, nI_1]
        exact ih (x + 1) c m T2 (by omega) (by omega) h3 h4 kT2 th2
end
theorem ob_16 (n xa ma : Nat) (hn : 20000 ≤ n) : OB_16 n xa ma (JJ xa ma) := by
  rintro S f ⟨A, V, g, rfl, rfl, h⟩ y z w
  have h : JG A V g S := h
  have hb := h.gb.b
  refine ⟨200, 8000, by decide, by decide, 1, 6, by decide, by decide, wrP h (fun i hi e => ⟨1, 6, by decide, by decide, wrP h (fun j hj e2 => ?_) (fun q => Or.inl ⟨rfl, ki_miss h (b := 0) (by decide) ?_⟩)⟩) (fun q => Or.inl ⟨rfl, ki_miss h (b := 0) (by decide) ?_⟩)⟩
  · subst e; subst e2
    have B : ∀ (hm : m_X12_brings n (A 60) (nI i) (nI j) w (badS A S) = some (0, badM A 2 (st0 (badS A S) (A 60)))), pb_X11_brings_29 n (A 0) (nI i) (nI j) w (A 0) S (200 - (1 + 1)) (8000 - (6 + 6)) (fun (k1 : Nat) (S1 : pq_S) => (k1 = 2 ∧ (KI (JJ (A 0) (A 60)) (A 60) (m_X12_brings n (A 60) (nI i) (nI j) w)) 1 f S1) ∨ (k1 = 1 ∧ (KI (JJ (A 0) (A 60)) (A 60) (m_X12_brings n (A 60) (nI i) (nI j) w)) 2 f S1)) (fun r (S1 : pq_S) => (KI (JJ (A 0) (A 60)) (A 60) (m_X12_brings n (A 60) (nI i) (nI j) w)) 0 (vp_updL f 0 (Int32.toInt64 r)) S1) := fun hm => ⟨1, 6, by decide, by decide, wr_need0 (by decide) (by decide) (Or.inr ⟨rfl, ki_bad h (b := 0) (by decide) hm⟩)⟩
    by_cases c0 : nI i = nI j
    · rw [if_pos c0]
      refine B ?_
      unfold m_X12_brings b_X12_brings_42 b_X12_brings_43
      rw [jg_P1b h hi, cb_mk, if_neg (by decide), jg_P1b h hj, cb_mk, if_neg (by decide), if_pos c0, jg_bad h (by decide), cb_mk, if_pos rfl]
    · have hij : i ≠ j := fun e => c0 (by rw [e])
      rw [if_neg c0]
      refine ⟨_, _, sp_isWithin _ _ _ _ _, ?_⟩
      by_cases c2 : 0 ≤ w ∧ w ≤ 1
      · rw [if_pos c2, if_neg (by decide)]
        obtain ⟨T1, a1, a2, a3, a4⟩ := x_fbc (n := n) (by omega) hi hj hij h
        have h1 := h.kp a2
        have s0 := h.sb.h0 hi
        obtain ⟨T2, b1, b2, b3⟩ := r_brings (n := n) (w := w) (by omega) hi hj hij h1 n 0 0 (-1) (st0 T1 (A 60)) (by omega) (by omega) (by omega) (by omega) (KPL.st0 (KPL.rf _ _ _ _ _)) (st0_th T1 (A 60))
        rw [Nat.sub_zero] at b1
        have b1 : b_X12_brings_62 n n (A 60) (nI i) (nI j) w 0 (-1) 0 (sI T1 1200 (A 60) 0) = _ := b1
        refine ⟨1, 6, by decide, by decide, wr_need1 ⟨_, h.lay.r0_1102, T1, a1, ?_⟩⟩
        have M : ∀ r, b_X12_brings_121 n w (nI (brF (vcF g (gst g) i j (elF g (gst g) i j)) (nS (gst g) i + 1) 0 0 (-1)).1) (iZ (brF (vcF g (gst g) i j (elF g (gst g) i j)) (nS (gst g) i + 1) 0 0 (-1)).2) T2 = some (r, T2) → KI (JJ (A 0) (A 60)) (A 60) (m_X12_brings n (A 60) (nI i) (nI j) w) 0 (vp_updL f 0 (Int32.toInt64 r)) T1 := fun r e => ki_ok h1 (by
          unfold m_X12_brings b_X12_brings_43
          rw [jg_P1 h1 hi, cb_mk, if_neg (by decide), jg_P1 h1 hj, cb_mk, if_neg (by decide), if_neg c0, sp_within, if_pos c2, cb_mk, if_neg (by decide), sp_mayS1, cb_mk, if_neg (by decide), b1]
          exact e) b2 b3
        rcases w2 w with rfl | rfl | q
        · rw [if_pos rfl]
          exact ⟨_, h1.lay.r0_1102, M _ (by rw [b_X12_brings_121, if_pos rfl, a3])⟩
        · rw [if_neg (by decide)]
          exact ⟨_, h1.lay.r0_1102, M _ (by rw [b_X12_brings_121, if_neg (by decide), a4])⟩
        · exact absurd c2 q
      · rw [if_neg c2, if_pos rfl]
        refine B ?_
        unfold m_X12_brings b_X12_brings_42 b_X12_brings_43
        rw [jg_P1b h hi, cb_mk, if_neg (by decide), jg_P1b h hj, cb_mk, if_neg (by decide), if_neg c0, sp_within, if_neg c2, cb_mk, if_pos rfl, jg_bad h (by decide), cb_mk, if_pos rfl]
  · subst e
    unfold m_X12_brings
    rw [jg_P1m h hi, cb_mk, if_neg (by decide), jg_P0 h q, cb_mk, if_pos rfl]
  · unfold m_X12_brings
    rw [jg_P0 h q, cb_mk, if_pos rfl]
