theorem xv_F {g : GH} {A : Nat → Nat} {T : pq_S} {st : Nat → Int32} (h : XV g A T st) {j : Nat} {F : Nat → Int32} (hj : j < 92) (hne : ∀ c ∈ [6, 8, 10, 12, 15, 17, 19], c ≠ j) : XV g A (sF T (A j) F) st := by
  have e : ∀ c, c ∈ [6, 8, 10, 12, 15, 17, 19] → ∀ i, pA (sF T (A j) F) (A c) i = pA T (A c) i := fun c hc i => by
    rw [pA_sF, if_neg]
    exact h.1.ne (show c < 92 by revert c; decide) hj (hne c hc)
  exact ⟨h.1, h.2.1, h.2.2.1, h.2.2.2.1.cg (fun _ _ => rfl) (fun c hc i => e c (by revert c; decide) i), h.2.2.2.2.cg rfl rfl rfl rfl rfl (fun i => e 15 (by decide) i) (fun i => e 17 (by decide) i) (fun i => e 19 (by decide) i)⟩
theorem xv_I {g : GH} {A : Nat → Nat} {T : pq_S} {st : Nat → Int32} (h : XV g A T st) {f a : Nat} {v : Int32} (hf : f ≠ 902 ∧ f ≠ 104 ∧ f ≠ 105 ∧ f ≠ 803 ∧ f ≠ 804 ∧ f ≠ 901) : XV g A (sI T f a v) st := by
  obtain ⟨f1, f2, f3, f4, f5, f6⟩ := hf
  have e : ∀ q c, f ≠ q → pI (sI T f a v) q c = pI T q c := fun q c hq => by rw [pI_sI, if_neg (fun r => hq r.1.symm)]
  refine ⟨⟨h.1.1, h.1.2.1, h.1.2.2.1, fun q hq => (e 901 _ f6).trans (h.1.2.2.2.1 q hq), h.1.2.2.2.2⟩, h.2.1, h.2.2.1, h.2.2.2.1.cg (fun q hq => e q.1 _ ?_) (fun _ _ _ => rfl), h.2.2.2.2.cg (e _ _ f1) (e _ _ f1) (e _ _ f1) (e _ _ f4) (e _ _ f5) (fun _ => rfl) (fun _ => rfl) (fun _ => rfl)⟩
  have : q.1 = 902 ∨ q.1 = 104 ∨ q.1 = 105 := by revert q; decide
  rcases this with r | r | r <;> rw [r]
  · exact f1
  · exact f2
  · exact f3
theorem lw_F {g : GH} {A : Nat → Nat} {T : pq_S} (hL : LAY A T) (h : LW g T A) {j : Nat} {F : Nat → Int32} (hj : j < 92) (hne : ∀ c ∈ aLW, c ≠ j) : LW g (sF T (A j) F) A := h.cg (fun _ _ => rfl) (fun c hc i => by
  rw [pA_sF, if_neg]
  exact hL.ne (show c < 92 by revert c; decide) hj (hne c hc))
theorem lw_I {g : GH} {A : Nat → Nat} {T : pq_S} (h : LW g T A) {f a : Nat} {v : Int32} (hf : f ≠ 203) : LW g (sI T f a v) A := h.cg (fun q hq => by
  have : q.1 = 203 := by revert q; decide
  rw [pI_sI, if_neg (fun r => hf (by omega))]) (fun _ _ _ => rfl)
theorem rv_F {g : GH} {A : Nat → Nat} {T : pq_S} {st : Nat → Int32} (h : RV g A T st) {j : Nat} {F : Nat → Int32} (hj : j < 92) (hne : ∀ c ∈ [67, 68, 69, 70, 81], c ≠ j) : RV g A (sF T (A j) F) st := by
  have e : ∀ c, c ∈ [67, 68, 69, 70, 81] → ∀ i, pA (sF T (A j) F) (A c) i = pA T (A c) i := fun c hc i => by
    rw [pA_sF, if_neg]
    exact h.1.ne (show c < 92 by revert c; decide) hj (hne c hc)
  exact ⟨h.1, h.2.1, h.2.2.1, h.2.2.2.1.cg (fun _ _ => rfl) (fun c hc i => e c (by revert c; decide) i), fun i hi => (e 81 (by decide) i).trans (h.2.2.2.2 i hi)⟩
/-- the class's law state, changed: kind of change that neither view sees -/
def LX (A : Nat → Nat) (T T' : pq_S) : Prop := T' = T ∨ ∃ w F s v, w < 2 ∧ T' = Xs (sF T (A (22 + 4 * w)) F) (A (20 + 4 * w)) (A (23 + 4 * w)) s v
theorem LX.xv {g : GH} {A : Nat → Nat} {T T' : pq_S} {st : Nat → Int32} (h : LX A T T') (x : XV g A T st) : XV g A T' st := by
  rcases h with rfl | ⟨w, F, s, v, hw, rfl⟩
  · exact x
  · refine xv_I (xv_F (xv_F x (by omega) ?_) (by omega) ?_) (by decide)
    · intro c hc; have : c ≤ 19 := by revert c; decide
      omega
    · intro c hc; have : c ≤ 19 := by revert c; decide
      omega
theorem LX.lw {g : GH} {A : Nat → Nat} {T T' : pq_S} (h : LX A T T') (hL : LAY A T) (x : LW g T A) : LW g T' A := by
  rcases h with rfl | ⟨w, F, s, v, hw, rfl⟩
  · exact x
  · refine lw_I (lw_F (T := sF T (A (22 + 4 * w)) F) hL (lw_F hL x (by omega) ?_) (by omega) ?_) (by decide)
    · intro c hc; have : c = 21 ∨ c = 25 ∨ c = 73 ∨ c = 74 ∨ c = 75 := by revert c; decide
      omega
    · intro c hc; have : c = 21 ∨ c = 25 ∨ c = 73 ∨ c = 74 ∨ c = 75 := by revert c; decide
      omega
theorem LX.kp {A : Nat → Nat} {S T T' : pq_S} {F : List Nat} {P : List (Nat × Nat)} {AA : List Nat} (hF : 204 ∈ F) (hA : ∀ j ∈ [22, 23, 26, 27], j ∈ AA) (h : LX A T T') (k : KPL F P AA A S T) : KPL F P AA A S T' := by
  rcases h with rfl | ⟨w, G, s, v, hw, rfl⟩
  · exact k
  · have hw2 : w = 0 ∨ w = 1 := by omega
    rcases hw2 with rfl | rfl
    · exact KPL.wI (KPL.wF (j := 23) (KPL.wF (j := 22) k (hA 22 (by decide))) (hA 23 (by decide))) hF
    · exact KPL.wI (KPL.wF (j := 27) (KPL.wF (j := 26) k (hA 26 (by decide))) (hA 27 (by decide))) hF
def dF (a b : Nat) : Nat := if b ≤ a then a - b else b - a
theorem dF_M {n a b : Nat} {S : pq_S} (ha : a < 2 ^ 30) (hb : b < 2 ^ 30) : m_X12_apart n (nI a) (nI b) S = some (nI (dF a b), S) := by
  unfold m_X12_apart dF
  by_cases c : b ≤ a
  · rw [if_pos (nI_le c (by omega)), if_pos c, pk_sub c]
  · rw [if_neg (nI_ge (by omega) (by omega)), if_neg c, pk_sub (by omega)]
theorem dF_X {a b : Nat} (ha : a < 2 ^ 30) (hb : b < 2 ^ 30) : (if 0 ≤ nI a - nI b then nI a - nI b else 0 - (nI a - nI b)) = nI (dF a b) := by
  unfold dF
  by_cases c : b ≤ a
  · rw [pk_sub c, if_pos (nI_pos' (by omega)), if_pos c]
  · rw [if_neg (Int32.not_le.mpr (pk_sneg hb (by omega))), if_neg c, Int32.zero_sub, Int32.neg_sub, pk_sub (by omega)]
section
variable {g : GH} {A : Nat → Nat} {T : pq_S} {st : Nat → Int32} {n : Nat}
/-- how many arrive -/
def arF (g : GH) (mo : Int32) (p q k gd : Nat) : Nat := cpF k (if gLn g 0 = 0 then nI k - nI k * nI (dF (gpl g (4 * p)) (gpl g (4 * q))) / 40 else lawF g 0 (nI k) (nI (dF (gpl g (4 * p)) (gpl g (4 * q)))) (nI gd) 0 0 mo)
theorem xv_far (h : XV g A T st) {p q : Nat} (hp : p < gP g) (hq : q < gP g) : m_X1_milesBetween n (A 4) (nI p) (nI q) T = some (nI (dF (gpl g (4 * p)) (gpl g (4 * q))), T) := by
  have hb := h.2.1.b
  have g1 := h.2.1.p (i := 4 * p) (by omega)
  have g2 := h.2.1.p (i := 4 * q) (by omega)
  have e1 := h.pl (n := n) (p := p) (c := 0) hp (by decide)
  have e2 := h.pl (n := n) (p := q) (c := 0) hq (by decide)
  unfold m_X1_milesBetween
  rw [h.1.r4_100, ob_mk, show (0 : Int32) = nI 0 from rfl, e1, cb_mk, h.1.r4_100, ob_mk, e2, cb_mk, Nat.add_zero, Nat.add_zero]
  rw [← dF_X (a := gpl g (4 * p)) (b := gpl g (4 * q)) (by omega) (by omega)]
  rfl
theorem xv_arr (h : XV g A T st) (hl : LW g T A) (hn : 200 ≤ n) {p q k gd : Nat} (hp : p < gP g) (hq : q < gP g) (hk : k < 2 ^ 31) : ∃ T', m_X7_arriving n (A 3) (nI p) (nI q) (nI k) (nI gd) T = some (nI (arF g (st 48) p q k gd), T') ∧ LX A T T' := by
  unfold m_X7_arriving
  rw [h.1.r3_700, ob_mk, xv_far h hp hq, cb_mk, h.1.r3_702, ob_mk]
  have l0 := hl 0 (by decide)
  have e0 : m_X2_isTold n (A 20) T = some (if gLn g 0 = 0 then 0 else 1, T) := by
    unfold m_X2_isTold
    rw [show pI T 203 (A 20) = nI (gLn g 0) from l0.2.1]
    by_cases c : gLn g 0 = 0
    · rw [c, if_pos (by decide), if_pos rfl]
    · rw [if_neg (nI_nle (by omega) (by have := l0.1; omega)), if_neg c]
  rw [e0, cb_mk]
  unfold arF
  by_cases c : gLn g 0 = 0
  · rw [if_pos c, if_pos rfl, if_pos c, b_X7_arriving_54, cp_X hk]
    exact ⟨T, rfl, Or.inl rfl⟩
  · obtain ⟨F, s, v, e⟩ := xs_value (n := n) (w := 0) hn (by decide) h.1 hl c (nI k) (nI (dF (gpl g (4 * p)) (gpl g (4 * q)))) (nI gd) 0 0 (st 48)
    rw [if_neg c, if_neg (by decide), if_neg c, h.1.r3_702, ob_mk, h.1.r3_701, ob_mk, h.I.2.2.2.2.2.2.2.2.2.1]
    rw [show m_X2_value n (A 20) (nI k) (nI (dF (gpl g (4 * p)) (gpl g (4 * q)))) (nI gd) 0 0 (st 48) T = _ from e, cb_mk, b_X7_arriving_54, cp_X hk]
    exact ⟨_, rfl, Or.inr ⟨0, F, s, v, by decide, rfl⟩⟩
/-- how many come out -/
def dgF (g : GH) (mo : Int32) (k left : Nat) : Nat := if k = 0 then 0 else cpF left (if gLn g 1 = 0 then nI (3 * k) else lawF g 1 0 0 1 (nI k) (nI left) mo)
theorem dg_le {mo : Int32} {k left : Nat} (hl : left < 2 ^ 31) : dgF g mo k left ≤ left := by
  unfold dgF
  split
  · omega
  · exact cp_le hl
theorem xv_dig (hL : LAY A T) (hl : LW g T A) (hn : 200 ≤ n) {k left : Nat} {mo : Int32} (hk : k < 2 ^ 31) (hlf : left < 2 ^ 31) : ∃ T', m_X7_comingOut n (A 3) (nI k) (nI left) mo T = some (nI (dgF g mo k left), T') ∧ LX A T T' := by
  unfold m_X7_comingOut dgF
  by_cases ck0 : k = 0
  · subst ck0
    rw [if_pos (show nI 0 = 0 from rfl), if_pos rfl]
    exact ⟨T, rfl, Or.inl rfl⟩
  · rw [if_neg (nI_ne0 (by omega) hk), if_neg ck0, hL.r3_703, ob_mk]
    have l0 := hl 1 (by decide)
    have e0 : m_X2_isTold n (A 24) T = some (if gLn g 1 = 0 then 0 else 1, T) := by
      unfold m_X2_isTold
      rw [show pI T 203 (A 24) = nI (gLn g 1) from l0.2.1]
      by_cases c : gLn g 1 = 0
      · rw [c, if_pos (by decide), if_pos rfl]
      · rw [if_neg (nI_nle (by omega) (by have := l0.1; omega)), if_neg c]
    rw [e0, cb_mk]
    by_cases c : gLn g 1 = 0
    · rw [if_pos c, if_pos rfl, if_pos c, b_X7_comingOut_35, cp_X hlf, show nI k * (3 : Int32) = nI (3 * k) from by rw [show (3 : Int32) = nI 3 from rfl, pk_mul, Nat.mul_comm]]
      exact ⟨T, rfl, Or.inl rfl⟩
    · obtain ⟨F, s, v, e⟩ := xs_value (n := n) (w := 1) hn (by decide) hL hl c 0 0 1 (nI k) (nI left) mo
      rw [if_neg c, if_neg (by decide), if_neg c, hL.r3_703, ob_mk]
      rw [show m_X2_value n (A 24) 0 0 1 (nI k) (nI left) mo T = _ from e, cb_mk, b_X7_comingOut_35, cp_X hlf]
      exact ⟨_, rfl, Or.inr ⟨1, F, s, v, by decide, rfl⟩⟩
/-- the reference's law state, changed -/
def LM (A : Nat → Nat) (T T' : pq_S) : Prop := T' = T ∨ ∃ u s, T' = sF (sF T (A 77) u) (A 76) s
theorem LM.rv {T' : pq_S} (h : LM A T T') (x : RV g A T st) : RV g A T' st := by
  rcases h with rfl | ⟨u, s, rfl⟩
  · exact x
  · exact rv_F (rv_F x (by decide) (by decide)) (by decide) (by decide)
theorem LM.lw {T' : pq_S} (h : LM A T T') (hL : LAY A T) (x : LW g T A) : LW g T' A := by
  rcases h with rfl | ⟨u, s, rfl⟩
  · exact x
  · exact lw_F (T := sF T (A 77) u) hL (lw_F hL x (by decide) (by decide)) (by decide) (by decide)
theorem LM.kp {T' S : pq_S} (h : LM A T T') (k : KP A S T) : KP A S T' := by
  rcases h with rfl | ⟨u, s, rfl⟩
  · exact k
  · exact KPL.wF (KPL.wF k (by decide)) (by decide)
theorem LM.th {T' : pq_S} (h : LM A T T') (f a : Nat) : pI T' f a = pI T f a := by
  rcases h with rfl | ⟨u, s, rfl⟩
  · rfl
  · rfl
theorem sF_sF (T : pq_S) (a : Nat) (u v : Nat → Int32) : sF (sF T a u) a v = sF T a v := by
  have : (fun a1 i1 => if a1 = a then v i1 else pA (sF T a u) a1 i1) = (fun a1 i1 => if a1 = a then v i1 else pA T a1 i1) := by
    funext a1 i1
    by_cases c : a1 = a
    · rw [if_pos c, if_pos c]
    · rw [if_neg c, if_neg c, pA_sF, if_neg c]
  unfold sF at this ⊢
  simp only [pL, pK, pI, pR, pN, pA, pQ] at this ⊢
  rw [this]
theorem lm_of {u : Nat → Int32} : LM A T (sF T (A 77) u) := Or.inr ⟨u, pA (sF T (A 77) u) (A 76), (sF_self _ _).symm⟩
theorem rv_arr (h : RV g A T st) (hl : LW g T A) (hn : 200 ≤ n) {p q k gd : Nat} (hp : p < gP g) (hq : q < gP g) (hk : k < 2 ^ 31) : ∃ T', m_X12_arriveOf n (A 60) (nI p) (nI q) (nI k) (nI gd) T = some (nI (arF g (st 48) p q k gd), T') ∧ LM A T T' := by
  have hb := h.2.1.b
  have g1 := h.2.1.p (i := 4 * p) (by omega)
  have g2 := h.2.1.p (i := 4 * q) (by omega)
  obtain ⟨u, e1, e2, e3, e4⟩ := sp_findFacts (n := n) h (by omega)
  have h1 : RV g A (sF T (A 77) u) st := rv_F h (by decide) (by decide)
  have d1 : A 67 ≠ A 77 := h.1.ne (by decide) (by decide) (by decide)
  have d2 : A 75 ≠ A 77 := h.1.ne (by decide) (by decide) (by decide)
  obtain ⟨dd, hdd⟩ : ∃ dd, dd = nI (dF (gpl g (4 * p)) (gpl g (4 * q))) := ⟨_, rfl⟩
  have l0 := hl 0 (by decide)
  unfold m_X12_arriveOf
  rw [e1, ob_mk, pR_sF, h.1.r60_1237, ob_mk, pN_sF, h.1.n77, ck_pos IX7.1, CL7.1, sA_sF, pR_sF, h.1.r60_1237, ob_mk, h.1.r60_1214, ob_mk, pN_sF, h.1.n67, show (4 : Int32) * nI p = nI (4 * p) from pk_mul 4 p, show (4 : Int32) * nI q = nI (4 * q) from pk_mul 4 q, ck_pos (ixn (by omega) (by omega)), ob_mk, h.1.n67, ck_pos (ixn (by omega) (by omega)), nI_clamp (by omega), nI_clamp (by omega), pA_sF, if_neg d1, pA_sF, if_neg d1, h.A.1 _ (by omega), h.A.1 _ (by omega), dF_M (by omega) (by omega), cb_mk, ← hdd, pN_sF, h.1.n77, ck_pos IX7.2.1, CL7.2.1, sA_sF, pR_sF, h.1.r60_1237, ob_mk, pN_sF, h.1.n77, ck_pos IX7.2.2.1, lt_mk, CL7.2.2.1, sA_sF, pR_sF, h.1.r60_1234, ob_mk, pN_sF, h.1.n75, ck_pos (show ix 0 2 from ⟨by decide, by decide⟩), pA_sF, if_neg d2, show pA T (A 75) 0 = nI (gLn g 0) from l0.2.2.1]
  have hu : ∀ j, j < 7 → upd (upd (upd u 0 (nI k)) 1 dd) 2 (nI gd) j = fcF (nI k) dd (nI gd) 0 0 (st 48) j := fun j hj => by
    have hj7 : j = 0 ∨ j = 1 ∨ j = 2 ∨ j = 3 ∨ j = 4 ∨ j = 5 ∨ j = 6 := by omega
    unfold fcF
    rw [← e3, ← e4, ← e2 3 (by decide)]
    unfold upd
    rcases hj7 with rfl | rfl | rfl | rfl | rfl | rfl | rfl <;> simp [e2 4 (by decide), e2 3 (by decide)]
  unfold arF
  rw [← hdd]
  by_cases c : gLn g 0 = 0
  · rw [if_pos (show nI (gLn g 0) = 0 by rw [c]; rfl), if_pos c, h.1.r60_1237, ob_mk, h.1.n77, ck_pos IX7.2.1, pA_sF, if_pos rfl, hu 1 (by decide), show fcF (nI k) dd (nI gd) 0 0 (st 48) 1 = dd from rfl, b_X12_arriveOf_74, cp_M hk, cb_mk]
    exact ⟨_, rfl, lm_of⟩
  · obtain ⟨s, e⟩ := rs_value (n := n) (w := 0) (x0 := nI k) (x1 := dd) (x2 := nI gd) (x3 := 0) (x4 := 0) (mo := st 48) hn (by decide) h.1 hl c hu
    rw [if_neg (nI_ne0 (by omega) (by have := l0.1; omega)), if_neg c]
    rw [show m_X12_valueOf n (A 60) 0 (sF T (A 77) (upd (upd (upd u 0 (nI k)) 1 dd) 2 (nI gd))) = _ from e, cb_mk, b_X12_arriveOf_74, cp_M hk, cb_mk]
    exact ⟨_, rfl, Or.inr ⟨_, s, rfl⟩⟩
theorem rv_dig (h : RV g A T st) (hl : LW g T A) (hn : 200 ≤ n) {m k left : Nat} (hm : m < gM g) (hk : k < 2 ^ 31) (hlf : left < 2 ^ 31) (es : st (42 + m) = nI left) : ∃ T', m_X12_digOf n (A 60) (nI m) (nI k) T = some (nI (dgF g (st 48) k left), T') ∧ LM A T T' := by
  have hb := h.2.1.b
  unfold m_X12_digOf dgF
  by_cases ck0 : k = 0
  · subst ck0
    rw [if_pos (show nI 0 = 0 from rfl), if_pos rfl]
    exact ⟨T, rfl, Or.inl rfl⟩
  · obtain ⟨u, e1, e2, e3, e4⟩ := sp_findFacts (n := n) h (by omega)
    have d1 : A 81 ≠ A 77 := h.1.ne (by decide) (by decide) (by decide)
    have d2 : A 75 ≠ A 77 := h.1.ne (by decide) (by decide) (by decide)
    have l0 := hl 1 (by decide)
    rw [if_neg (nI_ne0 (by omega) hk), if_neg ck0, e1, ob_mk, pR_sF, h.1.r60_1237, ob_mk, pN_sF, h.1.n77, ck_pos IX7.2.2.1, CL7.2.2.1, sA_sF, pR_sF, h.1.r60_1237, ob_mk, pN_sF, h.1.n77, ck_pos IX7.2.2.2.1, lt_mk, CL7.2.2.2.1, sA_sF, pR_sF, h.1.r60_1237, ob_mk, h.1.r60_1247, ob_mk, pN_sF, h.1.n81, show (42 : Int32) + nI m = nI (42 + m) from nI_add 42 m, ck_pos (ixn (by omega) (by omega)), h.1.n77, ck_pos IX7.2.2.2.2.1, lt_mk, CL7.2.2.2.2.1, nI_clamp (by omega), pA_sF, if_neg d1, h.A.2.2.2.2 _ (by omega), es, sA_sF, pR_sF, h.1.r60_1234, ob_mk, pN_sF, h.1.n75, ck_pos (show ix 1 2 from ⟨by decide, by decide⟩), CL7.2.1, pA_sF, if_neg d2, show pA T (A 75) 1 = nI (gLn g 1) from l0.2.2.1]
    have hu : ∀ j, j < 7 → upd (upd (upd u 2 1) 3 (nI k)) 4 (nI left) j = fcF 0 0 1 (nI k) (nI left) (st 48) j := fun j hj => by
      have hj7 : j = 0 ∨ j = 1 ∨ j = 2 ∨ j = 3 ∨ j = 4 ∨ j = 5 ∨ j = 6 := by omega
      unfold fcF
      rw [← e3, ← e4]
      unfold upd
      rcases hj7 with rfl | rfl | rfl | rfl | rfl | rfl | rfl <;> simp [e2 0 (by decide), e2 1 (by decide)]
    have f59 : ∀ (z : Int32) (T2 : pq_S), LM A T T2 → b_X12_digOf_59 n (A 60) (nI m) z T2 = some (nI (cpF left z), T2) := fun z T2 h2 => by
      have r2 := h2.rv h
      rw [b_X12_digOf_59, r2.1.r60_1247, ob_mk, r2.1.n81, show (42 : Int32) + nI m = nI (42 + m) from nI_add 42 m, ck_pos (ixn (by omega) (by omega)), nI_clamp (by omega), r2.A.2.2.2.2 _ (by omega), es, cp_M hlf, cb_mk]
    by_cases c : gLn g 1 = 0
    · rw [if_pos (show nI (gLn g 1) = 0 by rw [c]; rfl), if_pos c, show (3 : Int32) * nI k = nI (3 * k) from pk_mul 3 k, f59 _ _ lm_of]
      exact ⟨_, rfl, lm_of⟩
    · obtain ⟨s, e⟩ := rs_value (n := n) (w := 1) (x0 := 0) (x1 := 0) (x2 := 1) (x3 := nI k) (x4 := nI left) (mo := st 48) hn (by decide) h.1 hl c hu
      rw [if_neg (nI_ne0 (by omega) (by have := l0.1; omega)), if_neg c]
      rw [show m_X12_valueOf n (A 60) 1 (sF T (A 77) (upd (upd (upd u 2 1) 3 (nI k)) 4 (nI left))) = _ from e, cb_mk, f59 _ _ (Or.inr ⟨_, s, rfl⟩)]
      exact ⟨_, rfl, Or.inr ⟨_, s, rfl⟩⟩
end
