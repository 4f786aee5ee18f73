theorem rs_run {n ma cs cc oc sa fa w L : Nat} {T : pq_S} {cd : Nat → Nat} {fc : Nat → Int32} (hw2 : w < 2) (r0 : pR T 1234 ma = some cs) (r1 : pR T 1232 ma = some cc) (r2 : pR T 1233 ma = some oc) (r3 : pR T 1235 ma = some sa) (r4 : pR T 1237 ma = some fa) (n0 : pN T cs = 2) (n1 : pN T cc = 300) (n2 : pN T oc = 300) (n3 : pN T sa = 150) (n4 : pN T fa = 7) (hL : L ≤ 150) (i0 : pA T cs w = nI L) (hc : ∀ k, k < L → pA T cc (150 * w + k) = nI (lwWhat (cd k)) ∧ pA T oc (150 * w + k) = nI (lwOf (cd k)) ∧ (cd k < 1007 ∨ (2000 ≤ cd k ∧ cd k ≤ 2005))) (hf : ∀ j, j < 7 → pA T fa j = fc j) (d0 : cs ≠ sa) (d1 : cc ≠ sa) (d2 : oc ≠ sa) (d3 : fa ≠ sa) : ∀ (f i h : Nat) (st s : Nat → Int32), i ≤ L → L < i + f → h ≤ 24 → lwH cd (L - i) i h = some 1 → (∀ j, j < h → s j = st j) → ∃ s', b_X12_valueOf_8 n f ma (nI w) (nI h) (nI (150 * w + i)) (sF T sa s) = some (lvF cd fc (L - i) i h st, sF T sa s') := by
  intro f
  induction f with
  | zero => intro i h st s a1 a2; omega
  | succ f ih =>
    intro i h st s a1 a2 a3 hw hs
    have R0 : pR (sF T sa s) 1234 ma = some cs := r0
    have R1 : pR (sF T sa s) 1232 ma = some cc := r1
    have R2 : pR (sF T sa s) 1233 ma = some oc := r2
    have R3 : pR (sF T sa s) 1235 ma = some sa := r3
    have R4 : pR (sF T sa s) 1237 ma = some fa := r4
    have N0 : pN (sF T sa s) cs = 2 := n0
    have N1 : pN (sF T sa s) cc = 300 := n1
    have N2 : pN (sF T sa s) oc = 300 := n2
    have N3 : pN (sF T sa s) sa = 150 := n3
    have N4 : pN (sF T sa s) fa = 7 := n4
    have eA : ∀ b j, b ≠ sa → pA (sF T sa s) b j = pA T b j := fun b j hb => by rw [pA_sF, if_neg hb]
    have eS : ∀ j, pA (sF T sa s) sa j = s j := fun j => by rw [pA_sF, if_pos rfl]
    rw [b_X12_valueOf_8, R0, ob_mk, N0, ck_pos (ixn hw2 (by omega)), nI_clamp (by omega), eA _ _ d0, i0, show (150 : Int32) * nI w = nI (150 * w) from pk_mul 150 w, nI_add]
    by_cases c0 : L ≤ i
    · rw [show L - i = 0 by omega] at hw ⊢
      rw [lwH] at hw
      cases hw
      rw [if_pos (nI_le (by omega) (by omega)), b_X12_valueOf_111, R3, ob_mk, N3, show (0 : Int32) = nI 0 from rfl, ck_pos (ixn (by omega) (by omega)), nI_clamp (by omega), eS, lvF, hs 0 (by decide)]
      exact ⟨_, rfl⟩
    · have hL2 : i < L := by omega
      obtain ⟨k1, k2, ct⟩ := hc i hL2
      rw [show L - i = (L - (i + 1)) + 1 by omega] at hw ⊢
      rw [lwH] at hw
      rw [if_neg (nI_ge (by omega) (by omega)), R1, ob_mk, N1, ck_pos (ixn (by omega) (by omega)), nI_clamp (by omega), eA _ _ d1, k1, lvF]
      by_cases c1 : cd i < 1000
      · have e1 : lwWhat (cd i) = 0 := if_pos c1
        have e2 : lwOf (cd i) = cd i := if_pos c1
        rw [if_pos (show cd i < 2000 by omega)] at hw
        by_cases c3 : h < 24
        · rw [if_pos c3] at hw
          rw [e1, if_neg (by decide), R3, ob_mk, if_pos (show nI 0 = 0 from rfl), R2, ob_mk, N2, ck_pos (ixn (by omega) (by omega)), eA _ _ d2, k2, e2, b_X12_valueOf_68, N3, ck_pos (ixn (by omega) (by omega)), b_X12_valueOf_105, nI_1, nI_1, nI_clamp (by omega), sA_sF, if_pos c1]
          exact ih (i + 1) (h + 1) _ _ (by omega) (by omega) (by omega) hw (fun j hj => by
            unfold upd
            by_cases e : j = h
            · simp [e]
            · simp [e, hs j (by omega)])
        · rw [if_neg c3] at hw; cases hw
      · by_cases c2 : cd i < 2000
        · have e1 : lwWhat (cd i) = 1 := by unfold lwWhat; rw [if_neg c1, if_pos c2]
          have e2 : lwOf (cd i) = cd i - 1000 := by unfold lwOf; rw [if_neg c1, if_pos c2]
          rw [if_pos c2] at hw
          by_cases c3 : h < 24
          · rw [if_pos c3] at hw
            rw [e1, if_neg (by decide), R3, ob_mk, if_neg (by decide), R4, ob_mk, R2, ob_mk, N2, ck_pos (ixn (by omega) (by omega)), eA _ _ d2, k2, e2, N4, ck_pos (ixn (by omega) (by omega)), nI_clamp (show cd i - 1000 < 2 ^ 31 by omega), eA _ _ d3, hf _ (by omega), b_X12_valueOf_68, N3, ck_pos (ixn (by omega) (by omega)), b_X12_valueOf_105, nI_1, nI_1, nI_clamp (by omega), sA_sF, if_neg c1, if_pos c2]
            exact ih (i + 1) (h + 1) _ _ (by omega) (by omega) (by omega) hw (fun j hj => by
              unfold upd
              by_cases e : j = h
              · simp [e]
              · simp [e, hs j (by omega)])
          · rw [if_neg c3] at hw; cases hw
        · have e1 : lwWhat (cd i) = cd i - 1998 := by unfold lwWhat; rw [if_neg c1, if_neg c2]
          rw [if_neg c2] at hw
          by_cases c3 : 2 ≤ h
          · rw [if_pos c3] at hw
            rw [e1, if_pos (show (1 : Int32) < nI (cd i - 1998) from nI_lt (a := 1) (by omega) (by omega)), R3, ob_mk, ob_mk, N3, sb_m1 (by omega), show nI (h - 1) - (1 : Int32) = nI (h - 2) from pk_sub (a := h - 1) (b := 1) (by omega), ck_pos (ixn (by omega) (by omega)), ob_mk, N3, ck_pos (ixn (by omega) (by omega)), nI_clamp (show h - 2 < 2 ^ 31 by omega), nI_clamp (show h - 1 < 2 ^ 31 by omega), eS, eS, sp_both (by omega) (by omega), cb_mk, N3, ck_pos (ixn (by omega) (by omega)), b_X12_valueOf_105, nI_1, sA_sF, if_neg c1, if_neg c2, hs (h - 2) (by omega), hs (h - 1) (by omega)]
            exact ih (i + 1) (h - 1) _ _ (by omega) (by omega) (by omega) hw (fun j hj => by
              unfold upd
              by_cases e : j = h - 2
              · simp [e]
              · simp [e, hs j (by omega)])
          · rw [if_neg c3] at hw; cases hw
/-- what a law is told -/
def fcF (x0 x1 x2 x3 x4 mo : Int32) (j : Nat) : Int32 := if j = 0 then x0 else if j = 1 then x1 else if j = 2 then x2 else if j = 3 then x3 else if j = 4 then x4 else if j = 5 then mo - mo / 12 * 12 else mo / 12
def lawF (g : GH) (w : Nat) (x0 x1 x2 x3 x4 mo : Int32) : Int32 := lvF (gLc g w) (fcF x0 x1 x2 x3 x4 mo) (gLn g w) 0 0 (fun _ => 0)
theorem sA_as (S : pq_S) (a i : Nat) (v : Int32) : sA S a i v = sF S a (upd (pA S a) i v) := by
  have h := sA_sF S a i (pA S a) v
  rw [sF_self] at h
  exact h
theorem IX7 : ix 0 7 ∧ ix 1 7 ∧ ix 2 7 ∧ ix 3 7 ∧ ix 4 7 ∧ ix 5 7 ∧ ix 6 7 := ⟨⟨by decide, by decide⟩, ⟨by decide, by decide⟩, ⟨by decide, by decide⟩, ⟨by decide, by decide⟩, ⟨by decide, by decide⟩, ⟨by decide, by decide⟩, ⟨by decide, by decide⟩⟩
theorem CL7 : Int32.toNatClampNeg 0 = 0 ∧ Int32.toNatClampNeg 1 = 1 ∧ Int32.toNatClampNeg 2 = 2 ∧ Int32.toNatClampNeg 3 = 3 ∧ Int32.toNatClampNeg 4 = 4 ∧ Int32.toNatClampNeg 5 = 5 ∧ Int32.toNatClampNeg 6 = 6 := by decide
theorem xs_chain {n a ia : Nat} {T : pq_S} (r1 : pR T 201 a = some ia) (n1 : pN T ia = 7) (x0 x1 x2 x3 x4 mo m5 m6 : Int32) (h5 : mo - mo / 12 * 12 = m5) (h6 : mo / 12 = m6) : m_X2_value n a x0 x1 x2 x3 x4 mo T = b_X2_value_68 n n a 0 (sI (sF T ia (upd (upd (upd (upd (upd (upd (upd (pA T ia) 0 x0) 1 x1) 2 x2) 3 x3) 4 x4) 5 m5) 6 m6)) 204 a 0) := by
  unfold m_X2_value
  rw [h5, h6]
  rw [r1, ob_mk, n1, ck_pos IX7.1, CL7.1, sA_as T ia 0 x0, pR_sF, r1, ob_mk, pN_sF, n1, ck_pos IX7.2.1, lt_mk, CL7.2.1, sA_sF, pR_sF, r1, ob_mk, pN_sF, n1, ck_pos IX7.2.2.1, CL7.2.2.1, sA_sF, pR_sF, r1, ob_mk, pN_sF, n1, ck_pos IX7.2.2.2.1, lt_mk, CL7.2.2.2.1, sA_sF, pR_sF, r1, ob_mk, pN_sF, n1, ck_pos IX7.2.2.2.2.1, CL7.2.2.2.2.1, sA_sF, pR_sF, r1, ob_mk, pN_sF, n1, ck_pos IX7.2.2.2.2.2.1, lt_mk, CL7.2.2.2.2.2.1, sA_sF, pR_sF, r1, ob_mk, pN_sF, n1, ck_pos IX7.2.2.2.2.2.2, CL7.2.2.2.2.2.2, sA_sF]
theorem xs_fc (u : Nat → Int32) (x0 x1 x2 x3 x4 mo m5 m6 : Int32) (h5 : mo - mo / 12 * 12 = m5) (h6 : mo / 12 = m6) : ∀ j, j < 7 → upd (upd (upd (upd (upd (upd (upd u 0 x0) 1 x1) 2 x2) 3 x3) 4 x4) 5 m5) 6 m6 j = fcF x0 x1 x2 x3 x4 mo j := fun j hj => by
  have hj7 : j = 0 ∨ j = 1 ∨ j = 2 ∨ j = 3 ∨ j = 4 ∨ j = 5 ∨ j = 6 := by omega
  unfold fcF
  rw [h5, h6]
  unfold upd
  rcases hj7 with rfl | rfl | rfl | rfl | rfl | rfl | rfl <;> simp
theorem xs_value {g : GH} {A : Nat → Nat} {T : pq_S} {n w : Nat} (hn : 200 ≤ n) (hw : w < 2) (hL : LAY A T) (hl : LW g T A) (h0 : gLn g w ≠ 0) (x0 x1 x2 x3 x4 mo : Int32) : ∃ F s v, m_X2_value n (A (20 + 4 * w)) x0 x1 x2 x3 x4 mo T = some (lawF g w x0 x1 x2 x3 x4 mo, Xs (sF T (A (22 + 4 * w)) F) (A (20 + 4 * w)) (A (23 + 4 * w)) s v) := by
  obtain ⟨l1, l2, l3, l4, l5⟩ := hl w hw
  have hw2 : w = 0 ∨ w = 1 := by omega
  have r0 : pR T 200 (A (20 + 4 * w)) = some (A (21 + 4 * w)) := by
    rcases hw2 with rfl | rfl
    · exact hL.r20_200
    · exact hL.r24_200
  have r1 : pR T 201 (A (20 + 4 * w)) = some (A (22 + 4 * w)) := by
    rcases hw2 with rfl | rfl
    · exact hL.r20_201
    · exact hL.r24_201
  have r2 : pR T 202 (A (20 + 4 * w)) = some (A (23 + 4 * w)) := by
    rcases hw2 with rfl | rfl
    · exact hL.r20_202
    · exact hL.r24_202
  have n0 : pN T (A (21 + 4 * w)) = 150 := by
    rcases hw2 with rfl | rfl
    · exact hL.n21
    · exact hL.n25
  have n1 : pN T (A (22 + 4 * w)) = 7 := by
    rcases hw2 with rfl | rfl
    · exact hL.n22
    · exact hL.n26
  have n2 : pN T (A (23 + 4 * w)) = 32 := by
    rcases hw2 with rfl | rfl
    · exact hL.n23
    · exact hL.n27
  have d1 : A (21 + 4 * w) ≠ A (23 + 4 * w) := hL.ne (show 21 + 4 * w < 92 by omega) (show 23 + 4 * w < 92 by omega) (by omega)
  have d2 : A (22 + 4 * w) ≠ A (23 + 4 * w) := hL.ne (show 22 + 4 * w < 92 by omega) (show 23 + 4 * w < 92 by omega) (by omega)
  have d3 : A (21 + 4 * w) ≠ A (22 + 4 * w) := hL.ne (show 21 + 4 * w < 92 by omega) (show 22 + 4 * w < 92 by omega) (by omega)
  generalize A (20 + 4 * w) = a at *
  generalize A (21 + 4 * w) = c at *
  generalize A (22 + 4 * w) = ia at *
  generalize A (23 + 4 * w) = sa at *
  obtain ⟨m5, h5⟩ : ∃ m5, mo - mo / 12 * 12 = m5 := ⟨_, rfl⟩
  obtain ⟨m6, h6⟩ : ∃ m6, mo / 12 = m6 := ⟨_, rfl⟩
  have e0 := xs_chain (n := n) r1 n1 x0 x1 x2 x3 x4 mo m5 m6 h5 h6
  have hfc := xs_fc (pA T ia) x0 x1 x2 x3 x4 mo m5 m6 h5 h6
  unfold lawF
  generalize fcF x0 x1 x2 x3 x4 mo = fc at hfc ⊢
  generalize upd (upd (upd (upd (upd (upd (upd (pA T ia) 0 x0) 1 x1) 2 x2) 3 x3) 4 x4) 5 m5) 6 m6 = F at e0 hfc
  obtain ⟨s', v', e⟩ := xs_run (n := n) (T := sF T ia F) (fc := fc) (cd := gLc g w) r0 r1 r2 n0 n1 n2 l1 l2 (fun k hk => ⟨by rw [pA_sF, if_neg d3]; exact (l4 k hk).2.1, (l4 k hk).1⟩) (fun j hj => by rw [pA_sF, if_pos rfl]; exact hfc j hj) d1 d2 n 0 0 (fun _ => 0) (pA (sF T ia F) sa) (by omega) (by omega) (by omega) (by rw [Nat.sub_zero]; exact l5 h0) (fun j hj => by omega)
  refine ⟨F, s', v', ?_⟩
  rw [e0, ← nI_0]
  have e : b_X2_value_68 n n a (nI 0) (sI (sF (sF T ia F) sa (pA (sF T ia F) sa)) 204 a (nI 0)) = _ := e
  rw [sF_self, Nat.sub_zero] at e
  rw [e, ← nI_0]
theorem sp_findFacts_b {n ma fa sa : Nat} {T : pq_S} (r4 : pR T 1237 ma = some fa) (r5 : pR T 1247 ma = some sa) (n4 : pN T fa = 7) (n5 : pN T sa = 50) (d : sa ≠ fa) : ∀ (f j : Nat) (u : Nat → Int32), j ≤ 5 → 5 < j + f → ∃ u', b_X12_findFacts_2 n f ma (nI j) (sF T fa u) = some (sF T fa u') ∧ (∀ i, i < j → u' i = u i) ∧ (∀ i, j ≤ i → i < 5 → u' i = 0) ∧ u' 5 = pA T sa 48 - pA T sa 48 / 12 * 12 ∧ u' 6 = pA T sa 48 / 12 := by
  intro f
  induction f with
  | zero => intro j u a1 a2; omega
  | succ f ih =>
    intro j u a1 a2
    rw [b_X12_findFacts_2]
    by_cases c : j = 5
    · subst c
      rw [if_pos (by decide), b_X12_findFacts_20]
      simp (disch := omega) only [ob_mk, cb_mk, lt_mk, ck_if, pR_sI, pN_sI, pA_sI, pQ_sI, pR_sA, pN_sA, pI_sA, pQ_sA, pR_sF, pN_sF, pI_sF, pQ_sF, ite_true, ite_false, if_true, if_false, not_true_eq_false, not_false_eq_true, LIT, ofN, nI_add, pk_mul, ixn, nI_clamp, nI_ltI, nI_leI, nI_eq, Nat.add_zero, Nat.zero_add, Nat.mul_zero, Nat.mul_one, Nat.reduceMul, r4, r5, n4, n5, sA_sF, pA_sF, d]
      refine ⟨_, rfl, fun i hi => ?_, fun i h1 h2 => by omega, rfl, rfl⟩
      unfold upd
      rw [if_neg (by omega), if_neg (by omega)]
    · rw [if_neg (show ¬ (5 : Int32) ≤ nI j from nI_ge (b := 5) (by omega) (by omega))]
      simp (disch := omega) only [ob_mk, cb_mk, lt_mk, ck_if, pR_sI, pN_sI, pA_sI, pQ_sI, pR_sA, pN_sA, pI_sA, pQ_sA, pR_sF, pN_sF, pI_sF, pQ_sF, ite_true, ite_false, if_true, if_false, not_true_eq_false, not_false_eq_true, LIT, ofN, nI_add, pk_mul, ixn, nI_clamp, nI_ltI, nI_leI, nI_eq, Nat.add_zero, Nat.zero_add, Nat.mul_zero, Nat.mul_one, Nat.reduceMul, r4, n4, sA_sF]
      obtain ⟨u', h1, h2, h3, h4, h5⟩ := ih (j + 1) (upd u j (nI 0)) (by omega) (by omega)
      refine ⟨u', h1, fun i hi => ?_, fun i hi1 hi2 => ?_, h4, h5⟩
      · rw [h2 i (by omega)]
        unfold upd
        rw [if_neg (by omega)]
      · by_cases e : i = j
        · rw [h2 i (by omega), e]
          unfold upd
          rw [if_pos rfl]
        · exact h3 i (by omega) hi2
theorem sp_findFacts {g : GH} {A : Nat → Nat} {T : pq_S} {st : Nat → Int32} {n : Nat} (h : RV g A T st) (hn : 10 ≤ n) : ∃ u, m_X12_findFacts n (A 60) T = some (sF T (A 77) u) ∧ (∀ i, i < 5 → u i = 0) ∧ u 5 = st 48 - st 48 / 12 * 12 ∧ u 6 = st 48 / 12 := by
  obtain ⟨u', h1, h2, h3, h4, h5⟩ := sp_findFacts_b (n := n) (T := T) h.1.r60_1237 h.1.r60_1247 h.1.n77 h.1.n81 (h.1.ne (by decide) (by decide) (by decide)) n 0 (pA T (A 77)) (by omega) (by omega)
  rw [sF_self] at h1
  rw [h.2.2.2.2 48 (by decide)] at h4 h5
  exact ⟨u', h1, fun i hi => h3 i (by omega) hi, h4, h5⟩
theorem rs_value {g : GH} {A : Nat → Nat} {T : pq_S} {n w : Nat} {u : Nat → Int32} (hn : 200 ≤ n) (hw : w < 2) (hL : LAY A T) (hl : LW g T A) (h0 : gLn g w ≠ 0) {x0 x1 x2 x3 x4 mo : Int32} (hu : ∀ j, j < 7 → u j = fcF x0 x1 x2 x3 x4 mo j) : ∃ s, m_X12_valueOf n (A 60) (nI w) (sF T (A 77) u) = some (lawF g w x0 x1 x2 x3 x4 mo, sF (sF T (A 77) u) (A 76) s) := by
  obtain ⟨l1, l2, l3, l4, l5⟩ := hl w hw
  have e : ∀ b j, b ≠ A 77 → pA (sF T (A 77) u) b j = pA T b j := fun b j hb => by rw [pA_sF, if_neg hb]
  have q1 : A 75 ≠ A 77 := hL.ne (by decide) (by decide) (by decide)
  have q2 : A 73 ≠ A 77 := hL.ne (by decide) (by decide) (by decide)
  have q3 : A 74 ≠ A 77 := hL.ne (by decide) (by decide) (by decide)
  obtain ⟨s', e1⟩ := rs_run (n := n) (ma := A 60) (T := sF T (A 77) u) (fc := fcF x0 x1 x2 x3 x4 mo) (cd := gLc g w) hw hL.r60_1234 hL.r60_1232 hL.r60_1233 hL.r60_1235 hL.r60_1237 hL.n75 hL.n73 hL.n74 hL.n76 hL.n77 l1 (by rw [e _ _ q1]; exact l3) (fun k hk => ⟨by rw [e _ _ q2]; exact (l4 k hk).2.2.1, by rw [e _ _ q3]; exact (l4 k hk).2.2.2, (l4 k hk).1⟩) (fun j hj => by rw [pA_sF, if_pos rfl]; exact hu j hj) (hL.ne (by decide) (by decide) (by decide)) (hL.ne (by decide) (by decide) (by decide)) (hL.ne (by decide) (by decide) (by decide)) (hL.ne (by decide) (by decide) (by decide)) n 0 0 (fun _ => 0) (pA (sF T (A 77) u) (A 76)) (by omega) (by omega) (by omega) (l5 h0) (fun j hj => by omega)
  rw [sF_self] at e1
  refine ⟨s', ?_⟩
  unfold m_X12_valueOf
  rw [show (150 : Int32) * nI w = nI (150 * w) from pk_mul 150 w]
  exact e1
/-- 0 at least, m at most -/
def cpF (m : Nat) (z : Int32) : Nat := if 0 ≤ z then (if z ≤ nI m then z.toNatClampNeg else m) else 0
theorem nn_of {z : Int32} (h : 0 ≤ z) : z = nI z.toNatClampNeg ∧ z.toNatClampNeg < 2 ^ 31 := by
  obtain ⟨j, hj, e⟩ := nI_of (x := z) (Int32.not_lt.mpr h)
  rw [e, nI_clamp hj]
  exact ⟨rfl, hj⟩
theorem cp_le {m : Nat} {z : Int32} (hm : m < 2 ^ 31) : cpF m z ≤ m := by
  unfold cpF
  split
  · rename_i h
    split
    · rename_i h2
      obtain ⟨e, hb⟩ := nn_of h
      rw [e, nI_leI hb hm] at h2
      exact h2
    · exact Nat.le_refl _
  · omega
theorem cp_M {n m : Nat} {z : Int32} {S : pq_S} (hm : m < 2 ^ 31) : m_X12_clamp n z (nI m) S = some (nI (cpF m z), S) := by
  unfold m_X12_clamp cpF
  by_cases h : 0 ≤ z
  · rw [if_pos h, if_pos h]
    by_cases h2 : z ≤ nI m
    · rw [if_pos h2, if_pos h2, ← (nn_of h).1]
    · rw [if_neg h2, if_neg h2]
  · rw [if_neg h, if_neg h]
    rfl
theorem cp_X {m : Nat} {z : Int32} (hm : m < 2 ^ 31) : (if 0 < (if nI m < z then nI m else z) then (if nI m < z then nI m else z) else 0) = nI (cpF m z) := by
  unfold cpF
  by_cases h : 0 ≤ z
  · obtain ⟨e, hb⟩ := nn_of h
    rw [if_pos h]
    by_cases h2 : z ≤ nI m
    · rw [if_neg (Int32.not_lt.mpr h2), if_pos h2, ← e]
      by_cases h3 : 0 < z
      · rw [if_pos h3]
      · rw [if_neg h3]
        exact Int32.le_antisymm h (Int32.not_lt.mp h3)
    · rw [if_pos (Int32.not_le.mp h2), if_neg h2]
      by_cases h3 : 0 < nI m
      · rw [if_pos h3]
      · rw [if_neg h3]
        exact Int32.le_antisymm (nI_pos' hm) (Int32.not_lt.mp h3)
  · have h4 : z < 0 := Int32.not_le.mp h
    have h5 : ¬ nI m < z := fun q => absurd (Int32.lt_trans q h4) (nI_pos hm)
    rw [if_neg h, if_neg h5, if_neg (fun q => absurd (Int32.lt_trans q h4) (by decide))]
    rfl
