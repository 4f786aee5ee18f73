theorem upd_eq {u : Nat → Int32} {k : Nat} {v : Int32} : upd u k v k = v := by unfold upd; rw [if_pos rfl]
theorem upd_ne {u : Nat → Int32} {k i : Nat} {v : Int32} (h : i ≠ k) : upd u k v i = u i := by unfold upd; rw [if_neg h]
/-- a month: of one kind at a place what stays -/
def lkF (g : GH) (h : Nat) : Nat := h * gLk g / 8
def goF (g : GH) (p h : Nat) : Nat := if h - lkF g h + gpl g (4 * p + 3) ≤ 999 then h - lkF g h + gpl g (4 * p + 3) else 999
theorem lk_le {g : GH} (hg : GB g) (h : Nat) : lkF g h ≤ h := by
  have := hg.b
  have h1 : h * gLk g ≤ h * 8 := Nat.mul_le_mul (Nat.le_refl _) (by omega)
  unfold lkF
  omega
/-- the state when the first j places have gone through the month -/
def mpF (g : GH) (st : Nat → Int32) (j : Nat) (i : Nat) : Int32 := if i < 6 then (if i < j then nI (goF g i (nS st i)) else st i) else if i < 12 then (if i - 6 < j then nI (nS st i - lkF g (nS st i)) else st i) else if i < 18 then (if i - 12 < j then st i + (nI (lkF g (nS st (i - 12))) + nI (lkF g (nS st (i - 6)))) else st i) else st i
/-- the state when the first j wants are open again, behind that -/
def mqF (g : GH) (st : Nat → Int32) (j : Nat) (i : Nat) : Int32 := if 18 ≤ i ∧ i < 30 ∧ i - 18 < j then nI 1 else mpF g st (gP g) i
def monF (g : GH) (st : Nat → Int32) (i : Nat) : Int32 := if i = 48 then st 48 + nI 1 else mqF g st (gW g) i
theorem SB.mon {g : GH} {st : Nat → Int32} (h : SB g st) (hg : GB g) : SB g (monF g st) := by
  have hb := hg.b
  refine ⟨fun p hp => ⟨goF g p (nS st p), ?_, ?_⟩, fun p hp => ⟨nS st (6 + p) - lkF g (nS st (6 + p)), ?_, ?_⟩, fun i hi => Or.inr ?_, fun m hm => ?_⟩
  · unfold goF; split <;> omega
  · unfold monF mqF mpF
    rw [if_neg (by omega), if_neg (by omega), if_pos (by omega), if_pos hp]
  · have := (h.h1 hp).2; omega
  · unfold monF mqF mpF
    rw [if_neg (by omega), if_neg (by omega), if_neg (by omega), if_pos (by omega), if_pos (by omega)]
  · unfold monF mqF
    rw [if_neg (by omega), if_pos ⟨by omega, by omega, by omega⟩]
    rfl
  · obtain ⟨k, hk, e⟩ := h.2.2.2 m hm
    refine ⟨k, hk, ?_⟩
    unfold monF mqF mpF
    rw [if_neg (by omega), if_neg (by omega), if_neg (by omega), if_neg (by omega), if_neg (by omega)]
    exact e
section
variable {g : GH} {A : Nat → Nat} {T : pq_S} {st : Nat → Int32} {n : Nat}
theorem r_adds {u : Nat → Int32} (hL : LAY A T) {k h d : Nat} (hk : k < 50) (hh : h ≤ 2000) (hd : d ≤ 2000) (e : u k = nI h) : m_X12_adds n (A 60) (nI k) (nI d) (sF T (A 81) u) = some (sF T (A 81) (upd u k (nI (if h + d ≤ 999 then h + d else 999)))) := by
  have eS : pA (sF T (A 81) u) (A 81) k = nI h := by rw [pA_sF, if_pos rfl, e]
  have R : pR (sF T (A 81) u) 1247 (A 60) = some (A 81) := hL.r60_1247
  have N : pN (sF T (A 81) u) (A 81) = 50 := hL.n81
  unfold m_X12_adds
  rw [R, ob_mk, ob_mk, N, ck_pos (ixn (by omega) (by omega)), nI_clamp (by omega), eS, nI_add]
  by_cases c : h + d ≤ 999
  · rw [if_pos (show nI (h + d) ≤ 999 from nI_le (b := 999) c (by omega)), ob_mk, N, ck_pos (ixn (by omega) (by omega)), ck_pos (ixn (by omega) (by omega)), lt_mk, eS, nI_add, sA_sF, if_pos c]
  · rw [if_neg (show ¬ nI (h + d) ≤ 999 from nI_ge (a := 999) (by omega) (by omega)), ck_pos (ixn (by omega) (by omega)), sA_sF, if_neg c]
    rfl
theorem r_mon1 (hL : LAY A T) (hg : GB g) (hs : SB g st) (hc : CM g T A) : ∀ (f j : Nat) (u : Nat → Int32), j ≤ gP g → gP g < j + f → (∀ i, i < 50 → u i = mpF g st j i) → ∃ u', b_X12_month_2 n f (A 60) (nI j) (sF T (A 81) u) = b_X12_month_108 n (A 60) (sF T (A 81) u') ∧ ∀ i, i < 50 → u' i = mpF g st (gP g) i := by
  have hb := hg.b
  intro f
  induction f with
  | zero => intro j u a1 a2; omega
  | succ f ih =>
    intro j u a1 a2 hu
    have R : ∀ v, pR (sF T (A 81) v) 1247 (A 60) = some (A 81) := fun _ => hL.r60_1247
    have R2 : ∀ v, pR (sF T (A 81) v) 1214 (A 60) = some (A 67) := fun _ => hL.r60_1214
    have N : ∀ v, pN (sF T (A 81) v) (A 81) = 50 := fun _ => hL.n81
    have N2 : ∀ v, pN (sF T (A 81) v) (A 67) = 24 := fun _ => hL.n67
    have I1 : ∀ v, pI (sF T (A 81) v) 1224 (A 60) = nI (gP g) := fun _ => hc.1.1
    have I2 : ∀ v, pI (sF T (A 81) v) 1228 (A 60) = nI (gLk g) := fun _ => hc.1.2.2.2.2.1
    have eS : ∀ v i, pA (sF T (A 81) v) (A 81) i = v i := fun v i => by rw [pA_sF, if_pos rfl]
    have d67 : A 67 ≠ A 81 := hL.ne (by decide) (by decide) (by decide)
    have e67 : ∀ v i, i < 4 * gP g → pA (sF T (A 81) v) (A 67) i = nI (gpl g i) := fun v i hi => by rw [pA_sF, if_neg d67]; exact hc.2.1 i hi
    by_cases c : gP g ≤ j
    · rw [b_X12_month_2, I1, if_pos (nI_le c (by omega))]
      exact ⟨u, rfl, by rw [show gP g = j by omega]; exact hu⟩
    · have hj : j < gP g := by omega
      have s0 := hs.h0 hj
      have s1 := hs.h1 hj
      have g3 := hg.p (i := 4 * j + 3) (by omega)
      have u0 : u j = nI (nS st j) := by
        rw [hu j (by omega), ← s0.1]; unfold mpF; rw [if_pos (by omega), if_neg (by omega)]
      have u1 : u (6 + j) = nI (nS st (6 + j)) := by
        rw [hu (6 + j) (by omega), ← s1.1]; unfold mpF; rw [if_neg (by omega), if_pos (by omega), if_neg (by omega)]
      have m0 : nS st j * gLk g ≤ 999 * 8 := Nat.mul_le_mul s0.2 (by omega)
      have m1 : nS st (6 + j) * gLk g ≤ 999 * 8 := Nat.mul_le_mul s1.2 (by omega)
      have l0 := lk_le hg (nS st j)
      have l1 := lk_le hg (nS st (6 + j))
      have q0 : nI (nS st j) * nI (gLk g) / 8 = nI (lkF g (nS st j)) := by
        rw [pk_mul, show (8 : Int32) = nI 8 from rfl, pk_div (by omega) (by omega) (by omega)]; rfl
      have q1 : nI (nS st (6 + j)) * nI (gLk g) / 8 = nI (lkF g (nS st (6 + j))) := by
        rw [pk_mul, show (8 : Int32) = nI 8 from rfl, pk_div (by omega) (by omega) (by omega)]; rfl
      have x0 : (0 : Int32) + nI j = nI j := by rw [show (0 : Int32) = nI 0 from rfl, nI_add, Nat.zero_add]
      have x6 : (6 : Int32) + nI j = nI (6 + j) := nI_add 6 j
      have x12 : (12 : Int32) + nI j = nI (12 + j) := nI_add 12 j
      have x4 : (4 : Int32) * nI j + (3 : Int32) = nI (4 * j + 3) := by
        rw [show (4 : Int32) * nI j = nI (4 * j) from pk_mul 4 j]; exact nI_add (4 * j) 3
      have k0 : (nI j).toNatClampNeg = j := nI_clamp (by omega)
      have k6 : (nI (6 + j)).toNatClampNeg = 6 + j := nI_clamp (by omega)
      have k12 : (nI (12 + j)).toNatClampNeg = 12 + j := nI_clamp (by omega)
      have k4 : (nI (4 * j + 3)).toNatClampNeg = 4 * j + 3 := nI_clamp (by omega)
      rw [b_X12_month_2, I1, if_neg (nI_ge (by omega) (by omega)), x0, x6, x12, x4, k0, k6, k12, k4, R, ob_mk, N, ck_pos (ixn (by omega) (by omega)), lt_mk, eS, u0, I2, q0, ob_mk, N, ck_pos (ixn (by omega) (by omega)), lt_mk, eS, u1, q1, ob_mk, N, ck_pos (ixn (by omega) (by omega)), ck_pos (ixn (by omega) (by omega)), lt_mk, eS, u0, pk_sub l0, sA_sF, R, ob_mk, N, ck_pos (ixn (by omega) (by omega)), ck_pos (ixn (by omega) (by omega)), lt_mk, eS, upd_ne (show 6 + j ≠ j by omega), u1, pk_sub l1, sA_sF, R, ob_mk, N, ck_pos (ixn (by omega) (by omega)), ck_pos (ixn (by omega) (by omega)), lt_mk, eS, upd_ne (show 12 + j ≠ 6 + j by omega), upd_ne (show 12 + j ≠ j by omega), sA_sF, R2, ob_mk, N2, ck_pos (ixn (by omega) (by omega)), e67 _ _ (by omega)]
      rw [r_adds (h := nS st j - lkF g (nS st j)) hL (by omega) (by omega) (by omega) (by rw [upd_ne (by omega), upd_ne (by omega), upd_eq]), ob_mk, nI_1]
      refine ih (j + 1) _ (by omega) (by omega) (fun i hi => ?_)
      have hui := hu i hi
      unfold mpF at hui ⊢
      by_cases e0 : i = j
      · subst e0
        have z1 : i < 6 := by omega
        have z2 : i < i + 1 := by omega
        simp only [upd_eq, if_pos z1, if_pos z2]
        rfl
      · rw [upd_ne e0]
        by_cases e2 : i = 12 + j
        · subst e2
          rw [upd_eq, hui, if_neg (by omega), if_neg (by omega), if_pos (by omega), if_neg (by omega), if_neg (by omega), if_neg (by omega), if_pos (by omega), if_pos (by omega), show 12 + j - 12 = j by omega, show 12 + j - 6 = 6 + j by omega]
        · rw [upd_ne e2]
          by_cases e1 : i = 6 + j
          · subst e1
            rw [upd_eq, if_neg (by omega), if_pos (by omega), if_pos (by omega)]
          · rw [upd_ne e1, upd_ne e0, hui]
            by_cases z0 : i < 6
            · rw [if_pos z0, if_pos z0]
              by_cases z1 : i < j
              · rw [if_pos z1, if_pos (by omega)]
              · rw [if_neg z1, if_neg (by omega)]
            · rw [if_neg z0, if_neg z0]
              by_cases z2 : i < 12
              · rw [if_pos z2, if_pos z2]
                by_cases z1 : i - 6 < j
                · rw [if_pos z1, if_pos (by omega)]
                · rw [if_neg z1, if_neg (by omega)]
              · rw [if_neg z2, if_neg z2]
                by_cases z3 : i < 18
                · rw [if_pos z3, if_pos z3]
                  by_cases z1 : i - 12 < j
                  · rw [if_pos z1, if_pos (by omega)]
                  · rw [if_neg z1, if_neg (by omega)]
                · rw [if_neg z3, if_neg z3]
theorem r_mon2 (hL : LAY A T) (hg : GB g) (hc : CM g T A) : ∀ (f j : Nat) (u : Nat → Int32), j ≤ gW g → gW g < j + f → (∀ i, i < 50 → u i = mqF g st j i) → ∃ u', b_X12_month_110 n f (A 60) (nI j) (sF T (A 81) u) = b_X12_month_134 n (A 60) (sF T (A 81) u') ∧ ∀ i, i < 50 → u' i = mqF g st (gW g) i := by
  have hb := hg.b
  intro f
  induction f with
  | zero => intro j u a1 a2; omega
  | succ f ih =>
    intro j u a1 a2 hu
    have R : pR (sF T (A 81) u) 1247 (A 60) = some (A 81) := hL.r60_1247
    have N : pN (sF T (A 81) u) (A 81) = 50 := hL.n81
    have I1 : pI (sF T (A 81) u) 1225 (A 60) = nI (gW g) := hc.1.2.1
    rw [b_X12_month_110, I1]
    by_cases c : gW g ≤ j
    · rw [if_pos (nI_le c (by omega))]
      exact ⟨u, rfl, by rw [show gW g = j by omega]; exact hu⟩
    · rw [if_neg (nI_ge (by omega) (by omega)), R, ob_mk, N, show (18 : Int32) + nI j = nI (18 + j) from nI_add 18 j, ck_pos (ixn (by omega) (by omega)), nI_clamp (by omega), sA_sF, nI_1]
      refine ih (j + 1) _ (by omega) (by omega) (fun i hi => ?_)
      have hui := hu i hi
      unfold mqF at hui ⊢
      by_cases e0 : i = 18 + j
      · subst e0
        rw [upd_eq, if_pos ⟨by omega, by omega, by omega⟩]
        rfl
      · rw [upd_ne e0, hui]
        by_cases z : 18 ≤ i ∧ i < 30 ∧ i - 18 < j
        · rw [if_pos z, if_pos ⟨z.1, z.2.1, by omega⟩]
        · rw [if_neg z, if_neg (fun q => z ⟨q.1, q.2.1, by omega⟩)]
theorem r_mon (h : RV g A T st) (hn : 30 ≤ n) : ∃ u, m_X12_month n (A 60) T = some (sF T (A 81) u) ∧ RV g A (sF T (A 81) u) (monF g st) := by
  have hb := h.2.1.b
  obtain ⟨u1, e1, e2⟩ := r_mon1 (n := n) h.1 h.2.1 h.2.2.1 h.2.2.2.1 n 0 (pA T (A 81)) (by omega) (by omega) (fun i hi => by
    rw [h.2.2.2.2 i hi]; unfold mpF
    rw [if_neg (Nat.not_lt_zero _), if_neg (Nat.not_lt_zero _), if_neg (Nat.not_lt_zero _)]
    split
    · rfl
    · split
      · rfl
      · split <;> rfl)
  obtain ⟨u2, f1, f2⟩ := r_mon2 (n := n) (st := st) h.1 h.2.1 h.2.2.2.1 n 0 u1 (by omega) (by omega) (fun i hi => by
    rw [e2 i hi]; unfold mqF
    rw [if_neg (fun q => by omega)])
  rw [sF_self] at e1
  have fin : m_X12_month n (A 60) T = some (sF T (A 81) (upd u2 48 (u2 48 + 1))) := by
    unfold m_X12_month
    rw [← nI_0, e1, b_X12_month_108, ← nI_0, f1, b_X12_month_134]
    have R : pR (sF T (A 81) u2) 1247 (A 60) = some (A 81) := h.1.r60_1247
    have N : pN (sF T (A 81) u2) (A 81) = 50 := h.1.n81
    rw [R, ob_mk, N, show (48 : Int32) = nI 48 from rfl, ck_pos (ixn (by omega) (by omega)), ck_pos (ixn (by omega) (by omega)), lt_mk, nI_clamp (by omega), sA_sF, pA_sF, if_pos rfl]
  refine ⟨_, fin, ?_⟩
  have d : ∀ c ∈ [67, 68, 69, 70], A c ≠ A 81 := fun c hc => h.1.ne (show c < 92 by revert c; decide) (by decide) (by revert c; decide)
  refine ⟨h.1, h.2.1, h.2.2.1.mon h.2.1, h.2.2.2.1.cg (fun _ _ => rfl) (fun c hc i => by rw [pA_sF, if_neg (d c (by revert c; decide))]), fun i hi => ?_⟩
  rw [pA_sF, if_pos rfl]
  unfold monF
  by_cases e : i = 48
  · subst e
    rw [upd_eq, if_pos rfl, f2 48 hi]
    unfold mqF mpF
    rw [if_neg (by omega), if_neg (by omega), if_neg (by omega), if_neg (by omega)]
    rfl
  · rw [upd_ne e, if_neg e, f2 i hi]
/-! the class's tables, written -/
theorem x_at15 {u : Nat → Int32} (hL : LAY A T) {p c : Nat} (hp : p < 6) (hc : c < 3) : m_X9_at n (A 14) (nI p) (nI c) (sF T (A 15) u) = some (u (3 * p + c), sF T (A 15) u) := by
  rw [sp_atn (S := sF T (A 15) u) rfl hL.r14_900 (w := 3) hL.w14 (show pN T (A 15) < _ by rw [hL.n15]; decide) (show _ < pN T (A 15) by rw [hL.n15]; omega), pA_sF, if_pos rfl, show p * 3 + c = 3 * p + c by omega]
theorem x_put15 {u : Nat → Int32} (hL : LAY A T) {p c : Nat} {v : Int32} (hp : p < 6) (hc : c < 3) : m_X9_put n (A 14) (nI p) (nI c) v (sF T (A 15) u) = some (sF T (A 15) (upd u (3 * p + c) v)) := by
  rw [sp_putn (S := sF T (A 15) u) rfl hL.r14_900 (w := 3) hL.w14 (show pN T (A 15) < _ by rw [hL.n15]; decide) (show _ < pN T (A 15) by rw [hL.n15]; omega), sA_sF, show p * 3 + c = 3 * p + c by omega]
theorem x_add15 {u : Nat → Int32} (hL : LAY A T) {p c : Nat} {v : Int32} (hp : p < 6) (hc : c < 3) : m_X9_add n (A 14) (nI p) (nI c) v (sF T (A 15) u) = some (sF T (A 15) (upd u (3 * p + c) (u (3 * p + c) + v))) := by
  unfold m_X9_add
  rw [x_at15 hL hp hc, cb_mk, x_put15 hL hp hc, ob_mk]
theorem x_put17 {u : Nat → Int32} (hL : LAY A T) {p c : Nat} {v : Int32} (hp : p < 12) (hc : c < 2) : m_X9_put n (A 16) (nI p) (nI c) v (sF T (A 17) u) = some (sF T (A 17) (upd u (2 * p + c) v)) := by
  rw [sp_putn (S := sF T (A 17) u) rfl hL.r16_900 (w := 2) hL.w16 (show pN T (A 17) < _ by rw [hL.n17]; decide) (show _ < pN T (A 17) by rw [hL.n17]; omega), sA_sF, show p * 2 + c = 2 * p + c by omega]
/-- the class's hours, the first j places gone through the month -/
def hpF (g : GH) (st : Nat → Int32) (j : Nat) (u : Nat → Int32) : Prop := ∀ p, p < gP g → u (3 * p) = mpF g st j p ∧ u (3 * p + 1) = mpF g st j (6 + p) ∧ u (3 * p + 2) = mpF g st j (12 + p)
theorem x_leak {u : Nat → Int32} (hL : LAY A T) (hg : GB g) (hc : CX g T A) {h : Nat} (hh : h ≤ 999) : m_X7_leaking n (A 3) (nI h) (sF T (A 15) u) = some (nI (lkF g h), sF T (A 15) u) := by
  have hb := hg.b
  have m0 : h * gLk g ≤ 999 * 8 := Nat.mul_le_mul hh (by omega)
  unfold m_X7_leaking
  have R : pR (sF T (A 15) u) 700 (A 3) = some (A 4) := hL.r3_700
  have I : pI (sF T (A 15) u) 104 (A 4) = nI (gLk g) := hc.1.2.2.2.2.1
  rw [R, ob_mk, I, pk_mul, show (8 : Int32) = nI 8 from rfl, pk_div (by omega) (by omega) (by omega)]
  rfl
theorem x_pl15 {u : Nat → Int32} (hL : LAY A T) (hg : GB g) (hc : CX g T A) {p c : Nat} (hp : p < gP g) (hc4 : c < 4) : m_X9_at n (A 5) (nI p) (nI c) (sF T (A 15) u) = some (nI (gpl g (4 * p + c)), sF T (A 15) u) := by
  have hb := hg.b
  have d : A 6 ≠ A 15 := hL.ne (by decide) (by decide) (by decide)
  rw [sp_atn (S := sF T (A 15) u) rfl hL.r5_900 (w := 4) hL.w5 (show pN T (A 6) < _ by rw [hL.n6]; decide) (show _ < pN T (A 6) by rw [hL.n6]; omega), pA_sF, if_neg d, hc.2.1 _ (by omega), show p * 4 + c = 4 * p + c by omega]
theorem x_behind {u : Nat → Int32} (hL : LAY A T) (hg : GB g) (hc : CX g T A) {p h k : Nat} (hp : p < gP g) (hk : k < 2) (hh : h ≤ 999) : m_X7_behindMonth n (A 3) (nI p) (nI k) (nI h) (sF T (A 15) u) = some (nI (if k = 0 then goF g p h else h - lkF g h), sF T (A 15) u) := by
  have hb := hg.b
  have l0 := lk_le hg h
  have g3 := hg.p (i := 4 * p + 3) (by omega)
  unfold m_X7_behindMonth
  rw [x_leak hL hg hc hh, cb_mk, pk_sub l0]
  by_cases c : k = 0
  · have R : pR (sF T (A 15) u) 700 (A 3) = some (A 4) := hL.r3_700
    have R2 : pR (sF T (A 15) u) 100 (A 4) = some (A 5) := hL.r4_100
    rw [c, if_pos (show nI 0 = 0 from rfl), R, ob_mk, R2, ob_mk, show (3 : Int32) = nI 3 from rfl, x_pl15 hL hg hc hp (by decide), cb_mk, nI_add, if_pos rfl]
    unfold goF
    by_cases c2 : h - lkF g h + gpl g (4 * p + 3) ≤ 999
    · rw [if_neg (show ¬ (999 : Int32) < _ from nI_nlt (a := 999) c2 (by omega)), if_pos c2]
    · rw [if_pos (show (999 : Int32) < _ from nI_lt (a := 999) (by omega) (by omega)), if_neg c2]
      rfl
  · rw [if_neg (nI_ne0 (by omega) (by omega)), if_neg c]
theorem x_pmF {u : Nat → Int32} (hL : LAY A T) (hg : GB g) (hc : CX g T A) {p h k : Nat} (hp : p < gP g) (hk : k < 2) (hh : h ≤ 999) (e : u (3 * p + k) = nI h) : m_X7_passMonthFor n (A 3) (nI p) (nI k) (sF T (A 15) u) = some (sF T (A 15) (upd (upd u (3 * p + 2) (u (3 * p + 2) + nI (lkF g h))) (3 * p + k) (nI (if k = 0 then goF g p h else h - lkF g h)))) := by
  have hb := hg.b
  have R1 : ∀ v, pR (sF T (A 15) v) 701 (A 3) = some (A 13) := fun _ => hL.r3_701
  have R2 : ∀ v, pR (sF T (A 15) v) 800 (A 13) = some (A 14) := fun _ => hL.r13_800
  unfold m_X7_passMonthFor
  rw [R1, ob_mk, R2, ob_mk, x_at15 hL (by omega) (by omega), cb_mk, e, R1, ob_mk, R2, ob_mk, x_leak hL hg hc hh, cb_mk, show (2 : Int32) = nI 2 from rfl, x_add15 hL (by omega) (by omega), ob_mk, R1, ob_mk, R2, ob_mk, x_behind hL hg hc hp hk hh, cb_mk, x_put15 hL (by omega) (by omega), ob_mk]
end
