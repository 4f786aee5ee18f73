/-- the least price from x on, of k, at which no more than t is wanted -/
def pf (H : Nat → Nat) (t : Nat) : Nat → Nat → Nat
  | 0, x => x
  | k + 1, x => if H x ≤ t then x else pf H t k (x + 1)
theorem pf_le (H : Nat → Nat) (t : Nat) : ∀ k x, pf H t k x ≤ x + k := by
  intro k
  induction k with
  | zero => intro x; exact Nat.le_refl _
  | succ k ih =>
    intro x
    rw [pf]
    have := ih (x + 1)
    split <;> omega
theorem pf_ge {H : Nat → Nat} {t : Nat} (hm : ∀ a b, a ≤ b → H b ≤ H a) : ∀ k x v, x ≤ v → v ≤ x + k → (v ≤ pf H t k x ↔ v = x ∨ t < H (v - 1)) := by
  intro k
  induction k with
  | zero => intro x v h1 h2; rw [pf]; exact ⟨fun h => Or.inl (by omega), fun _ => by omega⟩
  | succ k ih =>
    intro x v h1 h2
    rw [pf]
    by_cases c : H x ≤ t
    · rw [if_pos c]
      refine ⟨fun h => Or.inl (by omega), fun h => ?_⟩
      rcases h with h | h
      · omega
      · by_cases e : v = x
        · omega
        · have := hm x (v - 1) (by omega)
          omega
    · rw [if_neg c]
      by_cases e : v = x
      · subst e
        refine ⟨fun _ => Or.inl rfl, fun _ => ?_⟩
        by_cases hk : k = 0
        · subst hk; rw [pf]; omega
        · have := (ih (v + 1) (v + 1) (by omega) (by omega)).mpr (Or.inl rfl)
          omega
      · have := ih (x + 1) v (by omega) (by omega)
        rw [this]
        refine ⟨fun h => ?_, fun h => ?_⟩
        · rcases h with h | h
          · subst h; rw [show x + 1 - 1 = x by omega]; right; omega
          · exact Or.inr h
        · rcases h with h | h
          · exact absurd h e
          · exact Or.inr h
section
variable {g : GH} {A : Nat → Nat} {S : pq_S} {st : Nat → Int32} {n : Nat}
theorem xv_pf (h : XV g A S st) (hn : 20 ≤ n) {p t : Nat} (hp : p < gP g) (ht : t < 2 ^ 31) : ∀ (f x : Nat), x ≤ 100 → 100 < x + f → b_X3_clearingPrice_11 n f (A 28) (nI p) (nI t) (nI x) S = some (nI (pf (HW g st p) t (100 - x) x), S) := by
  have hb := h.2.1.b
  intro f
  induction f with
  | zero => intro x h1 h2; omega
  | succ f ih =>
    intro x h1 h2
    rw [b_X3_clearingPrice_11]
    by_cases c : x = 100
    · subst c
      rw [if_pos (by decide)]
      rfl
    · have hH := HW_le (st := st) (p := p) (pr := x) h.2.1
      rw [if_neg (show ¬ (100 : Int32) ≤ nI x from nI_ge (b := 100) (by omega) (by omega)), h.1.r28_300, ob_mk, xv_HW h (by omega) (by omega) hn, cb_mk, show 100 - x = (100 - (x + 1)) + 1 by omega, pf]
      by_cases c2 : HW g st p x ≤ t
      · rw [if_pos ((nI_leI (by omega) ht).mpr c2), if_pos c2]
      · rw [if_neg (fun q => c2 ((nI_leI (by omega) ht).mp q)), if_neg c2, nI_1]
        exact ih (x + 1) (by omega) (by omega)
theorem rv_pf (h : RV g A S st) (hn : 20 ≤ n) {p t : Nat} (hp : p < gP g) (ht : t < 2 ^ 31) (hst : st p + st (6 + p) = nI t) : ∀ (f x : Nat), x ≤ 100 → 100 < x + f → b_X12_priceAt_2 n f (A 60) (nI p) (nI x) S = some (nI (pf (HW g st p) t (100 - x) x), S) := by
  have hb := h.2.1.b
  intro f
  induction f with
  | zero => intro x h1 h2; omega
  | succ f ih =>
    intro x h1 h2
    have hH := HW_le (st := st) (p := p) (pr := x) h.2.1
    rw [b_X12_priceAt_2, rv_HW h (by omega) (by omega) hn, cb_mk, h.1.r60_1247, ob_mk, h.1.n81, show (0 : Int32) + nI p = nI p from by rw [show (0 : Int32) = nI 0 from rfl, nI_add, Nat.zero_add], show (6 : Int32) + nI p = nI (6 + p) from nI_add 6 p, ck_pos (ixn (by omega) (by omega)), ob_mk, h.1.n81, ck_pos (ixn (by omega) (by omega)), nI_clamp (by omega), nI_clamp (by omega), h.2.2.2.2 _ (by omega), h.2.2.2.2 _ (by omega), hst]
    by_cases c : x = 100
    · subst c
      rw [if_pos ((nI_leI (by omega) ht).mpr (by rw [HW_100 h.2.1]; omega))]
      rfl
    · rw [show 100 - x = (100 - (x + 1)) + 1 by omega, pf]
      by_cases c2 : HW g st p x ≤ t
      · rw [if_pos ((nI_leI (by omega) ht).mpr c2), if_pos c2]
      · rw [if_neg (fun q => c2 ((nI_leI (by omega) ht).mp q)), if_neg c2, nI_1]
        exact ih (x + 1) (by omega) (by omega)
/-- the price at a place, t hours being there -/
def PF (g : GH) (st : Nat → Int32) (p t : Nat) : Nat := pf (HW g st p) t 100 0
theorem xv_PF (h : XV g A S st) (hn : 200 ≤ n) {p : Nat} (hp : p < gP g) : m_X3_clearingPrice n (A 28) (nI p) S = some (nI (PF g st p (nS st p + nS st (6 + p))), S) := by
  have hb := h.2.1.b
  have s0 := h.2.2.1.h0 hp
  have s1 := h.2.2.1.h1 hp
  unfold m_X3_clearingPrice
  rw [h.1.r28_300, ob_mk, xv_hoursAt h hp, cb_mk, s0.1, s1.1, nI_add]
  exact xv_pf h (by omega) hp (by omega) n 0 (by omega) (by omega)
theorem rv_PF (h : RV g A S st) (hn : 200 ≤ n) {p : Nat} (hp : p < gP g) : m_X12_priceAt n (A 60) (nI p) S = some (nI (PF g st p (nS st p + nS st (6 + p))), S) := by
  have hb := h.2.1.b
  have s0 := h.2.2.1.h0 hp
  have s1 := h.2.2.1.h1 hp
  exact rv_pf h (by omega) hp (by omega) (by rw [s0.1, s1.1, nI_add]) n 0 (by omega) (by omega)
theorem rv_sA (h : RV g A S st) {k : Nat} {v : Int32} {st' : Nat → Int32} (hs : SB g st') (e : ∀ i, i < 50 → st' i = if i = k then v else st i) : RV g A (sA S (A 81) k v) st' := by
  have a1 : A 67 ≠ A 81 := h.1.ne (by decide) (by decide) (by decide)
  have a2 : A 68 ≠ A 81 := h.1.ne (by decide) (by decide) (by decide)
  have a3 : A 69 ≠ A 81 := h.1.ne (by decide) (by decide) (by decide)
  have a4 : A 70 ≠ A 81 := h.1.ne (by decide) (by decide) (by decide)
  obtain ⟨c1, c2, c3, c4, c5⟩ := h.2.2.2.1
  refine ⟨h.1, h.2.1, hs, ⟨c1, fun i hi => ?_, fun i hi => ?_, fun i hi => ?_, fun i hi => ?_⟩, fun i hi => ?_⟩
  · rw [pA_sA, if_neg (fun q => a1 q.1)]; exact c2 i hi
  · rw [pA_sA, if_neg (fun q => a2 q.1)]; exact c3 i hi
  · rw [pA_sA, if_neg (fun q => a3 q.1)]; exact c4 i hi
  · rw [pA_sA, if_neg (fun q => a4 q.1)]; exact c5 i hi
  · rw [pA_sA, e i hi]
    by_cases c : i = k
    · rw [if_pos ⟨rfl, c⟩, if_pos c]
    · rw [if_neg (fun q => c q.2), if_neg c]; exact h.2.2.2.2 i hi
/-- the state with another figure at k -/
def stu (st : Nat → Int32) (k : Nat) (v : Int32) : Nat → Int32 := fun i => if i = k then v else st i
theorem hw_stu {p0 pr k : Nat} {v : Int32} (hk : k < 18) : ∀ (j i acc : Nat), hw g (stu st k v) p0 pr j i acc = hw g st p0 pr j i acc := by
  intro j
  induction j with
  | zero => intro i acc; rfl
  | succ j ih =>
    intro i acc
    rw [hw, hw, ih]
    have : stu st k v (18 + i) = st (18 + i) := if_neg (by omega)
    rw [this]
theorem sb_stu {g : GH} {st : Nat → Int32} (h : SB g st) {p m : Nat} (hp : p < gP g) (hP : gP g ≤ 6) (hm : m ≤ 999) : SB g (stu st p (nI m)) := by
  refine ⟨fun q hq => ?_, fun q hq => ?_, fun i hi => ?_, fun i hi => ?_⟩
  · unfold stu
    by_cases e : q = p
    · exact ⟨m, hm, if_pos e⟩
    · rw [if_neg e]; exact h.1 q hq
  · unfold stu
    rw [if_neg (by omega)]; exact h.2.1 q hq
  · unfold stu
    rw [if_neg (by omega)]; exact h.2.2.1 i hi
  · unfold stu
    rw [if_neg (by omega)]; exact h.2.2.2 i hi
/-- the corner: from j on, of k -/
def crF (P : Nat → Nat) (G W v : Nat) : Nat → Nat → Int32
  | 0, _ => -1
  | k + 1, j => if v ≤ P (G - j + W) then nI j else crF P G W v k (j + 1)
theorem cr_eq {P : Nat → Nat} {G W v H : Nat} (hP : ∀ t, v ≤ P t ↔ t < H) (hG : G < 2 ^ 30) : ∀ k j, j + k = G + 1 → (∀ i, i < j → H ≤ G - i + W) → crF P G W v k j = if G < G + W + 1 - H then -1 else nI (G + W + 1 - H) := by
  intro k
  induction k with
  | zero =>
    intro j h1 h2
    have := h2 G (by omega)
    rw [crF, if_pos (by omega)]
  | succ k ih =>
    intro j h1 h2
    rw [crF]
    by_cases c : v ≤ P (G - j + W)
    · have c1 := (hP _).mp c
      rw [if_pos c]
      have e : G + W + 1 - H = j := by
        by_cases hj : j = 0
        · omega
        · have := h2 (j - 1) (by omega)
          omega
      rw [if_neg (by omega), e]
    · rw [if_neg c]
      have c1 : H ≤ G - j + W := by
        by_cases q : H ≤ G - j + W
        · exact q
        · exact absurd ((hP _).mpr (by omega)) c
      exact ih (j + 1) (by omega) (fun i hi => by
        by_cases e : i = j
        · subst e; exact c1
        · exact h2 i (by omega))
theorem neg1 {a b : Nat} (h : a < b) (hb : b < 2 ^ 30) : ¬ (0 : Int32) < nI a - nI b + 1 := by
  rw [Int32.lt_iff_toInt_lt, Int32.toInt_add, pk_sub_toInt (by omega) hb]
  have e1 : (1 : Int32).toInt = 1 := by decide
  have e0 : (0 : Int32).toInt = 0 := by decide
  rw [e1, e0, Int.bmod_eq_of_le (by omega) (by omega)]
  omega
theorem HW_stu {p0 pr k : Nat} {v : Int32} (hk : k < 18) : HW g (stu st k v) p0 pr = HW g st p0 pr := hw_stu hk _ _ _
theorem PF_stu {p0 t k : Nat} {v : Int32} (hk : k < 18) : PF g (stu st k v) p0 t = PF g st p0 t := by
  unfold PF
  rw [show HW g (stu st k v) p0 = HW g st p0 from funext fun pr => HW_stu hk]
theorem xv_corner (h : XV g A S st) (hn : 200 ≤ n) {p v : Nat} (hp : p < gP g) (hv : v ≤ 100) : m_X3_hoursToCorner n (A 28) (nI p) (nI v) S = some (crF (PF g st p) (nS st p) (nS st (6 + p)) v (nS st p + 1) 0, S) := by
  have hb := h.2.1.b
  have s0 := h.2.2.1.h0 hp
  have s1 := h.2.2.1.h1 hp
  unfold m_X3_hoursToCorner
  by_cases c : v = 0
  · subst c
    rw [if_pos (show nI 0 = 0 from rfl), crF, if_pos (Nat.zero_le _)]
    rfl
  · have hH := HW_le (st := st) (p := p) (pr := v - 1) h.2.1
    have hat : m_X9_at n (A 14) (nI p) 0 S = some (st p, S) := by
      have := h.ho (n := n) (p := p) (c := 0) hp (by decide)
      rw [Nat.mul_zero, Nat.zero_add] at this
      exact this
    rw [if_neg (nI_ne0 (by omega) (by omega)), h.1.r28_300, ob_mk, xv_hoursAt h hp, cb_mk, h.1.r28_300, ob_mk, show nI v - 1 = nI (v - 1) from pk_sub (b := 1) (by omega), xv_HW h (by omega) (by omega) (by omega), cb_mk, lt_mk, h.1.r28_300, ob_mk, h.1.r3_701, ob_mk, h.1.r13_800, ob_mk, hat, cb_mk, s0.1, s1.1, nI_add]
    rw [cr_eq (H := HW g st p (v - 1)) (fun t => by
      have := pf_ge (H := HW g st p) (t := t) (fun a b hab => HW_mono hab) 100 0 v (by omega) (by omega)
      unfold PF
      rw [this]
      exact ⟨fun q => q.resolve_left c, Or.inr⟩) (by omega) _ _ (by omega) (fun i hi => by omega)]
    generalize HW g st p (v - 1) = H at hH ⊢
    generalize nS st p = G at s0 ⊢
    generalize nS st (6 + p) = W at s1 ⊢
    by_cases cc : H ≤ G + W
    · rw [pk_sub cc, nI_1, if_pos (show (0 : Int32) < nI (G + W - H + 1) from nI_lt0 (by omega) (by omega)), show G + W - H + 1 = G + W + 1 - H by omega]
      by_cases c3 : G < G + W + 1 - H
      · rw [if_pos ((nI_ltI (by omega) (by omega)).mpr c3), if_pos c3]
      · rw [if_neg (fun q => c3 ((nI_ltI (by omega) (by omega)).mp q)), if_neg c3]
    · rw [if_neg (neg1 (by omega) (by omega)), if_neg (nI_pos (by omega)), if_neg (by omega), show G + W + 1 - H = 0 by omega]
      rfl
theorem rv_corner {V : Nat → Prop} (h0 : JG A V g S) (hn : 200 ≤ n) {p v G W : Nat} (hp : p < gP g) (hv : v ≤ 100) (hG : G ≤ 999) (hW : W ≤ 999) (hst : SB g st) (eW : st (6 + p) = nI W) : ∀ (f j : Nat) (T : pq_S), j ≤ G + 1 → G + 1 < j + f → LAY A T → (j ≤ G → RV g A T (stu st p (nI (G - j)))) → (j = G + 1 → pA T (A 81) p = -1) → KP A S T → pI T 1200 (A 60) = 0 → ∃ T', b_X12_corner_38 n f (A 60) (nI p) (nI v) (nI j) T = some (crF (PF g st p) G W v (G + 1 - j) j, T') ∧ KP A S T' ∧ pI T' 1200 (A 60) = 0 := by
  have hb := h0.gb.b
  intro f
  induction f with
  | zero => intro j T h1 h2; omega
  | succ f ih =>
    intro j T h1 h2 hL hR hE hK hT
    have z0 : (0 : Int32) + nI p = nI p := by rw [show (0 : Int32) = nI 0 from rfl, nI_add, Nat.zero_add]
    rw [b_X12_corner_38, hL.r60_1247, ob_mk, hL.n81, z0, ck_pos (ixn (by omega) (by omega)), nI_clamp (by omega)]
    by_cases c : j = G + 1
    · rw [hE c, if_pos (by decide), show G + 1 - j = 0 by omega, crF]
      exact ⟨T, rfl, hK, hT⟩
    · have R := hR (by omega)
      have ep : pA T (A 81) p = nI (G - j) := by rw [R.2.2.2.2 p (by omega)]; exact if_pos rfl
      have w6 : stu st p (nI (G - j)) (6 + p) = nI W := by rw [← eW]; exact if_neg (by omega)
      have wp : stu st p (nI (G - j)) p = nI (G - j) := if_pos rfl
      have hpr := rv_PF (n := n) R hn hp
      rw [nS_of (by omega) wp, nS_of (by omega) w6, PF_stu (by omega)] at hpr
      have hle : PF g st p (G - j + W) ≤ 100 := pf_le _ _ 100 0
      rw [ep, if_neg (nI_pos (by omega)), hpr, cb_mk, show G + 1 - j = (G + 1 - (j + 1)) + 1 by omega, crF]
      by_cases c2 : v ≤ PF g st p (G - j + W)
      · rw [if_neg (nI_nlt c2 (by omega)), if_pos c2]
        exact ⟨T, rfl, hK, hT⟩
      · rw [if_pos ((nI_ltI (by omega) (by omega)).mpr (by omega)), if_neg c2, hL.r60_1247, ob_mk, hL.n81, ck_pos (ixn (by omega) (by omega)), ck_pos (ixn (by omega) (by omega)), lt_mk, nI_1, ep]
        refine ih (j + 1) _ (by omega) (by omega) hL (fun hj => ?_) (fun hj => ?_) (KPL.wA hK (by decide)) hT
        · rw [show nI (G - j) - (1 : Int32) = nI (G - (j + 1)) from pk_sub (a := G - j) (b := 1) (by omega)]
          exact rv_sA R (sb_stu hst hp hb.1 (by omega)) (fun i _ => by
            show (if i = p then _ else _) = if i = p then _ else (if i = p then _ else _)
            by_cases e : i = p
            · rw [if_pos e, if_pos e]
            · rw [if_neg e, if_neg e, if_neg e])
        · rw [pA_sA, if_pos ⟨rfl, rfl⟩, show G - j = 0 by omega]
          decide
end
theorem ob_17 (n xa ma : Nat) (hn : 20000 ≤ n) : OB_17 n xa ma (JJ xa ma) := by
  rintro S f ⟨A, V, g, rfl, rfl, h⟩ y
  have h : JG A V g S := h
  refine ⟨200, 8000, by decide, by decide, 1, 6, by decide, by decide, wrP h (fun i hi e => ?_) (fun q => ⟨rfl, ki_miss h (b := 0) (by decide) ?_⟩)⟩
  · subst e
    refine ⟨_, h.lay.r0_1102, _, _, xv_PF h.xv (by omega) hi, ki_ok h ?_ h.tkk (tk_th A S)⟩
    unfold m_X12_price
    rw [jg_P1 h hi, cb_mk, if_neg (by decide), jg_take h (by omega), ob_mk, rv_PF h.rv (by omega) hi, cb_mk]
  · unfold m_X12_price
    rw [jg_P0 h q, cb_mk, if_pos rfl]
theorem ob_18 (n xa ma : Nat) (hn : 20000 ≤ n) : OB_18 n xa ma (JJ xa ma) := by
  rintro S f ⟨A, V, g, rfl, rfl, h⟩ y z
  have h : JG A V g S := h
  have hb := h.gb.b
  refine ⟨200, 8000, by decide, by decide, 1, 6, by decide, by decide, wrP h (fun i hi e => ⟨_, _, sp_isWithin _ _ _ _ _, 1, 6, by decide, by decide, wr_need _ (fun c => ?_) (fun c => Or.inr ⟨rfl, ki_bad h (b := 0) (by decide) ?_⟩)⟩) (fun q => Or.inl ⟨rfl, ki_miss h (b := 0) (by decide) ?_⟩)⟩
  · subst e
    rcases i32_wi z 0 100 (by decide) (by decide) with ⟨v, _, hv, rfl⟩ | q
    · refine ⟨_, h.lay.r0_1102, _, _, xv_corner h.xv (by omega) hi hv, ?_⟩
      have s0 := h.sb.h0 hi
      have s1 := h.sb.h1 hi
      obtain ⟨T, e1, e2, e3⟩ := rv_corner (n := n) (st := gst g) h (by omega) hi hv s0.2 s1.2 h.sb s1.1 n 0 (tk A S) (by omega) (by omega) h.rv.1 (fun _ => by
        have : stu (gst g) i (nI (nS (gst g) i - 0)) = gst g := funext fun k => by
          show (if k = i then _ else _) = _
          by_cases e : k = i
          · rw [if_pos e, e]; exact s0.1.symm
          · rw [if_neg e]
        rw [this]
        exact h.rv) (fun q => by omega) h.tkk (tk_th A S)
      refine ki_ok h (S2 := T) ?_ e2 e3
      unfold m_X12_corner
      rw [jg_P1 h hi, cb_mk, if_neg (by decide), sp_within, if_pos c, cb_mk, sp_mayS1, cb_mk, if_neg (by decide), jg_take h (by omega), ob_mk]
      exact e1
    · exact absurd c q
  · subst e
    unfold m_X12_corner
    rw [jg_P1b h hi, cb_mk, if_neg (by decide), sp_within, if_neg c, cb_mk, jg_bad h (by decide), cb_mk, if_pos rfl]
  · unfold m_X12_corner
    rw [jg_P0 h q, cb_mk, if_pos rfl]
