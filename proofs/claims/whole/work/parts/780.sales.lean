def mxx (a b : Nat) : Nat := if a < b then b else a
theorem mxx_le {a b v : Nat} : mxx a b ≤ v ↔ a ≤ v ∧ b ≤ v := by unfold mxx; split <;> omega
theorem le_ext {a b : Nat} (h : ∀ v, a ≤ v ↔ b ≤ v) : a = b := Nat.le_antisymm ((h b).mpr (Nat.le_refl _)) ((h a).mp (Nat.le_refl _))
/-- the open wants of a place, of k from the i-th on -/
def wlF (g : GH) (st : Nat → Int32) (p : Nat) : Nat → Nat → List Nat
  | 0, _ => []
  | k + 1, i => if st (18 + i) = nI 1 ∧ gwa g (4 * i) = p then i :: wlF g st p k (i + 1) else wlF g st p k (i + 1)
abbrev keyF (wo bi : Nat) : Nat := 4096 * wo + (4095 - bi)
/-- the best set of these wants, G good and W watered hours being there -/
def BK (g : GH) (G W : Nat) : List Nat → Nat → Nat → Nat → Nat → Nat
  | [], al, ll, wo, bi => if al ≤ G ∧ ll ≤ G + W then keyF wo bi else 0
  | i :: ws, al, ll, wo, bi => mxx (BK g G W ws al ll wo bi) (BK g G W ws (al + gwa g (4 * i + 1) * gwa g (4 * i + 2)) (ll + gwa g (4 * i + 1)) (wo + gwa g (4 * i + 3)) (bi + 2 ^ i))
def ndF (W al ll : Nat) : Nat := if al < ll - W then ll - W else al
/-- the class's row of best sets, by how many good hours are needed -/
def tw (g : GH) (W : Nat) : List Nat → Nat → Nat → Nat → Nat → (Nat → Nat) → Nat → Nat
  | [], al, ll, wo, bi, arr => fun x => if x = ndF W al ll then mxx (arr x) (keyF wo bi) else arr x
  | i :: ws, al, ll, wo, bi, arr => tw g W ws (al + gwa g (4 * i + 1) * gwa g (4 * i + 2)) (ll + gwa g (4 * i + 1)) (wo + gwa g (4 * i + 3)) (bi + 2 ^ i) (tw g W ws al ll wo bi arr)
theorem tw_le {g : GH} {W G v : Nat} : ∀ (ws : List Nat) (al ll wo bi : Nat) (arr : Nat → Nat), (∀ x, x ≤ G → tw g W ws al ll wo bi arr x ≤ v) ↔ (∀ x, x ≤ G → arr x ≤ v) ∧ BK g G W ws al ll wo bi ≤ v := by
  intro ws
  induction ws with
  | nil =>
    intro al ll wo bi arr
    have hnd : ndF W al ll ≤ G ↔ al ≤ G ∧ ll ≤ G + W := by unfold ndF; split <;> omega
    unfold tw BK
    constructor
    · intro h
      refine ⟨fun x hx => ?_, ?_⟩
      · have := h x hx
        by_cases e : x = ndF W al ll
        · simp only [if_pos e] at this; exact (mxx_le.mp this).1
        · simp only [if_neg e] at this; exact this
      · by_cases c : al ≤ G ∧ ll ≤ G + W
        · rw [if_pos c]
          have := h _ (hnd.mpr c)
          simp only [if_true] at this
          exact (mxx_le.mp this).2
        · rw [if_neg c]; omega
    · rintro ⟨h1, h2⟩ x hx
      by_cases e : x = ndF W al ll
      · simp only [if_pos e]
        rw [if_pos (hnd.mp (by omega))] at h2
        exact mxx_le.mpr ⟨h1 x hx, h2⟩
      · simp only [if_neg e]; exact h1 x hx
  | cons i ws ih =>
    intro al ll wo bi arr
    unfold tw BK
    rw [ih, ih, mxx_le, and_assoc]
def pmF (arr : Nat → Nat) : Nat → Nat
  | 0 => arr 0
  | y + 1 => mxx (arr (y + 1)) (pmF arr y)
theorem pm_le {arr : Nat → Nat} {v : Nat} : ∀ y, pmF arr y ≤ v ↔ ∀ x, x ≤ y → arr x ≤ v := by
  intro y
  induction y with
  | zero => exact ⟨fun h x hx => by rw [show x = 0 by omega]; exact h, fun h => h 0 (Nat.le_refl _)⟩
  | succ y ih =>
    rw [pmF, mxx_le, ih]
    refine ⟨fun h x hx => ?_, fun h => ⟨h _ (Nat.le_refl _), fun x hx => h x (by omega)⟩⟩
    by_cases e : x = y + 1
    · rw [e]; exact h.1
    · exact h.2 x (by omega)
/-- all of them together -/
def toA (g : GH) : List Nat → Nat
  | [] => 0
  | i :: ws => gwa g (4 * i + 1) + toA g ws
def goodL (g : GH) (ws : List Nat) : Prop := ∀ i, i ∈ ws → i < gW g
theorem wl_good {g : GH} {st : Nat → Int32} {p : Nat} : ∀ k i, i + k ≤ gW g → ∀ j, j ∈ wlF g st p k i → i ≤ j ∧ j < i + k := by
  intro k
  induction k with
  | zero => intro i _ j hj; cases hj
  | succ k ih =>
    intro i hi j hj
    rw [wlF] at hj
    by_cases c : st (18 + i) = nI 1 ∧ gwa g (4 * i) = p
    · rw [if_pos c] at hj
      rcases List.mem_cons.mp hj with e | e
      · omega
      · have := ih (i + 1) (by omega) j e; omega
    · rw [if_neg c] at hj
      have := ih (i + 1) (by omega) j hj; omega
theorem BK_big {g : GH} (hg : GB g) {G W : Nat} (hG : 144 ≤ G) : ∀ (ws : List Nat) (al ll wo bi : Nat), goodL g ws → al ≤ ll → ll + 12 * ws.length ≤ 144 → BK g G W ws al ll wo bi = BK g 144 W ws al ll wo bi := by
  intro ws
  induction ws with
  | nil =>
    intro al ll wo bi _ h1 h2
    unfold BK
    rw [List.length_nil] at h2
    rw [if_pos ⟨by omega, by omega⟩, if_pos ⟨by omega, by omega⟩]
  | cons i ws ih =>
    intro al ll wo bi hg2 h1 h2
    rw [List.length_cons] at h2
    have w1 := hg.w1 (hg2 i (List.mem_cons_self ..))
    have w2 := hg.w2 (hg2 i (List.mem_cons_self ..))
    have hm : gwa g (4 * i + 1) * gwa g (4 * i + 2) ≤ gwa g (4 * i + 1) * 1 := Nat.mul_le_mul (Nat.le_refl _) w2
    have g3 : goodL g ws := fun j hj => hg2 j (List.mem_cons_of_mem _ hj)
    unfold BK
    rw [ih _ _ _ _ g3 h1 (by omega), ih _ _ _ _ g3 (by omega) (by omega)]
theorem BK_ge {g : GH} {G W : Nat} : ∀ (ws : List Nat) (al ll wo bi : Nat), al ≤ G → ll ≤ G + W → keyF wo bi ≤ BK g G W ws al ll wo bi := by
  intro ws
  induction ws with
  | nil => intro al ll wo bi h1 h2; unfold BK; rw [if_pos ⟨h1, h2⟩]; exact Nat.le_refl _
  | cons i ws ih =>
    intro al ll wo bi h1 h2
    unfold BK
    exact Nat.le_trans (ih al ll wo bi h1 h2) ((mxx_le.mp (Nat.le_refl _)).1)
/-- keys stay small -/
theorem tw_bd {g : GH} (hg : GB g) {W : Nat} : ∀ (ws : List Nat) (al ll wo bi : Nat) (arr : Nat → Nat), goodL g ws → wo + 99 * ws.length ≤ 1188 → (∀ x, arr x ≤ 5000000) → ∀ x, tw g W ws al ll wo bi arr x ≤ 5000000 := by
  intro ws
  induction ws with
  | nil =>
    intro al ll wo bi arr _ h1 h2 x
    unfold tw
    have := h2 x
    rw [List.length_nil] at h1
    by_cases e : x = ndF W al ll
    · simp only [if_pos e]; rw [mxx_le]; exact ⟨this, by unfold keyF; omega⟩
    · simp only [if_neg e]; exact this
  | cons i ws ih =>
    intro al ll wo bi arr hg2 h1 h2 x
    rw [List.length_cons] at h1
    have w3 := hg.w3 (hg2 i (List.mem_cons_self ..))
    have g3 : goodL g ws := fun j hj => hg2 j (List.mem_cons_of_mem _ hj)
    unfold tw
    exact ih _ _ _ _ _ g3 (by omega) (fun y => ih _ _ _ _ _ g3 (by omega) h2 y) x
theorem p2_le {i : Nat} (h : i < 12) : 2 ^ i ≤ 2048 := by
  have := Nat.pow_le_pow_right (n := 2) (by decide) (show i ≤ 11 by omega)
  omega
theorem shl12 : ∀ i, i < 12 → (1 : Int32) <<< (nI i &&& (31 : Int32)) = nI (2 ^ i) := by decide
section
variable {g : GH} {A : Nat → Nat} {V : Nat → Prop} {S : pq_S} {n : Nat}
theorem x_tw {p W r : Nat} (hr : r = 29 ∨ r = 30) (hn : 20 ≤ n) (hp : p < gP g) (hW : W ≤ 999) (hJ : JG A V g S) : ∀ (k i d al ll wo bi : Nat) (arr : Nat → Nat) (u : Nat → Int32), i + k = gW g → k < d → al ≤ ll → ll + 12 * k ≤ 144 → wo + 99 * k ≤ 1188 → bi < 2 ^ i → (∀ x, arr x ≤ 5000000) → (∀ x, x < 145 → u x = nI (arr x)) → ∃ u', m_tryW_d n d (A 28) (nI p) (nI i) (A r) (nI al) (iZ ((ll : Int) - (W : Int))) (nI (keyF wo bi)) (sF S (A r) u) = some (sF S (A r) u') ∧ ∀ x, x < 145 → u' x = nI (tw g W (wlF g (gst g) p k i) al ll wo bi arr x) := by
  have hb := hJ.gb.b
  have kp : ∀ u, KP A S (sF S (A r) u) := fun u => KPL.wF (KPL.rf _ _ _ _ _) (by rcases hr with e | e <;> rw [e] <;> decide)
  have hNr : ∀ u, pN (sF S (A r) u) (A r) = 145 := fun u => by rcases hr with e | e <;> rw [e]; exact hJ.lay.n29; exact hJ.lay.n30
  intro k
  induction k with
  | zero =>
    intro i d al ll wo bi arr u h1 h2 h3 h4 h5 h6 h7 h8
    obtain ⟨d, rfl⟩ : ∃ e, d = e + 1 := ⟨d - 1, by omega⟩
    have hT := hJ.kp (kp u)
    have key : keyF wo bi ≤ 5000000 := by unfold keyF; omega
    have need : (if nI al < iZ ((ll : Int) - (W : Int)) then iZ ((ll : Int) - (W : Int)) else nI al) = nI (ndF W al ll) := by
      unfold ndF
      rw [← iZ_n al]
      by_cases c : al < ll - W
      · rw [if_pos ((iZ_lt (by omega) (by omega) (by omega) (by omega)).mpr (by omega)), if_pos c, ← iZ_n (ll - W), show ((ll - W : Nat) : Int) = (ll : Int) - (W : Int) by omega]
      · rw [if_neg (fun q => c (by have := (iZ_lt (by omega) (by omega) (by omega) (by omega)).mp q; omega)), if_neg c, iZ_n]
    have nd : ndF W al ll ≤ 144 := by unfold ndF; split <;> omega
    rw [m_tryW_d, g_X3_tryWants, hT.lay.r28_300, ob_mk, hT.lay.r3_700, ob_mk, hT.lay.r4_101, ob_mk, hT.cx.1.2.1, if_neg (nI_nlt (by omega) (by omega)), need, if_neg (nI_pos (by omega)), hNr, ofN, if_neg (nI_ge (by omega) (by omega)), ck_pos (ixn (by omega) (by omega)), ck_pos (ixn (by omega) (by omega)), lt_mk, nI_clamp (by omega), sA_sF, pA_sF, if_pos rfl, h8 _ (by omega)]
    refine ⟨_, rfl, fun x hx => ?_⟩
    unfold wlF tw
    by_cases e : x = ndF W al ll
    · subst e
      simp only [upd_eq, if_true]
      unfold mxx
      have b7 := h7 (ndF W al ll)
      by_cases c : arr (ndF W al ll) < keyF wo bi
      · rw [if_pos (nI_lt c (by omega)), if_pos c]
      · rw [if_neg (nI_nlt (by omega) (by omega)), if_neg c]
    · simp only [if_neg e]
      rw [upd_ne e]
      exact h8 x hx
  | succ k ih =>
    intro i d al ll wo bi arr u h1 h2 h3 h4 h5 h6 h7 h8
    obtain ⟨d, rfl⟩ : ∃ e, d = e + 1 := ⟨d - 1, by omega⟩
    have hT := hJ.kp (kp u)
    have hi : i < gW g := by omega
    have w1 := hJ.gb.w1 hi
    have w2 := hJ.gb.w2 hi
    have w3 := hJ.gb.w3 hi
    have p2 := p2_le (i := i) (by omega)
    have p3 : 2 ^ (i + 1) = 2 ^ i * 2 := Nat.pow_succ ..
    have hm : gwa g (4 * i + 1) * gwa g (4 * i + 2) ≤ gwa g (4 * i + 1) * 1 := Nat.mul_le_mul (Nat.le_refl _) w2
    obtain ⟨u1, e1, e2⟩ := ih (i + 1) d al ll wo bi arr u (by omega) (by omega) h3 (by omega) (by omega) (by omega) h7 h8
    have hT1 := hJ.kp (kp u1)
    rw [m_tryW_d, g_X3_tryWants, hT.lay.r28_300, ob_mk, hT.lay.r3_700, ob_mk, hT.lay.r4_101, ob_mk, hT.cx.1.2.1, if_pos (nI_lt hi (by omega)), nI_1, e1, ob_mk, hT1.lay.r28_300, ob_mk, xv_open hT1.xv hi (by omega), cb_mk, wlF]
    by_cases c : gst g (18 + i) = nI 1 ∧ gwa g (4 * i) = p
    · have q1 : m_X9_at n (A 7) (nI i) 1 (sF S (A r) u1) = some (nI (gwa g (4 * i + 1)), sF S (A r) u1) := hT1.xv.wa (c := 1) hi (by decide)
      have q2 : m_X9_at n (A 7) (nI i) 2 (sF S (A r) u1) = some (nI (gwa g (4 * i + 2)), sF S (A r) u1) := hT1.xv.wa (c := 2) hi (by decide)
      have q3 : m_X9_at n (A 7) (nI i) 3 (sF S (A r) u1) = some (nI (gwa g (4 * i + 3)), sF S (A r) u1) := hT1.xv.wa (c := 3) hi (by decide)
      have kk : nI (keyF wo bi) + nI (gwa g (4 * i + 3)) * (4096 : Int32) - nI (2 ^ i) = nI (keyF (wo + gwa g (4 * i + 3)) (bi + 2 ^ i)) := by
        rw [show (4096 : Int32) = nI 4096 from rfl, pk_mul, nI_add, pk_sub (by unfold keyF; omega)]
        congr 1
        unfold keyF
        omega
      have zz : iZ ((ll : Int) - (W : Int)) + nI (gwa g (4 * i + 1)) = iZ (((ll + gwa g (4 * i + 1) : Nat) : Int) - (W : Int)) := by
        rw [← iZ_n, iZ_add]
        congr 1
        omega
      have g3 : goodL g (wlF g (gst g) p k (i + 1)) := fun j hj => by have := wl_good k (i + 1) (by omega) j hj; omega
      have ln : (wlF g (gst g) p k (i + 1)).length ≤ k := by
        have : ∀ k i, (wlF g (gst g) p k i).length ≤ k := by
          intro k
          induction k with
          | zero => intro i; exact Nat.le_refl _
          | succ k ihk =>
            intro i
            rw [wlF]
            have := ihk (i + 1)
            split
            · rw [List.length_cons]; omega
            · omega
        exact this k (i + 1)
      rw [if_pos c, if_neg (show ¬ nI 1 = 0 by decide), hT1.lay.r28_300, ob_mk, hT1.lay.r3_700, ob_mk, hT1.lay.r4_101, ob_mk, q1, cb_mk, hT1.lay.r28_300, ob_mk, hT1.lay.r3_700, ob_mk, hT1.lay.r4_101, ob_mk, q3, cb_mk, hT1.lay.r28_300, ob_mk, hT1.lay.r3_700, ob_mk, hT1.lay.r4_101, ob_mk, q2, cb_mk, pk_mul, nI_add, zz, shl12 i (by omega), kk, if_pos c, tw]
      have b1' := tw_bd hJ.gb (W := W) (wlF g (gst g) p k (i + 1)) al ll wo bi arr g3 (by omega) h7
      obtain ⟨u2, f1, f2⟩ := ih (i + 1) d (al + gwa g (4 * i + 1) * gwa g (4 * i + 2)) (ll + gwa g (4 * i + 1)) (wo + gwa g (4 * i + 3)) (bi + 2 ^ i) (tw g W (wlF g (gst g) p k (i + 1)) al ll wo bi arr) u1 (by omega) (by omega) (by omega) (by omega) (by omega) (by omega) b1' e2
      rw [f1, ob_mk]
      exact ⟨u2, rfl, f2⟩
    · rw [if_neg c, if_pos (show nI 0 = 0 from rfl), if_neg c]
      exact ⟨u1, rfl, e2⟩
end
