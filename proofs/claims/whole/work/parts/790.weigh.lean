/-- the best set at a place by so many good hours, as a key -/
def WK (g : GH) (st : Nat → Int32) (p G : Nat) : Nat := BK g G (nS st (6 + p)) (wlF g st p (gW g) 0) 0 0 0 0
theorem wl_len {g : GH} {st : Nat → Int32} {p : Nat} : ∀ k i, (wlF g st p k i).length ≤ k := by
  intro k
  induction k with
  | zero => intro i; exact Nat.le_refl _
  | succ k ihk =>
    intro i
    rw [wlF]
    have := ihk (i + 1)
    split
    · rw [List.length_cons]; omega
    · omega
theorem wl_gd {g : GH} {st : Nat → Int32} {p : Nat} : goodL g (wlF g st p (gW g) 0) := fun j hj => by have := wl_good (gW g) 0 (by omega) j hj; omega
theorem WK_big {g : GH} {st : Nat → Int32} (hg : GB g) {p G : Nat} (hG : 144 ≤ G) : WK g st p G = WK g st p 144 := by
  have hb := hg.b
  have := wl_len (g := g) (st := st) (p := p) (gW g) 0
  exact BK_big hg hG _ _ _ _ _ wl_gd (Nat.le_refl _) (by omega)
theorem WK_ge {g : GH} {st : Nat → Int32} {p G : Nat} : 4095 ≤ WK g st p G := BK_ge (g := g) _ 0 0 0 0 (by omega) (by omega)
theorem BK_bd {g : GH} (hg : GB g) {G W : Nat} : ∀ (ws : List Nat) (al ll wo bi : Nat), goodL g ws → wo + 99 * ws.length ≤ 1188 → BK g G W ws al ll wo bi ≤ 5000000 := by
  intro ws
  induction ws with
  | nil =>
    intro al ll wo bi _ h1
    rw [List.length_nil] at h1
    unfold BK keyF
    split <;> omega
  | cons i ws ih =>
    intro al ll wo bi hg2 h1
    rw [List.length_cons] at h1
    have w3 := hg.w3 (hg2 i (List.mem_cons_self ..))
    have g3 : goodL g ws := fun j hj => hg2 j (List.mem_cons_of_mem _ hj)
    unfold BK
    rw [mxx_le]
    exact ⟨ih _ _ _ _ g3 (by omega), ih _ _ _ _ g3 (by omega)⟩
theorem WK_bd {g : GH} {st : Nat → Int32} (hg : GB g) {p G : Nat} : WK g st p G ≤ 5000000 := by
  have hb := hg.b
  have := wl_len (g := g) (st := st) (p := p) (gW g) 0
  exact BK_bd hg _ _ _ _ _ wl_gd (by omega)
theorem WK_pm {g : GH} {st : Nat → Int32} {p y : Nat} : pmF (tw g (nS st (6 + p)) (wlF g st p (gW g) 0) 0 0 0 0 (fun _ => 4095)) y = WK g st p y := by
  apply le_ext
  intro v
  rw [pm_le, tw_le]
  have := WK_ge (g := g) (st := st) (p := p) (G := y)
  unfold WK at this ⊢
  exact ⟨fun h => h.2, fun h => ⟨fun x _ => by omega, h⟩⟩
section
variable {g : GH} {A : Nat → Nat} {V : Nat → Prop} {S : pq_S} {n : Nat}
theorem x_pm {a : Nat} {T : pq_S} {arr : Nat → Nat} (hN : pN T a = 145) (hb : ∀ x, arr x ≤ 5000000) : ∀ (f y : Nat) (u : Nat → Int32), 1 ≤ y → y ≤ 145 → 145 < y + f → (∀ x, x < y → u x = nI (pmF arr x)) → (∀ x, y ≤ x → x < 145 → u x = nI (arr x)) → ∃ u', b_X3_weigh_36 n f a (nI y) (sF T a u) = some (sF T a u') ∧ ∀ x, x < 145 → u' x = nI (pmF arr x) := by
  have hp : ∀ y, pmF arr y ≤ 5000000 := fun y => (pm_le y).mpr (fun x _ => hb x)
  intro f
  induction f with
  | zero => intro y u h1 h2 h3; omega
  | succ f ih =>
    intro y u h1 h2 h3 hlo hhi
    rw [b_X3_weigh_36, pN_sF, hN, ofN]
    by_cases c : 145 ≤ y
    · rw [if_pos (nI_le c (by omega))]
      exact ⟨u, rfl, fun x hx => hlo x (by omega)⟩
    · have e1 := hhi y (Nat.le_refl _) (by omega)
      have e2 := hlo (y - 1) (by omega)
      have b1 := hb y
      have b2 := hp (y - 1)
      rw [if_neg (nI_ge (by omega) (by omega)), ck_pos (ixn (by omega) (by omega)), show nI y - (1 : Int32) = nI (y - 1) from pk_sub (b := 1) (by omega), ck_pos (ixn (by omega) (by omega)), ck_pos (ixn (by omega) (by omega)), lt_mk, nI_clamp (show y < 2 ^ 31 by omega), nI_clamp (show y - 1 < 2 ^ 31 by omega), pA_sF, if_pos rfl, pA_sF, if_pos rfl, e1, e2, sA_sF, nI_1]
      have e3 : (if nI (arr y) < nI (pmF arr (y - 1)) then nI (pmF arr (y - 1)) else nI (arr y)) = nI (pmF arr y) := by
        have : pmF arr y = mxx (arr y) (pmF arr (y - 1)) := by
          obtain ⟨z, rfl⟩ : ∃ z, y = z + 1 := ⟨y - 1, by omega⟩
          rfl
        rw [this]
        unfold mxx
        by_cases c2 : arr y < pmF arr (y - 1)
        · rw [if_pos (nI_lt c2 (by omega)), if_pos c2]
        · rw [if_neg (nI_nlt (by omega) (by omega)), if_neg c2]
      rw [e3]
      refine ih (y + 1) _ (by omega) (by omega) (by omega) (fun x hx => ?_) (fun x h4 h5 => ?_)
      · by_cases e : x = y
        · rw [e, upd_eq]
        · rw [upd_ne e]; exact hlo x (by omega)
      · rw [upd_ne (by omega)]; exact hhi x (by omega) h5
theorem x_weigh {p r : Nat} (hr : r = 29 ∨ r = 30) (hn : 200 ≤ n) (hp : p < gP g) (hJ : JG A V g S) : ∃ u, m_X3_weigh n (A 28) (nI p) (A r) S = some (sF S (A r) u) ∧ ∀ x, x < 145 → u x = nI (WK g (gst g) p x) := by
  have hb := hJ.gb.b
  have hNr : pN S (A r) = 145 := by
    rcases hr with e | e
    · rw [e]; exact hJ.lay.n29
    · rw [e]; exact hJ.lay.n30
  have kp : ∀ u, KP A S (sF S (A r) u) := fun u => KPL.wF (KPL.rf _ _ _ _ _) (by rcases hr with e | e <;> rw [e] <;> decide)
  have s1 := hJ.sb.h1 hp
  obtain ⟨u0, hu0⟩ : ∃ u0, u0 = mixr 145 (fun _ => (4095 : Int32)) (pA S (A r)) := ⟨_, rfl⟩
  have hT := hJ.kp (kp u0)
  have ef : m_J7_fill_53178 n (A r) 4095 S = some (sF S (A r) u0) := by rw [hu0]; exact sp_fill hNr (by decide) (by omega)
  have eat : m_X9_at n (A 14) (nI p) 1 (sF S (A r) u0) = some (nI (nS (gst g) (6 + p)), sF S (A r) u0) := by
    have := hT.xv.ho (n := n) (p := p) (c := 1) hp (by decide)
    rw [Nat.mul_one, s1.1] at this
    exact this
  obtain ⟨u1, e1, e2⟩ := x_tw (n := n) (W := nS (gst g) (6 + p)) hr (by omega) hp s1.2 hJ (gW g) 0 64 0 0 0 0 (fun _ => 4095) u0 (by omega) (by omega) (by omega) (by omega) (by omega) (by decide) (fun _ => by decide) (fun x hx => by
    rw [hu0]; unfold mixr; rw [if_pos hx]; rfl)
  have tb := tw_bd hJ.gb (W := nS (gst g) (6 + p)) (wlF g (gst g) p (gW g) 0) 0 0 0 0 (fun _ => 4095) wl_gd (by have := wl_len (g := g) (st := gst g) (p := p) (gW g) 0; omega) (fun _ => by decide)
  obtain ⟨u2, f1, f2⟩ := x_pm (n := n) (a := A r) (T := S) (arr := tw g (nS (gst g) (6 + p)) (wlF g (gst g) p (gW g) 0) 0 0 0 0 (fun _ => 4095)) hNr tb n 1 u1 (by omega) (by omega) (by omega) (fun x hx => by
    rw [show x = 0 by omega]; exact e2 0 (by omega)) (fun x _ hx => e2 x hx)
  refine ⟨u2, ?_, fun x hx => by rw [f2 x hx, WK_pm]⟩
  have eneg : (-nI (nS (gst g) (6 + p)) : Int32) = iZ (((0 : Nat) : Int) - ((nS (gst g) (6 + p) : Nat) : Int)) := by
    rw [← iZ_sub, iZ_n, iZ_n, nI_0, Int32.zero_sub]
  unfold m_X3_weigh
  rw [ef, ob_mk, hT.lay.r28_300, ob_mk, hT.lay.r3_701, ob_mk, hT.lay.r13_800, ob_mk, eat, cb_mk, eneg]
  rw [show m_X3_tryWants n (A 28) (nI p) 0 (A r) 0 (iZ (((0 : Nat) : Int) - ((nS (gst g) (6 + p) : Nat) : Int))) 4095 (sF S (A r) u0) = some (sF S (A r) u1) from e1, ob_mk]
  exact f1
theorem x_by {a G : Nat} {T : pq_S} {st : Nat → Int32} {p : Nat} (hg : GB g) (hN : pN T a = 145) (hG : G < 2 ^ 30) (hu : ∀ x, x < 145 → pA T a x = nI (WK g st p x)) : m_X3_bestBy n a (nI G) T = some (nI (WK g st p G), T) := by
  unfold m_X3_bestBy
  rw [hN, ofN, lt_mk, show nI 145 - (1 : Int32) = nI 144 from rfl]
  by_cases c : 144 < G
  · rw [if_pos (nI_lt c (by omega)), if_neg (by decide), ck_pos (ixn (by omega) (by omega)), nI_clamp (by omega), hu 144 (by omega), WK_big hg (show 144 ≤ G by omega)]
  · rw [if_neg (nI_nlt (by omega) (by omega)), if_neg (nI_pos (by omega)), ck_pos (ixn (by omega) (by omega)), nI_clamp (by omega), hu G (by omega)]
theorem x_wo' {K : Nat} {T : pq_S} (hK : K ≤ 5000000) : m_X3_worthOf n (nI K) T = some (nI (K / 4096), T) := by
  unfold m_X3_worthOf
  rw [show (4096 : Int32) = nI 4096 from rfl, pk_div (by omega) (by omega) (by omega)]
theorem x_bi {K : Nat} {T : pq_S} (hK : K ≤ 5000000) : m_X3_bitsOf n (nI K) T = some (nI (4095 - K % 4096), T) := by
  unfold m_X3_bitsOf
  rw [show (4096 : Int32) = nI 4096 from rfl, pk_rem (by omega) (by omega) (by omega), show (4095 : Int32) = nI 4095 from rfl, pk_sub (by omega)]
/-- the sales' worth: of k places from the p-th on, G being the good hours of each -/
def swF (g : GH) (st : Nat → Int32) (G : Nat → Nat) : Nat → Nat → Nat → Nat
  | 0, _, acc => acc
  | k + 1, p, acc => swF g st G k (p + 1) (acc + WK g st p (G p) / 4096)
/-- which are sold -/
def sbF (g : GH) (st : Nat → Int32) (G : Nat → Nat) : Nat → Nat → Int32 → Int32
  | 0, _, acc => acc
  | k + 1, p, acc => sbF g st G k (p + 1) (acc ||| nI (4095 - WK g st p (G p) % 4096))
theorem x_bw {o : Option Nat} {mo : Nat} (hn : 200 ≤ n) (hmo : mo ≤ 99) (ho : ∀ j, o = some j → j < 100) (hJ : JG A V g S) : ∀ (f p acc : Nat) (T : pq_S), p ≤ gP g → gP g < p + f → KP A S T → ∃ T', b_X3_bestWorth_5 n f (A 28) (eO o) (nI mo) (nI acc) (nI p) T = some (nI (swF g (gst g) (fun p => nS (gst g) p + (if o = some p then mo else 0)) (gP g - p) p acc), T') ∧ KP A S T' := by
  have hb := hJ.gb.b
  intro f
  induction f with
  | zero => intro p acc T h1 h2; omega
  | succ f ih =>
    intro p acc T h1 h2 hK
    have hT := hJ.kp hK
    rw [b_X3_bestWorth_5, hT.lay.r28_300, ob_mk, hT.lay.r3_700, ob_mk, hT.lay.r4_100, ob_mk, hT.cx.1.1]
    by_cases c : gP g ≤ p
    · rw [if_pos (nI_le c (by omega)), show gP g - p = 0 by omega, swF]
      exact ⟨T, rfl, hK⟩
    · have hp : p < gP g := by omega
      have s0 := hJ.sb.h0 hp
      obtain ⟨u, e1, e2⟩ := x_weigh (n := n) (r := 29) (Or.inl rfl) hn hp hT
      have k1 : KP A T (sF T (A 29) u) := KPL.wF (KPL.rf _ _ _ _ _) (by decide)
      have hT1 := hT.kp k1
      have eat : m_X9_at n (A 14) (nI p) 0 (sF T (A 29) u) = some (nI (nS (gst g) p), sF T (A 29) u) := by
        have := hT1.xv.ho (n := n) (p := p) (c := 0) hp (by decide)
        rw [Nat.mul_zero, Nat.zero_add, s0.1] at this
        exact this
      have fin : ∀ z : Nat, z = nS (gst g) p + (if o = some p then mo else 0) → ∃ T', (Option.bind (pR (sF T (A 29) u) 301 (A 28)) fun q17 => cb (m_X3_bestBy n q17 (nI z) (sF T (A 29) u)) fun r20 S_18 => cb (m_X3_worthOf n r20 S_18) fun r24 S_22 => b_X3_bestWorth_5 n f (A 28) (eO o) (nI mo) (nI acc + r24) (nI p + 1) S_22) = some (nI (swF g (gst g) (fun p => nS (gst g) p + (if o = some p then mo else 0)) (gP g - p) p acc), T') ∧ KP A S T' := fun z hz => by
        have h9 : (if o = some p then mo else 0) ≤ 99 := by split <;> omega
        have hz9 : z < 2 ^ 30 := by omega
        rw [hT1.lay.r28_301, ob_mk, x_by (st := gst g) (p := p) hJ.gb hT1.lay.n29 hz9 (fun x hx => by rw [pA_sF, if_pos rfl]; exact e2 x hx), cb_mk, x_wo' (WK_bd hJ.gb), cb_mk, nI_add, nI_1, show gP g - p = (gP g - (p + 1)) + 1 by omega, swF, ← hz]
        exact ih (p + 1) _ _ (by omega) (by omega) (hJ.tr hK k1)
      rw [if_neg (nI_ge (by omega) (by omega)), hT.lay.r28_301, ob_mk, e1, ob_mk, hT1.lay.r28_300, ob_mk, hT1.lay.r3_701, ob_mk, hT1.lay.r13_800, ob_mk, eat, cb_mk]
      by_cases c1 : o = some p
      · rw [if_pos (by rw [c1]; rfl), b_X3_bestWorth_60, nI_add]
        exact fin _ (by rw [if_pos c1])
      · have : ¬ nI p = eO o := fun e => by
          cases o with
          | none => exact nI_nm1 (by omega) e
          | some j => exact c1 (by rw [(nI_eq (by omega) (by have := ho j rfl; omega)).mp e])
        rw [if_neg this, b_X3_bestWorth_60, show nI (nS (gst g) p) + (0 : Int32) = nI (nS (gst g) p + 0) from nI_add _ 0]
        exact fin _ (by rw [if_neg c1])
theorem x_bb (hn : 200 ≤ n) (hJ : JG A V g S) : ∀ (f p : Nat) (acc : Int32) (T : pq_S), p ≤ gP g → gP g < p + f → KP A S T → ∃ T', b_X3_bestBits_4 n f (A 28) acc (nI p) T = some (sbF g (gst g) (nS (gst g)) (gP g - p) p acc, T') ∧ KP A S T' := by
  have hb := hJ.gb.b
  intro f
  induction f with
  | zero => intro p acc T h1 h2; omega
  | succ f ih =>
    intro p acc T h1 h2 hK
    have hT := hJ.kp hK
    rw [b_X3_bestBits_4, hT.lay.r28_300, ob_mk, hT.lay.r3_700, ob_mk, hT.lay.r4_100, ob_mk, hT.cx.1.1]
    by_cases c : gP g ≤ p
    · rw [if_pos (nI_le c (by omega)), show gP g - p = 0 by omega, sbF]
      exact ⟨T, rfl, hK⟩
    · have hp : p < gP g := by omega
      have s0 := hJ.sb.h0 hp
      obtain ⟨u, e1, e2⟩ := x_weigh (n := n) (r := 29) (Or.inl rfl) hn hp hT
      have k1 : KP A T (sF T (A 29) u) := KPL.wF (KPL.rf _ _ _ _ _) (by decide)
      have hT1 := hT.kp k1
      have eat : m_X9_at n (A 14) (nI p) 0 (sF T (A 29) u) = some (nI (nS (gst g) p), sF T (A 29) u) := by
        have := hT1.xv.ho (n := n) (p := p) (c := 0) hp (by decide)
        rw [Nat.mul_zero, Nat.zero_add, s0.1] at this
        exact this
      rw [if_neg (nI_ge (by omega) (by omega)), hT.lay.r28_301, ob_mk, e1, ob_mk, hT1.lay.r28_301, ob_mk, hT1.lay.r28_300, ob_mk, hT1.lay.r3_701, ob_mk, hT1.lay.r13_800, ob_mk, eat, cb_mk, x_by (st := gst g) (p := p) hJ.gb hT1.lay.n29 (by omega) (fun x hx => by rw [pA_sF, if_pos rfl]; exact e2 x hx), cb_mk, x_bi (WK_bd hJ.gb), cb_mk, nI_1, show gP g - p = (gP g - (p + 1)) + 1 by omega, sbF]
      exact ih (p + 1) _ _ (by omega) (by omega) (hJ.tr hK k1)
end
