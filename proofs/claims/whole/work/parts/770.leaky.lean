def rtF (g : GH) (set : Int32) : Nat → Nat → Bool
  | 0, _ => true
  | k + 1, i => if msF g (gBp g i) set = nI (gBv g i) then rtF g set k (i + 1) else false
theorem rt_iff {g : GH} {set : Int32} : ∀ k i, rtF g set k i = true ↔ ∀ j, i ≤ j → j < i + k → msF g (gBp g j) set = nI (gBv g j) := by
  intro k
  induction k with
  | zero => intro i; exact ⟨fun _ j h1 h2 => by omega, fun _ => rfl⟩
  | succ k ih =>
    intro i
    rw [rtF]
    by_cases c : msF g (gBp g i) set = nI (gBv g i)
    · rw [if_pos c, ih]
      refine ⟨fun h j h1 h2 => ?_, fun h j h1 h2 => h j (by omega) (by omega)⟩
      by_cases e : j = i
      · rw [e]; exact c
      · exact h j (by omega) (by omega)
    · rw [if_neg c]
      exact ⟨fun h => (by cases h), fun h => absurd (h i (by omega) (by omega)) c⟩
def rcF (g : GH) (ms : Nat → Int32) (set : Int32) : Nat → Nat → Bool
  | 0, _ => true
  | k + 1, p => if ms p = -1 then rcF g ms set k (p + 1) else if ms p = msF g p set then rcF g ms set k (p + 1) else false
theorem rc_iff {g : GH} {ms : Nat → Int32} {set : Int32} : ∀ k i, rcF g ms set k i = true ↔ ∀ j, i ≤ j → j < i + k → ms j = -1 ∨ ms j = msF g j set := by
  intro k
  induction k with
  | zero => intro i; exact ⟨fun _ j h1 h2 => by omega, fun _ => rfl⟩
  | succ k ih =>
    intro i
    rw [rcF]
    by_cases c : ms i = -1
    · rw [if_pos c, ih]
      refine ⟨fun h j h1 h2 => ?_, fun h j h1 h2 => h j (by omega) (by omega)⟩
      by_cases e : j = i
      · rw [e]; exact Or.inl c
      · exact h j (by omega) (by omega)
    · rw [if_neg c]
      by_cases c2 : ms i = msF g i set
      · rw [if_pos c2, ih]
        refine ⟨fun h j h1 h2 => ?_, fun h j h1 h2 => h j (by omega) (by omega)⟩
        by_cases e : j = i
        · rw [e]; exact Or.inr c2
        · exact h j (by omega) (by omega)
      · rw [if_neg c2]
        exact ⟨fun h => (by cases h), fun h => absurd (h i (by omega) (by omega)) (fun q => q.elim c c2)⟩
theorem nI_nm1 {k : Nat} (h : k < 2 ^ 31) : ¬ nI k = -1 := fun e => by
  have h9 : (nI k).toInt = (-1 : Int32).toInt := congrArg Int32.toInt e
  rw [nI_toInt h] at h9
  have : (-1 : Int32).toInt = -1 := by decide
  omega
section
variable {g : GH} {A : Nat → Nat} {V : Nat → Prop} {S : pq_S} {n : Nat}
theorem rc_rt (h : BOOK g S A) (hb : gP g ≤ 6) (set : Int32) : rcF g (pA S (A 53)) set (gP g) 0 = rtF g set (gBk g) 0 := by
  obtain ⟨h1, h2, h3, h4, h5, h6⟩ := h
  have key : rcF g (pA S (A 53)) set (gP g) 0 = true ↔ rtF g set (gBk g) 0 = true := by
    rw [rc_iff, rt_iff]
    refine ⟨fun q j _ j2 => ?_, fun q p _ p2 => ?_⟩
    · obtain ⟨a1, a2, a3, a4, a5⟩ := h4 j (by omega)
      rcases q (gBp g j) (by omega) (by omega) with e | e
      · rw [a5] at e; exact absurd e (nI_nm1 (by omega))
      · rw [← e, a5]
    · by_cases z : ∃ i, i < gBk g ∧ gBp g i = p
      · obtain ⟨i, i1, i2⟩ := z
        obtain ⟨a1, a2, a3, a4, a5⟩ := h4 i i1
        right
        rw [← i2, a5, q i (by omega) (by omega)]
      · left
        exact h6 p (by omega) (fun i hi e => z ⟨i, hi, e⟩)
  cases e1 : rcF g (pA S (A 53)) set (gP g) 0 with
  | true => exact (key.mp e1).symm
  | false =>
    cases e2 : rtF g set (gBk g) 0 with
    | false => rfl
    | true => rw [key.mpr e2] at e1; cases e1
theorem x_right (h : JG A V g S) (hn : 20 ≤ n) (set : Int32) : ∀ (f p : Nat), p ≤ gP g → gP g < p + f → b_X0_isRight_2 n f (A 52) (A 4) set (nI p) S = some (b1 (rcF g (pA S (A 53)) set (gP g - p) p), S) := by
  have hb := h.gb.b
  intro f
  induction f with
  | zero => intro p h1 h2; omega
  | succ f ih =>
    intro p h1 h2
    rw [b_X0_isRight_2, h.lay.r4_100, ob_mk, h.cx.1.1]
    by_cases c : gP g ≤ p
    · rw [if_pos (nI_le c (by omega)), show gP g - p = 0 by omega, rcF]; rfl
    · rw [if_neg (nI_ge (by omega) (by omega)), h.lay.r52_0, ob_mk, h.lay.n53, ofN, if_neg (nI_ge (by omega) (by omega)), ob_mk, h.lay.n53, ck_pos (ixn (by omega) (by omega)), nI_clamp (by omega), show gP g - p = (gP g - (p + 1)) + 1 by omega, rcF]
      by_cases c1 : pA S (A 53) p = -1
      · rw [if_pos c1, if_pos c1, b_X0_isRight_49, nI_1]
        exact ih (p + 1) (by omega) (by omega)
      · rw [if_neg c1, if_neg c1, ob_mk, h.lay.n53, ck_pos (ixn (by omega) (by omega)), xv_ms h.xv hn (by omega), cb_mk]
        by_cases c2 : pA S (A 53) p = msF g p set
        · rw [if_pos c2, if_pos c2, b_X0_isRight_49, nI_1]
          exact ih (p + 1) (by omega) (by omega)
        · rw [if_neg c2, if_neg c2]; rfl
/-- the sets by which the book is right: how many, the first, what is in all, what is in some -/
def lsF (R : Int32 → Bool) : Nat → Nat → Nat → Int32 → Int32 → Int32 → Nat × Int32 × Int32 × Int32
  | 0, _, m, fi, al, an => (m, fi, al, an)
  | k + 1, i, m, fi, al, an => if R (nI i) = true then lsF R k (i + 1) (m + 1) (if m = 0 then nI i else fi) (al &&& nI i) (an ||| nI i) else lsF R k (i + 1) m fi al an
theorem x_leaky (h : JG A V g S) (hn : 20 ≤ n) {w : Int32} {E : Nat} (hE : E ≤ 64) : ∀ (f i m : Nat) (fi al an : Int32), i ≤ E + 1 → E + 1 < i + f → m ≤ i → b_X0_leakySets_27 n f (A 52) (A 4) w (nI E) (nI m) fi al an (nI i) S = b_X0_leakySets_80 n w (nI E) (nI (lsF (fun set => rtF g set (gBk g) 0) (E + 1 - i) i m fi al an).1) (lsF (fun set => rtF g set (gBk g) 0) (E + 1 - i) i m fi al an).2.1 (lsF (fun set => rtF g set (gBk g) 0) (E + 1 - i) i m fi al an).2.2.1 (lsF (fun set => rtF g set (gBk g) 0) (E + 1 - i) i m fi al an).2.2.2 S := by
  have hb := h.gb.b
  intro f
  induction f with
  | zero => intro i m fi al an h1 h2; omega
  | succ f ih =>
    intro i m fi al an h1 h2 h3
    have R : m_X0_isRight n (A 52) (A 4) (nI i) S = some (b1 (rtF g (nI i) (gBk g) 0), S) := by
      have := x_right (n := n) h hn (nI i) n 0 (by omega) (by omega)
      rw [Nat.sub_zero, rc_rt h.2.2.1 hb.1] at this
      exact this
    rw [b_X0_leakySets_27]
    by_cases c : E < i
    · rw [if_pos (nI_lt c (by omega)), show E + 1 - i = 0 by omega, lsF]
    · rw [if_neg (nI_nlt (by omega) (by omega)), R, cb_mk, show E + 1 - i = (E + 1 - (i + 1)) + 1 by omega, lsF]
      cases hr : rtF g (nI i) (gBk g) 0 with
      | false =>
        rw [if_pos (show b1 false = 0 from rfl), b_X0_leakySets_74, nI_1, if_neg (by decide)]
        exact ih (i + 1) m fi al an (by omega) (by omega) (by omega)
      | true =>
        rw [if_neg (show ¬ b1 true = 0 by decide), if_pos rfl]
        by_cases c2 : m = 0
        · rw [if_pos (show nI m = 0 by rw [c2]; rfl), b_X0_leakySets_55, b_X0_leakySets_74, nI_1, nI_1, if_pos c2]
          exact ih (i + 1) (m + 1) _ _ _ (by omega) (by omega) (by omega)
        · rw [if_neg (nI_ne0 (by omega) (by omega)), b_X0_leakySets_55, b_X0_leakySets_74, nI_1, nI_1, if_neg c2]
          exact ih (i + 1) (m + 1) _ _ _ (by omega) (by omega) (by omega)
theorem m_right {T : pq_S} (hJ : JG A V g T) (hn : 20 ≤ n) {al : Nat → Nat} (hS : SRT (xF g) al (gP g)) (hu : ∀ i, i < gP g → pA T (A 90) i = nI (al i)) {w x2 x3 x4 x5 set : Int32} {K : Nat → Int32 → Int32 → Int32 → Int32 → Int32 → Int32 → pq_S → Option (Int32 × pq_S)} : ∀ (f i : Nat) (b : Bool), i ≤ gBk g → gBk g < i + f → b_X12_leaky_63 n K f (A 60) w x2 x3 x4 x5 set (b1 b) (nI i) T = b_X12_leaky_119 n K (A 60) w x2 x3 x4 x5 set (b1 (b && rtF g set (gBk g - i) i)) T := by
  have hb := hJ.gb.b
  obtain ⟨k1, k2, k3, k4, k5, k6⟩ := hJ.2.2.1
  intro f
  induction f with
  | zero => intro i b h1 h2; omega
  | succ f ih =>
    intro i b h1 h2
    rw [b_X12_leaky_63, k3]
    by_cases c : gBk g ≤ i
    · rw [if_pos (nI_le c (by omega)), show gBk g - i = 0 by omega, rtF, Bool.and_true]
    · obtain ⟨a1, a2, a3, a4, a5⟩ := k4 i (by omega)
      rw [if_neg (nI_ge (by omega) (by omega)), show gBk g - i = (gBk g - (i + 1)) + 1 by omega, rtF]
      cases b with
      | false =>
        rw [if_pos (show b1 false = 0 from rfl), b_X12_leaky_110, b_X12_leaky_111, nI_1, Bool.false_and]
        exact (ih (i + 1) false (by omega) (by omega)).trans (by rw [Bool.false_and])
      | true =>
        rw [if_neg (show ¬ b1 true = 0 by decide), hJ.lay.r60_1250, ob_mk, hJ.lay.n84, show (2 : Int32) * nI i = nI (2 * i) from pk_mul 2 i, ck_pos (ixn (by omega) (by omega)), nI_clamp (by omega), a3, m_ms hJ.lay hJ.gb hJ.cm hn hS hu a1, cb_mk, hJ.lay.r60_1250, ob_mk, hJ.lay.n84, show nI (2 * i) + (1 : Int32) = nI (2 * i + 1) from nI_1 _, ck_pos (ixn (by omega) (by omega)), nI_clamp (by omega), a4, Bool.true_and]
        by_cases c2 : msF g (gBp g i) set = nI (gBv g i)
        · rw [if_pos c2, if_pos c2, b_X12_leaky_111, nI_1]
          exact (ih (i + 1) true (by omega) (by omega)).trans (by rw [Bool.true_and])
        · rw [if_neg c2, if_neg c2, b_X12_leaky_110, b_X12_leaky_111, nI_1]
          exact (ih (i + 1) false (by omega) (by omega)).trans (by rw [Bool.false_and])
theorem m_leaky {T : pq_S} (hJ : JG A V g T) (hn : 20 ≤ n) {al0 : Nat → Nat} (hS : SRT (xF g) al0 (gP g)) (hu : ∀ i, i < gP g → pA T (A 90) i = nI (al0 i)) {w : Int32} {E : Nat} (hE : E + 1 = 2 ^ gP g) : ∀ (f i m : Nat) (fi al an : Int32), i ≤ E + 1 → E + 1 < i + f → m ≤ i → ((m = 0 ∧ fi = -1) ∨ (0 < m ∧ ¬ fi = -1)) → b_X12_leaky_46 n f (A 60) w (nI m) fi al an (nI i) T = b_X12_leaky_162 n (A 60) w (nI (lsF (fun set => rtF g set (gBk g) 0) (E + 1 - i) i m fi al an).1) (lsF (fun set => rtF g set (gBk g) 0) (E + 1 - i) i m fi al an).2.1 (lsF (fun set => rtF g set (gBk g) 0) (E + 1 - i) i m fi al an).2.2.1 (lsF (fun set => rtF g set (gBk g) 0) (E + 1 - i) i m fi al an).2.2.2 T := by
  have hb := hJ.gb.b
  have p6 := pw6 hb.1
  have sh := shl6 (gP g) (by omega)
  have k1 := hJ.2.2.1.1.1
  intro f
  induction f with
  | zero => intro i m fi al an h1 h2; omega
  | succ f ih =>
    intro i m fi al an h1 h2 h3 h4
    rw [b_X12_leaky_46, hJ.cm.1.1, sh]
    by_cases c : E < i
    · rw [if_pos (nI_le (by omega) (by omega)), show E + 1 - i = 0 by omega, lsF]
    · rw [if_neg (nI_ge (by omega) (by omega)), show E + 1 - i = (E + 1 - (i + 1)) + 1 by omega, lsF]
      refine (m_right (n := n) (K := b_X12_leaky_46 n f) (w := w) (x2 := nI m) (x3 := fi) (x4 := al) (x5 := an) (set := nI i) hJ hn hS hu n 0 true (by omega) (by omega)).trans ?_
      rw [Bool.true_and, Nat.sub_zero, b_X12_leaky_119]
      cases hr : rtF g (nI i) (gBk g) 0 with
      | false =>
        rw [if_pos (show b1 false = 0 from rfl), b_X12_leaky_156, nI_1, if_neg (by decide)]
        exact ih (i + 1) m fi al an (by omega) (by omega) (by omega) h4
      | true =>
        rw [if_neg (show ¬ b1 true = 0 by decide), if_pos rfl]
        by_cases c2 : m = 0
        · have ef : fi = -1 := h4.elim (fun q => q.2) (fun q => by omega)
          rw [if_pos ef, b_X12_leaky_141, b_X12_leaky_156, nI_1, nI_1, if_pos c2]
          exact ih (i + 1) (m + 1) _ _ _ (by omega) (by omega) (by omega) (Or.inr ⟨by omega, nI_nm1 (by omega)⟩)
        · have ef : ¬ fi = -1 := h4.elim (fun q => absurd q.1 c2) (fun q => q.2)
          rw [if_neg ef, b_X12_leaky_141, b_X12_leaky_156, nI_1, nI_1, if_neg c2]
          exact ih (i + 1) (m + 1) _ _ _ (by omega) (by omega) (by omega) (Or.inr ⟨by omega, ef⟩)
theorem ls_m {R : Int32 → Bool} : ∀ (k i m : Nat) (fi al an : Int32), (lsF R k i m fi al an).1 ≤ m + k := by
  intro k
  induction k with
  | zero => intro i m fi al an; exact Nat.le_refl _
  | succ k ih =>
    intro i m fi al an
    rw [lsF]
    split
    · have := ih (i + 1) (m + 1) (if m = 0 then nI i else fi) (al &&& nI i) (an ||| nI i); omega
    · have := ih (i + 1) m fi al an; omega
end
theorem w4 (y : Int32) : y = 0 ∨ y = 1 ∨ y = 2 ∨ y = 3 ∨ ¬ (0 ≤ y ∧ y ≤ 3) := by
  rcases i32_wi y 0 3 (by decide) (by decide) with ⟨k, _, k2, e⟩ | q
  · have : k = 0 ∨ k = 1 ∨ k = 2 ∨ k = 3 := by omega
    rcases this with rfl | rfl | rfl | rfl
    · exact Or.inl e
    · exact Or.inr (Or.inl e)
    · exact Or.inr (Or.inr (Or.inl e))
    · exact Or.inr (Or.inr (Or.inr (Or.inl e)))
  · exact Or.inr (Or.inr (Or.inr (Or.inr q)))
theorem ob_25 (n xa ma : Nat) (hn : 20000 ≤ n) : OB_25 n xa ma (JJ xa ma) := by
  rintro S f ⟨A, V, g, rfl, rfl, h⟩ w
  have h : JG A V g S := h
  have hb := h.gb.b
  have p6 := pw6 hb.1
  have sh := shl6 (gP g) (by omega)
  obtain ⟨E, hE⟩ : ∃ E, E + 1 = 2 ^ gP g := ⟨2 ^ gP g - 1, by omega⟩
  have lim : nI (2 ^ gP g) - (1 : Int32) = nI E := by rw [← hE]; exact nI_pred E
  refine ⟨200, 8000, by decide, by decide, _, _, sp_isWithin _ _ _ _ _, 1, 6, by decide, by decide, wr_need _ (fun c => ?_) (fun c => ⟨rfl, ki_bad h (b := 0) (by decide) ?_⟩)⟩
  · obtain ⟨al, u, e1, e2, e3⟩ := m_along' (n := n) (T := st0 S (A 60)) h.st0.lay h.gb h.st0.cm (by omega)
    have kp : KP A S (sF (st0 S (A 60)) (A 90) u) := KPL.wF (KPL.st0 (KPL.rf _ _ _ _ _)) (by decide)
    have hT := h.kp kp
    have X := x_leaky (n := n) (w := w) h (by omega) (show E ≤ 64 by omega) n 0 0 (-1) (nI E) 0 (by omega) (by omega) (by omega)
    have M := m_leaky (n := n) (w := w) hT (by omega) e3 (fun j hj => by rw [pA_sF, if_pos rfl]; exact e2 j hj) hE n 0 0 (-1) (nI E) 0 (by omega) (by omega) (by omega) (Or.inl ⟨rfl, rfl⟩)
    have bnd := ls_m (R := fun set => rtF g set (gBk g) 0) (E + 1 - 0) 0 0 (-1) (nI E) 0
    generalize lsF (fun set => rtF g set (gBk g) 0) (E + 1 - 0) 0 0 (-1) (nI E) 0 = L at X M bnd
    have G : ∀ r, b_X12_leaky_162 n (A 60) w (nI L.1) L.2.1 L.2.2.1 L.2.2.2 (sF (st0 S (A 60)) (A 90) u) = some (r, sF (st0 S (A 60)) (A 90) u) → b_X0_leakySets_80 n w (nI E) (nI L.1) L.2.1 L.2.2.1 L.2.2.2 S = some (r, S) → ∃ q12 : Nat, pR S 1107 (A 0) = some q12 ∧ (∃ q13 : Nat, pR S 1101 (A 0) = some q13 ∧ (∃ q14 : Nat, pR S 700 q13 = some q14 ∧ (∃ r17 S_15, m_X0_leakySets n q12 q14 w S = some (r17, S_15) ∧ KI (JJ (A 0) (A 60)) (A 60) (m_X12_leaky n (A 60) w) 0 (vp_updL f 0 (Int32.toInt64 r17)) S_15))) := fun r g1 g2 => by
      refine ⟨_, h.lay.r0_1107, _, h.lay.r0_1101, _, h.lay.r3_700, r, S, ?_, ki_ok h (S2 := sF (st0 S (A 60)) (A 90) u) ?_ kp (st0_th S (A 60))⟩
      · unfold m_X0_leakySets
        rw [h.lay.r4_100, ob_mk, lt_mk, h.cx.1.1, sh, lim]
        exact X.trans g2
      · unfold m_X12_leaky
        rw [sp_within, if_pos c, cb_mk, sp_mayS1, cb_mk, if_neg (by decide), e1, ob_mk, lt_mk, hT.cm.1.1, sh, lim]
        exact M.trans g1
    have cm1 : pI (sF (st0 S (A 60)) (A 90) u) 1224 (A 60) = nI (gP g) := hT.cm.1.1
    rcases w4 w with rfl | rfl | rfl | rfl | q
    · exact G (nI L.1) (by rw [b_X12_leaky_162, if_neg (by decide), if_pos rfl]) (by rw [b_X0_leakySets_80, if_pos rfl])
    · exact G L.2.1 (by rw [b_X12_leaky_162, if_neg (by decide), if_neg (by decide)]) (by rw [b_X0_leakySets_80, if_neg (by decide), if_pos rfl])
    · by_cases z : L.1 = 0
      · exact G 0 (by rw [b_X12_leaky_162, if_pos (by decide), if_pos (by rw [z]; rfl)]) (by rw [b_X0_leakySets_80, if_neg (by decide), if_neg (by decide), if_pos (by rw [z]; rfl)])
      · exact G L.2.2.1 (by rw [b_X12_leaky_162, if_pos (by decide), if_neg (nI_ne0 (by omega) (by omega)), if_pos rfl]) (by rw [b_X0_leakySets_80, if_neg (by decide), if_neg (by decide), if_neg (nI_ne0 (by omega) (by omega)), if_pos rfl])
    · by_cases z : L.1 = 0
      · exact G 0 (by rw [b_X12_leaky_162, if_pos (by decide), if_pos (by rw [z]; rfl)]) (by rw [b_X0_leakySets_80, if_neg (by decide), if_neg (by decide), if_pos (by rw [z]; rfl)])
      · exact G (nI E &&& (L.2.2.2 ^^^ (-1 : Int32))) (by rw [b_X12_leaky_162, if_pos (by decide), if_neg (nI_ne0 (by omega) (by omega)), if_neg (by decide), cm1, sh, lim]) (by rw [b_X0_leakySets_80, if_neg (by decide), if_neg (by decide), if_neg (nI_ne0 (by omega) (by omega)), if_neg (by decide)])
    · exact absurd c q
  · unfold m_X12_leaky
    rw [sp_within, if_neg c, cb_mk, jg_bad h (by decide), cb_mk, if_pos rfl]
