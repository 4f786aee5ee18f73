def mxF (G : Nat → Nat) : Nat → Nat → Nat → Nat
  | 0, _, acc => acc
  | k + 1, i, acc => mxF G k (i + 1) (if acc < G i then G i else acc)
theorem mx_acc (G : Nat → Nat) : ∀ k i acc, acc ≤ mxF G k i acc := by
  intro k
  induction k with
  | zero => intro i acc; exact Nat.le_refl _
  | succ k ih =>
    intro i acc
    rw [mxF]
    have := ih (i + 1) (if acc < G i then G i else acc)
    split at this <;> split <;> first | omega | (rename_i a b; simp_all; try omega)
theorem mx_ge (G : Nat → Nat) : ∀ k i acc j, i ≤ j → j < i + k → G j ≤ mxF G k i acc := by
  intro k
  induction k with
  | zero => intro i acc j h1 h2; omega
  | succ k ih =>
    intro i acc j h1 h2
    rw [mxF]
    by_cases e : j = i
    · subst e
      have := mx_acc G k (j + 1) (if acc < G j then G j else acc)
      by_cases c : acc < G j
      · rw [if_pos c] at this ⊢; omega
      · rw [if_neg c] at this ⊢; omega
    · exact ih (i + 1) _ j (by omega) (by omega)
theorem mx_or (G : Nat → Nat) : ∀ k i acc, mxF G k i acc = acc ∨ ∃ j, i ≤ j ∧ j < i + k ∧ mxF G k i acc = G j := by
  intro k
  induction k with
  | zero => intro i acc; exact Or.inl rfl
  | succ k ih =>
    intro i acc
    rw [mxF]
    rcases ih (i + 1) (if acc < G i then G i else acc) with h | ⟨j, h1, h2, h3⟩
    · by_cases c : acc < G i
      · rw [if_pos c] at h ⊢
        exact Or.inr ⟨i, by omega, by omega, h⟩
      · rw [if_neg c] at h ⊢
        exact Or.inl h
    · exact Or.inr ⟨j, by omega, by omega, h3⟩
def allF (G : Nat → Nat) (t : Nat) : Nat → Nat → Bool
  | 0, _ => true
  | k + 1, i => if G i ≤ t then allF G t k (i + 1) else false
theorem all_iff (G : Nat → Nat) (t : Nat) : ∀ k i, allF G t k i = true ↔ ∀ j, i ≤ j → j < i + k → G j ≤ t := by
  intro k
  induction k with
  | zero => intro i; exact ⟨fun _ j h1 h2 => by omega, fun _ => rfl⟩
  | succ k ih =>
    intro i
    rw [allF]
    by_cases c : G i ≤ t
    · rw [if_pos c, ih]
      refine ⟨fun h j h1 h2 => ?_, fun h j h1 h2 => h j (by omega) (by omega)⟩
      by_cases e : j = i
      · subst e; exact c
      · exact h j (by omega) (by omega)
    · rw [if_neg c]
      exact ⟨fun h => (by cases h), fun h => absurd (h i (by omega) (by omega)) c⟩
theorem mx_all {G : Nat → Nat} {N o : Nat} (ho : o ≤ N) : G o = mxF G (N + 1) 0 0 ↔ allF G (G o) (N + 1) 0 = true := by
  rw [all_iff]
  have h1 := mx_ge G (N + 1) 0 0 o (by omega) (by omega)
  refine ⟨fun h j _ h2 => by rw [h]; exact mx_ge G (N + 1) 0 0 j (by omega) h2, fun h => ?_⟩
  rcases mx_or G (N + 1) 0 0 with e | ⟨j, _, j2, e⟩
  · omega
  · have := h j (by omega) j2
    omega
def r2F (B : Nat → Bool) (one : Nat) : Nat → Nat → Nat → Option (Nat × Nat) → Nat × Option (Nat × Nat)
  | 0, _, m, fi => (m, fi)
  | k + 1, o, m, fi => if B o then r2F B one k (o + 1) (m + 1) (if m = 0 then some (one, o) else fi) else r2F B one k (o + 1) m fi
def r1F (B : Nat → Nat → Bool) (N : Nat) : Nat → Nat → Nat → Option (Nat × Nat) → Nat × Option (Nat × Nat)
  | 0, _, m, fi => (m, fi)
  | k + 1, one, m, fi => r1F B N k (one + 1) (r2F (B one) one (N + 1) 0 m fi).1 (r2F (B one) one (N + 1) 0 m fi).2
/-- none, so far, just if none was found -/
def okF (N m : Nat) (fi : Option (Nat × Nat)) : Prop := (m = 0 ∧ fi = none) ∨ (0 < m ∧ ∃ a b, a ≤ N ∧ b ≤ N ∧ fi = some (a, b))
theorem r2_ok {B : Nat → Bool} {N one : Nat} (h1 : one ≤ N) : ∀ k o m fi, o + k ≤ N + 1 → okF N m fi → okF N (r2F B one k o m fi).1 (r2F B one k o m fi).2 ∧ (r2F B one k o m fi).1 ≤ m + k := by
  intro k
  induction k with
  | zero => intro o m fi _ h; exact ⟨h, Nat.le_refl _⟩
  | succ k ih =>
    intro o m fi ho h
    rw [r2F]
    by_cases c : B o = true
    · rw [if_pos c]
      have := ih (o + 1) (m + 1) (if m = 0 then some (one, o) else fi) (by omega) (Or.inr ⟨by omega, by
        rcases h with ⟨e1, e2⟩ | ⟨e1, a, b, ha, hb, e2⟩
        · exact ⟨one, o, h1, by omega, if_pos e1⟩
        · exact ⟨a, b, ha, hb, by rw [if_neg (by omega), e2]⟩⟩)
      exact ⟨this.1, by omega⟩
    · rw [if_neg c]
      have := ih (o + 1) m fi (by omega) h
      exact ⟨this.1, by omega⟩
/-- the first rest, as both keep it -/
def eF : Option (Nat × Nat) → Int32
  | none => -1
  | some (a, b) => nI (100 * a + b)
section
variable {g : GH} {A : Nat → Nat} {V : Nat → Prop} {S : pq_S} {st : Nat → Int32} {n : Nat}
def bR (G : Nat → Nat → Nat) (N a b : Nat) : Bool := allF (fun k => G k b) (G a b) (N + 1) 0 && allF (fun k => G k a) (G b a) (N + 1) 0
theorem rv_isB (h : RV g A S st) (hn : 30 ≤ n) {p own other N : Nat} (hp : p < 2 ^ 31) (h1 : own ≤ 20) (h2 : other ≤ 20) (hN : N ≤ 20) : ∀ (f k : Nat), k ≤ N + 1 → N + 1 < k + f → b_X12_isBest_3 n f (A 60) (nI p) (nI own) (nI other) (nI N) (nI k) S = some (if allF (fun k => GT g st p k other) (GT g st p own other) (N + 1 - k) k then 1 else 0, S) := by
  intro f
  induction f with
  | zero => intro k a b; omega
  | succ f ih =>
    intro k a b
    rw [b_X12_isBest_3]
    by_cases c : N < k
    · rw [if_pos (nI_lt c (by omega)), show N + 1 - k = 0 by omega, allF, if_pos rfl]
    · have g1 := GT_le (st := st) (p := p) (own := k) (other := other) h.2.1 (by omega)
      have g2 := GT_le (st := st) (p := p) (own := own) (other := other) h.2.1 (by omega)
      rw [if_neg (nI_nlt (by omega) (by omega)), rv_GT h (by omega) hp (by omega) (by omega), cb_mk, rv_GT h (by omega) hp (by omega) (by omega), cb_mk, show N + 1 - k = (N + 1 - (k + 1)) + 1 by omega, allF]
      by_cases c2 : GT g st p k other ≤ GT g st p own other
      · rw [if_pos (nI_le c2 (by omega)), if_pos c2, nI_1]
        exact ih (k + 1) (by omega) (by omega)
      · rw [if_neg (nI_ge (by omega) (by omega)), if_neg c2, if_neg (by decide)]
theorem rv_isB' (h : RV g A S st) (hn : 30 ≤ n) {p own other N : Nat} (hp : p < 2 ^ 31) (h1 : own ≤ 20) (h2 : other ≤ 20) (hN : N ≤ 20) : m_X12_isBest n (A 60) (nI p) (nI own) (nI other) (nI N) S = some (if allF (fun k => GT g st p k other) (GT g st p own other) (N + 1) 0 then 1 else 0, S) := rv_isB h hn hp h1 h2 hN n 0 (by omega) (by omega)
theorem eF_m1 {N m : Nat} {fi : Option (Nat × Nat)} (hN : N ≤ 20) (h : okF N m fi) : eF fi = -1 ↔ m = 0 := by
  rcases h with ⟨e1, e2⟩ | ⟨e1, a, b, ha, hb, e2⟩
  · rw [e2]; exact ⟨fun _ => e1, fun _ => rfl⟩
  · rw [e2]
    refine ⟨fun e => ?_, fun e => by omega⟩
    have h1 : (nI (100 * a + b)).toInt = (-1 : Int32).toInt := congrArg Int32.toInt e
    rw [nI_toInt (by omega)] at h1
    have : (-1 : Int32).toInt = -1 := by decide
    omega
theorem rv_r2 (h : RV g A S st) (hn : 30 ≤ n) {p N one : Nat} {w : Int32} (hp : p < 2 ^ 31) (h1 : one ≤ N) (hN : N ≤ 20) {K : Nat → Int32 → Int32 → Int32 → Int32 → Int32 → Int32 → pq_S → Option (Int32 × pq_S)} : ∀ (f o m : Nat) (fi : Option (Nat × Nat)), o ≤ N + 1 → N + 1 < o + f → okF N m fi → b_X12_sellers_71 n K f (A 60) (nI p) (nI N) w (nI m) (eF fi) (nI one) (nI o) S = K (A 60) (nI p) (nI N) w (nI (r2F (bR (GT g st p) N one) one (N + 1 - o) o m fi).1) (eF (r2F (bR (GT g st p) N one) one (N + 1 - o) o m fi).2) (nI (one + 1)) S := by
  intro f
  induction f with
  | zero => intro o m fi a b; omega
  | succ f ih =>
    intro o m fi a b hok
    rw [b_X12_sellers_71]
    by_cases c : N < o
    · rw [if_pos (nI_lt c (by omega)), b_X12_sellers_136, nI_1, show N + 1 - o = 0 by omega, r2F]
    · rw [if_neg (nI_nlt (by omega) (by omega)), rv_isB' h hn hp (by omega) (by omega) hN, cb_mk, show N + 1 - o = (N + 1 - (o + 1)) + 1 by omega, r2F]
      by_cases c1 : allF (fun k => GT g st p k o) (GT g st p one o) (N + 1) 0 = true
      · rw [if_pos c1, if_neg (by decide), rv_isB' h hn hp (by omega) (by omega) hN, cb_mk]
        by_cases c2 : allF (fun k => GT g st p k one) (GT g st p o one) (N + 1) 0 = true
        · rw [if_pos c2, if_neg (by decide), if_pos (show bR (GT g st p) N one o = true by unfold bR; rw [c1, c2]; rfl)]
          have hm := eF_m1 hN hok
          by_cases c3 : m = 0
          · rw [if_pos (hm.mpr c3), if_pos c3, b_X12_sellers_128, b_X12_sellers_130, nI_1, nI_1, show (100 : Int32) * nI one + nI o = nI (100 * one + o) from by rw [show (100 : Int32) = nI 100 from rfl, pk_mul, nI_add]]
            exact ih (o + 1) (m + 1) (some (one, o)) (by omega) (by omega) (Or.inr ⟨by omega, one, o, h1, by omega, rfl⟩)
          · rw [if_neg (fun e => c3 (hm.mp e)), if_neg c3, b_X12_sellers_128, b_X12_sellers_130, nI_1, nI_1]
            exact ih (o + 1) (m + 1) fi (by omega) (by omega) (hok.elim (fun e => absurd e.1 c3) (fun e => Or.inr ⟨by omega, e.2⟩))
        · rw [if_neg c2, if_pos rfl, b_X12_sellers_130, nI_1, if_neg (show ¬ bR (GT g st p) N one o = true by unfold bR; rw [c1]; simpa using c2)]
          exact ih (o + 1) m fi (by omega) (by omega) hok
      · rw [if_neg c1, if_pos rfl, b_X12_sellers_130, nI_1, if_neg (show ¬ bR (GT g st p) N one o = true by unfold bR; simp only [Bool.and_eq_true]; exact fun e => c1 e.1)]
        exact ih (o + 1) m fi (by omega) (by omega) hok
theorem rv_r1 (h : RV g A S st) (hn : 30 ≤ n) {p N : Nat} {w : Int32} (hp : p < 2 ^ 31) (hN : N ≤ 20) : ∀ (f one m : Nat) (fi : Option (Nat × Nat)), one ≤ N + 1 → N + 1 < one + f → okF N m fi → b_X12_sellers_62 n f (A 60) (nI p) (nI N) w (nI m) (eF fi) (nI one) S = b_X12_sellers_142 n (A 60) (nI p) w (nI (r1F (bR (GT g st p) N) N (N + 1 - one) one m fi).1) (eF (r1F (bR (GT g st p) N) N (N + 1 - one) one m fi).2) S := by
  intro f
  induction f with
  | zero => intro one m fi a b; omega
  | succ f ih =>
    intro one m fi a b hok
    rw [b_X12_sellers_62]
    by_cases c : N < one
    · rw [if_pos (nI_lt c (by omega)), show N + 1 - one = 0 by omega, r1F]
    · rw [if_neg (nI_nlt (by omega) (by omega)), show N + 1 - one = (N + 1 - (one + 1)) + 1 by omega, r1F]
      refine (rv_r2 h hn hp (by omega) hN n 0 m fi (by omega) (by omega) hok).trans ?_
      exact ih (one + 1) _ _ (by omega) (by omega) (r2_ok (by omega) _ _ _ _ (by omega) hok).1
/-! the class's side -/
theorem x_best (hn : 30 ≤ n) {p N o : Nat} (hp : p < 2 ^ 31) (ho : o ≤ N) (hN : N ≤ 20) {K : Nat → Int32 → Int32 → Int32 → pq_S → Option pq_S} : ∀ (f k acc : Nat) (T : pq_S), k ≤ N + 1 → N + 1 < k + f → acc ≤ 14256 → JG A V g T → pA T (A 31) o = nI acc → ∃ T', b_X3_findRests_26 n K f (A 28) (nI p) (nI N) (nI o) (nI k) T = K (A 28) (nI p) (nI N) (nI (o + 1)) T' ∧ KP A T T' ∧ pA T' (A 31) o = nI (mxF (fun k => GT g (gst g) p k o) (N + 1 - k) k acc) ∧ ∀ j, j ≠ o → pA T' (A 31) j = pA T (A 31) j := by
  intro f
  induction f with
  | zero => intro k acc T a b; omega
  | succ f ih =>
    intro k acc T a b hacc hJ hA
    rw [b_X3_findRests_26]
    by_cases c : N < k
    · rw [if_pos (nI_lt c (by omega)), b_X3_findRests_61, nI_1, show N + 1 - k = 0 by omega, mxF]
      exact ⟨T, rfl, KPL.rf _ _ _ _ _, hA, fun _ _ => rfl⟩
    · have g1 := GT_le (st := gst g) (p := p) (own := k) (other := o) hJ.gb (by omega)
      rw [if_neg (nI_nlt (by omega) (by omega)), hJ.lay.r28_303, ob_mk, ob_mk, hJ.lay.n31, ck_pos (ixn (by omega) (by omega)), xv_GT hJ.xv (by omega) hp (by omega) (by omega), cb_mk, hJ.lay.n31, ck_pos (ixn (by omega) (by omega)), lt_mk, nI_clamp (by omega), hA, show N + 1 - k = (N + 1 - (k + 1)) + 1 by omega, mxF, nI_1]
      have e : (if nI acc < nI (GT g (gst g) p k o) then nI (GT g (gst g) p k o) else nI acc) = nI (if acc < GT g (gst g) p k o then GT g (gst g) p k o else acc) := by
        by_cases c1 : acc < GT g (gst g) p k o
        · rw [if_pos (nI_lt c1 (by omega)), if_pos c1]
        · rw [if_neg (nI_nlt (by omega) (by omega)), if_neg c1]
      rw [e]
      have k1 : KP A T (sA T (A 31) o (nI (if acc < GT g (gst g) p k o then GT g (gst g) p k o else acc))) := KPL.wA (KPL.rf _ _ _ _ _) (by decide)
      obtain ⟨T', b1, b2, b3, b4⟩ := ih (k + 1) (if acc < GT g (gst g) p k o then GT g (gst g) p k o else acc) _ (by omega) (by omega) (by split <;> omega) (hJ.kp k1) (by rw [pA_sA, if_pos ⟨rfl, rfl⟩])
      refine ⟨T', b1, hJ.tr k1 b2, b3, fun j hj => ?_⟩
      rw [b4 j hj, pA_sA, if_neg (fun q => hj q.2)]
def bsF (g : GH) (p N o : Nat) : Nat := mxF (fun k => GT g (gst g) p k o) (N + 1) 0 0
theorem x_rows (hn : 30 ≤ n) {p N : Nat} (hp : p < 2 ^ 31) (hN : N ≤ 20) : ∀ (f o : Nat) (T : pq_S), o ≤ N + 1 → N + 1 < o + f → JG A V g T → (∀ j, j < o → pA T (A 31) j = nI (bsF g p N j)) → ∃ T', b_X3_findRests_2 n f (A 28) (nI p) (nI N) (nI o) T = b_X3_findRests_67 n (A 28) (nI p) (nI N) T' ∧ KP A T T' ∧ ∀ j, j ≤ N → pA T' (A 31) j = nI (bsF g p N j) := by
  intro f
  induction f with
  | zero => intro o T a b; omega
  | succ f ih =>
    intro o T a b hJ hA
    rw [b_X3_findRests_2]
    by_cases c : N < o
    · rw [if_pos (nI_lt c (by omega))]
      exact ⟨T, rfl, KPL.rf _ _ _ _ _, fun j hj => hA j (by omega)⟩
    · have k1 : KP A T (sA T (A 31) o 0) := KPL.wA (KPL.rf _ _ _ _ _) (by decide)
      rw [if_neg (nI_nlt (by omega) (by omega)), hJ.lay.r28_303, ob_mk, hJ.lay.n31, ofN, if_neg (nI_ge (by omega) (by omega)), ob_mk, hJ.lay.n31, ck_pos (ixn (by omega) (by omega)), nI_clamp (by omega)]
      obtain ⟨T1, b1, b2, b3, b4⟩ := x_best (n := n) (K := b_X3_findRests_2 n f) hn hp (show o ≤ N by omega) hN n 0 0 _ (by omega) (by omega) (by omega) (hJ.kp k1) (by rw [pA_sA, if_pos ⟨rfl, rfl⟩]; rfl)
      have b1 : b_X3_findRests_26 n (b_X3_findRests_2 n f) n (A 28) (nI p) (nI N) (nI o) 0 (sA T (A 31) o 0) = _ := b1
      rw [b1]
      obtain ⟨T2, c1, c2, c3⟩ := ih (o + 1) T1 (by omega) (by omega) ((hJ.kp k1).kp b2) (fun j hj => by
        by_cases e : j = o
        · subst e; exact b3
        · rw [b4 j e, pA_sA, if_neg (fun q => e q.2)]
          exact hA j (by omega))
      exact ⟨T2, c1, hJ.tr (hJ.tr k1 b2) c2, c3⟩
theorem x_isR (hn : 30 ≤ n) {T : pq_S} {p N a b : Nat} (hp : p < 2 ^ 31) (hN : N ≤ 20) (ha : a ≤ N) (hb : b ≤ N) (hJ : JG A V g T) (hA : ∀ j, j ≤ N → pA T (A 31) j = nI (bsF g p N j)) : m_X3_isBestAgainst n (A 28) (nI p) (nI a) (nI b) T = some (if allF (fun k => GT g (gst g) p k b) (GT g (gst g) p a b) (N + 1) 0 then 1 else 0, T) := by
  have g1 := GT_le (st := gst g) (p := p) (own := a) (other := b) hJ.gb (by omega)
  have g2 : bsF g p N b ≤ 14256 := by
    unfold bsF
    rcases mx_or (fun k => GT g (gst g) p k b) (N + 1) 0 0 with e | ⟨j, _, j2, e⟩
    · omega
    · rw [e]; exact GT_le hJ.gb (by omega)
  unfold m_X3_isBestAgainst
  rw [if_neg (nI_pos (by omega)), hJ.lay.r28_303, ob_mk, hJ.lay.n31, ofN, if_neg (nI_ge (by omega) (by omega)), xv_GT hJ.xv (by omega) hp (by omega) (by omega), cb_mk, hJ.lay.r28_303, ob_mk, hJ.lay.n31, ck_pos (ixn (by omega) (by omega)), nI_clamp (by omega), hA b hb]
  have h1 := mx_all (G := fun k => GT g (gst g) p k b) ha
  by_cases c : GT g (gst g) p a b = bsF g p N b
  · rw [if_pos (by rw [c]), if_pos (h1.mp c)]
  · rw [if_neg (fun q => c ((nI_eq (by omega) (by omega)).mp q)), if_neg (fun q => c (h1.mpr q))]
theorem x_rest (hn : 30 ≤ n) {T : pq_S} {p N a b : Nat} (hp : p < 2 ^ 31) (hN : N ≤ 20) (ha : a ≤ N) (hb : b ≤ N) (hJ : JG A V g T) (hA : ∀ j, j ≤ N → pA T (A 31) j = nI (bsF g p N j)) : m_X3_isRest n (A 28) (nI p) (nI a) (nI b) T = some (if bR (GT g (gst g) p) N a b then 1 else 0, T) := by
  unfold m_X3_isRest bR
  rw [x_isR hn hp hN ha hb hJ hA, cb_mk]
  by_cases c1 : allF (fun k => GT g (gst g) p k b) (GT g (gst g) p a b) (N + 1) 0 = true
  · rw [if_pos c1, if_neg (by decide), x_isR hn hp hN hb ha hJ hA, cb_mk]
    by_cases c2 : allF (fun k => GT g (gst g) p k a) (GT g (gst g) p b a) (N + 1) 0 = true
    · rw [if_pos c2, if_neg (by decide), c1, c2]; rfl
    · rw [if_neg c2, if_pos rfl, if_neg (by rw [c1]; simpa using c2)]
  · rw [if_neg c1, if_pos rfl, if_neg (by simp only [Bool.and_eq_true]; exact fun e => c1 e.1)]
/-- what the class has found so far -/
def RS (g : GH) (A : Nat → Nat) (p N m : Nat) (fi : Option (Nat × Nat)) (T : pq_S) : Prop := (∀ j, j ≤ N → pA T (A 31) j = nI (bsF g p N j)) ∧ pI T 306 (A 28) = nI m ∧ pI T 307 (A 28) = eF fi ∧ pI T 308 (A 28) = nI (match fi with | none => 0 | some (a, b) => GT g (gst g) p a b)
theorem x_r2 (hn : 30 ≤ n) {p N one : Nat} (hp : p < 2 ^ 31) (h1 : one ≤ N) (hN : N ≤ 20) {K : Nat → Int32 → Int32 → Int32 → pq_S → Option pq_S} : ∀ (f o m : Nat) (fi : Option (Nat × Nat)) (T : pq_S), o ≤ N + 1 → N + 1 < o + f → m ≤ 1000 - (N + 1 - o) → okF N m fi → JG A V g T → RS g A p N m fi T → ∃ T', b_X3_findRests_92 n K f (A 28) (nI p) (nI N) (nI one) (nI o) T = K (A 28) (nI p) (nI N) (nI (one + 1)) T' ∧ KP A T T' ∧ RS g A p N (r2F (bR (GT g (gst g) p) N one) one (N + 1 - o) o m fi).1 (r2F (bR (GT g (gst g) p) N one) one (N + 1 - o) o m fi).2 T' := by
  intro f
  induction f with
  | zero => intro o m fi T a b; omega
  | succ f ih =>
    intro o m fi T a b hm hok hJ hR
    rw [b_X3_findRests_92]
    by_cases c : N < o
    · rw [if_pos (nI_lt c (by omega)), b_X3_findRests_123, nI_1, show N + 1 - o = 0 by omega, r2F]
      exact ⟨T, rfl, KPL.rf _ _ _ _ _, hR⟩
    · rw [if_neg (nI_nlt (by omega) (by omega)), x_rest hn hp hN h1 (by omega) hJ hR.1, cb_mk, show N + 1 - o = (N + 1 - (o + 1)) + 1 by omega, r2F]
      by_cases c1 : bR (GT g (gst g) p) N one o = true
      · rw [if_pos c1, if_pos c1, if_neg (by decide)]
        by_cases c3 : m = 0
        · have k1 : KP A T (sI T 307 (A 28) (nI (100 * one + o))) := KPL.wI (KPL.rf _ _ _ _ _) (by decide)
          have k2 : KP A T (sI (sI (sI T 307 (A 28) (nI (100 * one + o))) 308 (A 28) (nI (GT g (gst g) p one o))) 306 (A 28) (nI (m + 1))) := KPL.wI (KPL.wI k1 (by decide)) (by decide)
          have e : m_X3_keepRest n (A 28) (nI p) (nI one) (nI o) T = some (sI (sI (sI T 307 (A 28) (nI (100 * one + o))) 308 (A 28) (nI (GT g (gst g) p one o))) 306 (A 28) (nI (m + 1))) := by
            unfold m_X3_keepRest
            rw [hR.2.1, c3, if_pos (show nI 0 = 0 from rfl), show (100 : Int32) * nI one + nI o = nI (100 * one + o) from by rw [show (100 : Int32) = nI 100 from rfl, pk_mul, nI_add], xv_GT (hJ.kp k1).xv (by omega) hp (by omega) (by omega), cb_mk, b_X3_keepRest_28]
            have : pI (sI (sI T 307 (A 28) (nI (100 * one + o))) 308 (A 28) (nI (GT g (gst g) p one o))) 306 (A 28) = nI 0 := by simp only [pI_sI, Nat.reduceEqDiff, false_and, and_true, true_and, eq_self, and_self, ite_true, ite_false, if_true, if_false, hR.2.1, c3]
            rw [this, nI_1]
          rw [e, ob_mk, b_X3_findRests_117, nI_1, if_pos c3]
          obtain ⟨T', b1, b2, b3⟩ := ih (o + 1) (m + 1) (some (one, o)) _ (by omega) (by omega) (by omega) (Or.inr ⟨by omega, one, o, h1, by omega, rfl⟩) (hJ.kp k2) ⟨hR.1, by simp only [pI_sI, Nat.reduceEqDiff, false_and, and_true, true_and, eq_self, and_self, ite_true, ite_false, if_true, if_false], by simp only [pI_sI, Nat.reduceEqDiff, false_and, and_true, true_and, eq_self, and_self, ite_true, ite_false, if_true, if_false]; rfl, by simp only [pI_sI, Nat.reduceEqDiff, false_and, and_true, true_and, eq_self, and_self, ite_true, ite_false, if_true, if_false]⟩
          exact ⟨T', b1, hJ.tr k2 b2, b3⟩
        · have k2 : KP A T (sI T 306 (A 28) (nI (m + 1))) := KPL.wI (KPL.rf _ _ _ _ _) (by decide)
          have e : m_X3_keepRest n (A 28) (nI p) (nI one) (nI o) T = some (sI T 306 (A 28) (nI (m + 1))) := by
            unfold m_X3_keepRest
            rw [hR.2.1, if_neg (nI_ne0 (by omega) (by omega)), b_X3_keepRest_28, hR.2.1, nI_1]
          rw [e, ob_mk, b_X3_findRests_117, nI_1, if_neg c3]
          obtain ⟨T', b1, b2, b3⟩ := ih (o + 1) (m + 1) fi _ (by omega) (by omega) (by omega) (hok.elim (fun e => absurd e.1 c3) (fun e => Or.inr ⟨by omega, e.2⟩)) (hJ.kp k2) ⟨hR.1, by simp only [pI_sI, Nat.reduceEqDiff, false_and, and_true, true_and, eq_self, and_self, ite_true, ite_false, if_true, if_false], by simp only [pI_sI, Nat.reduceEqDiff, false_and, and_true, true_and, eq_self, and_self, ite_true, ite_false, if_true, if_false]; exact hR.2.2.1, by simp only [pI_sI, Nat.reduceEqDiff, false_and, and_true, true_and, eq_self, and_self, ite_true, ite_false, if_true, if_false]; exact hR.2.2.2⟩
          exact ⟨T', b1, hJ.tr k2 b2, b3⟩
      · rw [if_neg c1, if_neg c1, if_pos rfl, b_X3_findRests_117, nI_1]
        exact ih (o + 1) m fi T (by omega) (by omega) (by omega) hok hJ hR
theorem x_r1 (hn : 30 ≤ n) {p N : Nat} (hp : p < 2 ^ 31) (hN : N ≤ 20) : ∀ (f one m : Nat) (fi : Option (Nat × Nat)) (T : pq_S), one ≤ N + 1 → N + 1 < one + f → m ≤ 30 * one → okF N m fi → JG A V g T → RS g A p N m fi T → ∃ T', b_X3_findRests_84 n f (A 28) (nI p) (nI N) (nI one) T = some T' ∧ KP A T T' ∧ RS g A p N (r1F (bR (GT g (gst g) p) N) N (N + 1 - one) one m fi).1 (r1F (bR (GT g (gst g) p) N) N (N + 1 - one) one m fi).2 T' := by
  intro f
  induction f with
  | zero => intro one m fi T a b; omega
  | succ f ih =>
    intro one m fi T a b hm hok hJ hR
    rw [b_X3_findRests_84]
    by_cases c : N < one
    · rw [if_pos (nI_lt c (by omega)), show N + 1 - one = 0 by omega, r1F]
      exact ⟨T, rfl, KPL.rf _ _ _ _ _, hR⟩
    · rw [if_neg (nI_nlt (by omega) (by omega)), show N + 1 - one = (N + 1 - (one + 1)) + 1 by omega, r1F]
      obtain ⟨T1, b1, b2, b3⟩ := x_r2 (n := n) (K := b_X3_findRests_84 n f) hn hp (show one ≤ N by omega) hN n 0 m fi T (by omega) (by omega) (by omega) hok hJ hR
      have b1 : b_X3_findRests_92 n (b_X3_findRests_84 n f) n (A 28) (nI p) (nI N) (nI one) 0 T = _ := b1
      have hk := r2_ok (B := bR (GT g (gst g) p) N one) (N := N) (one := one) (by omega) (N + 1) 0 m fi (by omega) hok
      rw [b1]
      obtain ⟨T2, c1, c2, c3⟩ := ih (one + 1) _ _ T1 (by omega) (by omega) (by omega) hk.1 (hJ.kp b2) b3
      exact ⟨T2, c1, hJ.tr b2 c2, c3⟩
def RES (g : GH) (p N : Nat) : Nat × Option (Nat × Nat) := r1F (bR (GT g (gst g) p) N) N (N + 1) 0 0 none
theorem x_find (hn : 30 ≤ n) {p N : Nat} (hp : p < 2 ^ 31) (hN : N ≤ 20) (h : JG A V g S) : ∃ T', m_X3_findRests n (A 28) (nI p) (nI N) S = some T' ∧ KP A S T' ∧ RS g A p N (RES g p N).1 (RES g p N).2 T' := by
  obtain ⟨T1, a1, a2, a3⟩ := x_rows (n := n) hn hp hN n 0 S (by omega) (by omega) h (fun j hj => by omega)
  have k1 : KP A T1 (sI (sI (sI T1 306 (A 28) 0) 307 (A 28) (-1)) 308 (A 28) 0) := KPL.wI (KPL.wI (KPL.wI (KPL.rf _ _ _ _ _) (by decide)) (by decide)) (by decide)
  have h1 := h.kp a2
  obtain ⟨T2, b1, b2, b3⟩ := x_r1 (n := n) hn hp hN n 0 0 none _ (by omega) (by omega) (by omega) (Or.inl ⟨rfl, rfl⟩) (h1.kp k1) ⟨a3, by simp only [pI_sI, Nat.reduceEqDiff, false_and, and_true, true_and, eq_self, and_self, ite_true, ite_false, if_true, if_false]; rfl, by simp only [pI_sI, Nat.reduceEqDiff, false_and, and_true, true_and, eq_self, and_self, ite_true, ite_false, if_true, if_false]; rfl, by simp only [pI_sI, Nat.reduceEqDiff, false_and, and_true, true_and, eq_self, and_self, ite_true, ite_false, if_true, if_false]; rfl⟩
  refine ⟨T2, ?_, h.tr a2 (h1.tr k1 b2), b3⟩
  unfold m_X3_findRests
  have a1 : b_X3_findRests_2 n n (A 28) (nI p) (nI N) 0 S = _ := a1
  rw [a1, b_X3_findRests_67]
  exact b1
theorem RES_ok (p N : Nat) : ∀ k one m fi, one + k ≤ N + 1 → okF N m fi → okF N (r1F (bR (GT g (gst g) p) N) N k one m fi).1 (r1F (bR (GT g (gst g) p) N) N k one m fi).2 := by
  intro k
  induction k with
  | zero => intro one m fi _ h; exact h
  | succ k ih =>
    intro one m fi h1 h
    rw [r1F]
    exact ih (one + 1) _ _ (by omega) (r2_ok (by omega) _ _ _ _ (by omega) h).1
end
theorem ob_28 (n xa ma : Nat) (hn : 20000 ≤ n) : OB_28 n xa ma (JJ xa ma) := by
  rintro S f ⟨A, V, g, rfl, rfl, h⟩ y z w
  have h : JG A V g S := h
  have hb := h.gb.b
  refine ⟨200, 8000, by decide, by decide, 1, 6, by decide, by decide, wrP h (fun i hi e => ⟨_, _, sp_isWithin _ _ _ _ _, ?_⟩) (fun q => Or.inl ⟨rfl, ki_miss h (b := 0) (by decide) ?_⟩)⟩
  · subst e
    by_cases c1 : 0 ≤ z ∧ z ≤ 20
    · rw [if_pos c1, if_neg (by decide)]
      refine ⟨_, _, sp_isWithin _ _ _ _ _, ?_⟩
      by_cases c2 : 0 ≤ w ∧ w ≤ 2
      · rw [if_pos c2, if_neg (by decide)]
        refine ⟨1, 6, by decide, by decide, wr_need1 ?_⟩
        rcases i32_wi z 0 20 (by decide) (by decide) with ⟨N, _, hN, rfl⟩ | q
        · obtain ⟨T, a1, a2, a3⟩ := x_find (n := n) (p := i) (by omega) (by omega) hN h
          have h1 := h.kp a2
          have hR := rv_r1 (n := n) (w := w) h1.rv (by omega) (show i < 2 ^ 31 by omega) hN n 0 0 none (by omega) (by omega) (Or.inl ⟨rfl, rfl⟩)
          have hok := RES_ok (g := g) i N (N + 1) 0 0 none (by omega) (Or.inl ⟨rfl, rfl⟩)
          have M : ∀ r, b_X12_sellers_142 n (A 60) (nI i) w (nI (RES g i N).1) (eF (RES g i N).2) (tk A T) = some (r, tk A T) → KI (JJ (A 0) (A 60)) (A 60) (m_X12_sellers n (A 60) (nI i) (nI N) w) 0 (vp_updL f 0 (Int32.toInt64 r)) T := fun r e => ki_ok h1 (by
            unfold m_X12_sellers b_X12_sellers_39
            rw [jg_P1 h1 hi, cb_mk, if_neg (by decide), sp_within, if_pos c1, cb_mk, if_neg (by decide), sp_within, if_pos c2, cb_mk, if_neg (by decide), sp_mayS1, cb_mk, if_neg (by decide), jg_take h1 (by omega), ob_mk]
            exact hR.trans e) h1.tkk (tk_th A T)
          refine ⟨_, h.lay.r0_1102, T, a1, ?_⟩
          rcases w3 w with rfl | rfl | rfl | q
          · rw [if_pos rfl]
            refine ⟨_, h1.lay.r0_1102, M _ ?_⟩
            rw [b_X12_sellers_142, if_pos rfl, a3.2.1]
          · rw [if_neg (by decide), if_pos rfl]
            refine ⟨_, h1.lay.r0_1102, M _ ?_⟩
            rw [b_X12_sellers_142, if_neg (by decide), if_pos rfl, a3.2.2.1]
          · rw [if_neg (by decide), if_neg (by decide)]
            refine ⟨_, h1.lay.r0_1102, M _ ?_⟩
            rw [b_X12_sellers_142, if_neg (by decide), if_neg (by decide), a3.2.2.2]
            have hok : okF N (RES g i N).1 (RES g i N).2 := hok
            have hm := eF_m1 hN hok
            generalize RES g i N = rr at hok hm ⊢
            rcases hok with ⟨e1, e2⟩ | ⟨e1, a, b, ha, hb3, e2⟩
            · rw [if_pos (hm.mpr e1), e2]; rfl
            · rw [if_neg (fun q => by have := hm.mp q; omega), e2]
              show cb (m_X12_getsOf n (A 60) (nI i) (nI (100 * a + b) / 100) (nI (100 * a + b) - nI (100 * a + b) / 100 * 100) (tk A T)) _ = _
              rw [show nI (100 * a + b) / 100 = nI a from by rw [show (100 : Int32) = nI 100 from rfl, pk_div (by omega) (by omega) (by omega), show (100 * a + b) / 100 = a by omega], show nI a * 100 = nI (a * 100) from pk_mul a 100, pk_sub (by omega), show 100 * a + b - a * 100 = b by omega, rv_GT h1.rv (by omega) (by omega) (by omega) (by omega), cb_mk]
          · exact absurd c2 q
        · exact absurd c1 q
      · rw [if_neg c2, if_pos rfl]
        refine ⟨1, 6, by decide, by decide, wr_need0 (by decide) (by decide) (Or.inr ⟨rfl, ki_bad h (b := 0) (by decide) ?_⟩)⟩
        unfold m_X12_sellers b_X12_sellers_38 b_X12_sellers_39
        rw [jg_P1b h hi, cb_mk, if_neg (by decide), sp_within, if_pos c1, cb_mk, if_neg (by decide), sp_within, if_neg c2, cb_mk, if_pos rfl, jg_bad h (by decide), cb_mk, if_pos rfl]
    · rw [if_neg c1, if_pos rfl]
      refine ⟨1, 6, by decide, by decide, wr_need0 (by decide) (by decide) (Or.inr ⟨rfl, ki_bad h (b := 0) (by decide) ?_⟩)⟩
      unfold m_X12_sellers b_X12_sellers_38 b_X12_sellers_39
      rw [jg_P1b h hi, cb_mk, if_neg (by decide), sp_within, if_neg c1, cb_mk, if_pos rfl, jg_bad h (by decide), cb_mk, if_pos rfl]
  · unfold m_X12_sellers
    rw [jg_P0 h q, cb_mk, if_pos rfl]
