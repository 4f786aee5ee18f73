theorem sp_fill_b {n a : Nat} {v : Int32} {S : pq_S} {N : Nat} (hN : pN S a = N) (hb : N < 2 ^ 31) : ∀ (f j : Nat), j ≤ N → N < j + f → b_J7_fill_53178_5 n f a v (nI j) (nI N) (sF S a (mixr j (fun _ => v) (pA S a))) = some (sF S a (mixr N (fun _ => v) (pA S a))) := by
  intro f
  induction f with
  | zero => intro j h1 h2; omega
  | succ f ih =>
    intro j h1 h2
    rw [b_J7_fill_53178_5]
    by_cases c : j = N
    · rw [c, if_pos (Int32.le_refl _)]
    · rw [if_neg (nI_ge (by omega) hb), pN_sF, hN, ck_pos (ixn (by omega) hb), nI_clamp (by omega), sA_sF, nI_1, show upd (mixr j (fun _ => v) (pA S a)) j v = mixr (j + 1) (fun _ => v) (pA S a) from funext fun i => by
        unfold upd mixr
        by_cases e1 : i = j
        · subst e1; simp
        · by_cases e2 : i < j
          · simp [e1, e2, Nat.lt_succ_of_lt e2]
          · simp [e1, e2, show ¬ i < j + 1 by omega]]
      exact ih (j + 1) (by omega) (by omega)
theorem sp_fill {n a : Nat} {v : Int32} {S : pq_S} {N : Nat} (hN : pN S a = N) (hb : N < 2 ^ 31) (hn : N < n) : m_J7_fill_53178 n a v S = some (sF S a (mixr N (fun _ => v) (pA S a))) := by
  unfold m_J7_fill_53178
  have h := sp_fill_b (n := n) (v := v) hN hb n 0 (by omega) (by omega)
  rw [show mixr 0 (fun _ => v) (pA S a) = pA S a from funext fun i => by simp [mixr], sF_self, nI_0] at h
  rw [hN]
  exact h
section
variable {g : GH} {A : Nat → Nat} {S T : pq_S} {st : Nat → Int32} {n : Nat}
theorem x_behind' (hL : LAY A T) (hg : GB g) (hc : CX g T A) {p h k : Nat} (hp : p < gP g) (hk : k < 2) (hh : h ≤ 999) : m_X7_behindMonth n (A 3) (nI p) (nI k) (nI h) T = some (nI (if k = 0 then goF g p h else h - lkF g h), T) := by
  have := x_behind (n := n) (u := pA T (A 15)) hL hg hc hp hk hh
  rw [sF_self] at this
  exact this
def itF (g : GH) (p k : Nat) : Nat → Nat → Nat
  | 0, h => h
  | m + 1, h => itF g p k m (if k = 0 then goF g p h else h - lkF g h)
theorem go_le (p h : Nat) : goF g p h ≤ 999 := by unfold goF; split <;> omega
theorem x_ahead {p k M : Nat} {bc bs : Nat} {E : Nat → pq_S → Prop} {Q : Int32 → pq_S → Prop} (hL : LAY A T) (hg : GB g) (hc : CX g T A) (hp : p < gP g) (hk : k < 2) (hM : M ≤ 60) : ∀ (f i h : Nat), i ≤ M → M < i + f → h ≤ 999 → Q (nI (itF g p k (M - i) h)) T → pb_X11_ahead_65 n f (A 0) (nI p) (nI M) (nI k) (nI h) (nI i) T bc bs E Q := by
  intro f
  induction f with
  | zero => intro i h a1 a2; omega
  | succ f ih =>
    intro i h a1 a2 a3 hQ
    rw [pb_X11_ahead_65]
    by_cases c : M ≤ i
    · rw [if_pos (nI_le c (by omega))]
      rw [show M - i = 0 by omega, itF] at hQ
      exact hQ
    · rw [if_neg (nI_ge (by omega) (by omega))]
      rw [show M - i = (M - (i + 1)) + 1 by omega, itF] at hQ
      refine ⟨_, hL.r0_1101, _, _, x_behind' hL hg hc hp hk a3, ?_⟩
      rw [nI_1]
      refine ih (i + 1) _ (by omega) (by omega) ?_ hQ
      split
      · exact go_le p h
      · omega
theorem mon_0 {p : Nat} (hg : GB g) (hp : p < gP g) : monF g st p = nI (goF g p (nS st p)) := by
  have hb := hg.b
  unfold monF mqF mpF
  rw [if_neg (by omega), if_neg (by omega), if_pos (by omega), if_pos hp]
theorem mon_1 {p : Nat} (hg : GB g) (hp : p < gP g) : monF g st (6 + p) = nI (nS st (6 + p) - lkF g (nS st (6 + p))) := by
  have hb := hg.b
  unfold monF mqF mpF
  rw [if_neg (by omega), if_neg (by omega), if_neg (by omega), if_pos (by omega), if_pos (by omega)]
theorem r_ahead {p k M : Nat} {w : Int32} (hn : 100 ≤ n) (hp : p < gP g) (hM : M ≤ 60) (hk : (w = 0 ∧ k = 0) ∨ (¬ w = 0 ∧ k = 1)) : ∀ (f i : Nat) (T : pq_S) (st : Nat → Int32), i ≤ M → M < i + f → RV g A T st → KP A S T → pI T 1200 (A 60) = 0 → ∃ T', b_X12_ahead_56 n f (A 60) (nI p) (nI M) w (nI i) T = some (nI (itF g p k (M - i) (nS st (6 * k + p))), T') ∧ KP A S T' ∧ pI T' 1200 (A 60) = 0 := by
  intro f
  induction f with
  | zero => intro i T st a1 a2; omega
  | succ f ih =>
    intro i T st a1 a2 hR hK hT
    have hb := hR.2.1.b
    have s0 := hR.2.2.1.h0 hp
    have s1 := hR.2.2.1.h1 hp
    rw [b_X12_ahead_56]
    by_cases c : M ≤ i
    · rw [if_pos (nI_le c (by omega)), show M - i = 0 by omega, itF, b_X12_ahead_72]
      rcases hk with ⟨hw, hk⟩ | ⟨hw, hk⟩
      · rw [if_pos hw, hk, hR.1.r60_1247, ob_mk, hR.1.n81, show (0 : Int32) + nI p = nI p from by rw [show (0 : Int32) = nI 0 from rfl, nI_add, Nat.zero_add], ck_pos (ixn (by omega) (by omega)), nI_clamp (by omega), hR.2.2.2.2 _ (by omega), Nat.mul_zero, Nat.zero_add, ← s0.1]
        exact ⟨T, rfl, hK, hT⟩
      · rw [if_neg hw, hk, hR.1.r60_1247, ob_mk, hR.1.n81, show (6 : Int32) + nI p = nI (6 + p) from nI_add 6 p, ck_pos (ixn (by omega) (by omega)), nI_clamp (by omega), hR.2.2.2.2 _ (by omega), Nat.mul_one, ← s1.1]
        exact ⟨T, rfl, hK, hT⟩
    · obtain ⟨u, e1, e2⟩ := r_mon (n := n) hR (by omega)
      rw [if_neg (nI_ge (by omega) (by omega)), e1, ob_mk, nI_1, show M - i = (M - (i + 1)) + 1 by omega, itF]
      have e3 : nS (monF g st) (6 * k + p) = if k = 0 then goF g p (nS st (6 * k + p)) else nS st (6 * k + p) - lkF g (nS st (6 * k + p)) := by
        rcases hk with ⟨hw, hk⟩ | ⟨hw, hk⟩
        · rw [hk, if_pos rfl, Nat.mul_zero, Nat.zero_add]
          exact nS_of (by have := go_le (g := g) p (nS st p); omega) (mon_0 hR.2.1 hp)
        · rw [hk, if_neg (by decide), Nat.mul_one]
          exact nS_of (by omega) (mon_1 hR.2.1 hp)
      rw [← e3]
      exact ih (i + 1) _ (monF g st) (by omega) (by omega) e2 (KPL.wF hK (by decide)) hT
end
theorem ob_36 (n xa ma : Nat) (hn : 20000 ≤ n) : OB_36 n xa ma (JJ xa ma) := by
  rintro S f ⟨A, V, g, rfl, rfl, h⟩ y z w
  have h : JG A V g S := h
  have hb := h.gb.b
  refine ⟨200, 8000, by decide, by decide, 1, 6, by decide, by decide, wrP h (fun i hi e => ⟨_, _, sp_isWithin _ _ _ _ _, ?_⟩) (fun q => Or.inl ⟨rfl, ki_miss h (b := 0) (by decide) ?_⟩)⟩
  · subst e
    have B : ∀ (hm : m_X12_ahead n (A 60) (nI i) z w (badS A S) = some (0, badM A 2 (st0 (badS A S) (A 60)))), pb_X11_ahead_29 n (A 0) (nI i) z w (A 0) S (200 - 1) (8000 - 6) (fun (k : Nat) (S1 : pq_S) => (k = 2 ∧ (KI (JJ (A 0) (A 60)) (A 60) (m_X12_ahead n (A 60) (nI i) z w)) 1 f S1) ∨ (k = 1 ∧ (KI (JJ (A 0) (A 60)) (A 60) (m_X12_ahead n (A 60) (nI i) z w)) 2 f S1)) (fun r (S1 : pq_S) => (KI (JJ (A 0) (A 60)) (A 60) (m_X12_ahead n (A 60) (nI i) z w)) 0 (vp_updL f 0 (Int32.toInt64 r)) S1) := fun hm => ⟨1, 6, by decide, by decide, wr_need0 (by decide) (by decide) (Or.inr ⟨rfl, ki_bad h (b := 0) (by decide) hm⟩)⟩
    by_cases c1 : 0 ≤ z ∧ z ≤ 60
    · rw [if_pos c1, if_neg (by decide)]
      refine ⟨_, _, sp_isWithin _ _ _ _ _, ?_⟩
      by_cases c2 : 0 ≤ w ∧ w ≤ 1
      · rw [if_pos c2, if_neg (by decide)]
        refine ⟨1, 6, by decide, by decide, wr_need1 ?_⟩
        rcases i32_wi z 0 60 (by decide) (by decide) with ⟨M, _, hM, rfl⟩ | q
        · have s0 := h.sb.h0 hi
          have s1 := h.sb.h1 hi
          have G : ∀ k, (w = 0 ∧ k = 0) ∨ (¬ w = 0 ∧ k = 1) → KI (JJ (A 0) (A 60)) (A 60) (m_X12_ahead n (A 60) (nI i) (nI M) w) 0 (vp_updL f 0 (Int32.toInt64 (nI (itF g i k (M - 0) (nS (gst g) (6 * k + i)))))) S := fun k hk => by
            obtain ⟨T', e1, e2, e3⟩ := r_ahead (n := n) (S := S) (k := k) (by omega) hi hM hk n 0 (tk A S) (gst g) (by omega) (by omega) h.rv h.tkk (tk_th A S)
            refine ki_ok h (S2 := T') ?_ e2 e3
            unfold m_X12_ahead b_X12_ahead_39
            rw [jg_P1 h hi, cb_mk, if_neg (by decide), sp_within, if_pos c1, cb_mk, if_neg (by decide), sp_within, if_pos c2, cb_mk, if_neg (by decide), sp_mayS1, cb_mk, if_neg (by decide), jg_take h (by omega), ob_mk]
            exact e1
          have hX : ∀ k, k < 2 → nS (gst g) (6 * k + i) ≤ 999 → gst g (6 * k + i) = nI (nS (gst g) (6 * k + i)) → KI (JJ (A 0) (A 60)) (A 60) (m_X12_ahead n (A 60) (nI i) (nI M) w) 0 (vp_updL f 0 (Int32.toInt64 (nI (itF g i k (M - 0) (nS (gst g) (6 * k + i)))))) S → pb_X11_ahead_42 n (A 0) (nI i) (nI M) (nI k) S (200 - 1 - 1) (8000 - 6 - 6) (fun (k : Nat) (S1 : pq_S) => (k = 2 ∧ (KI (JJ (A 0) (A 60)) (A 60) (m_X12_ahead n (A 60) (nI i) (nI M) w)) 1 f S1) ∨ (k = 1 ∧ (KI (JJ (A 0) (A 60)) (A 60) (m_X12_ahead n (A 60) (nI i) (nI M) w)) 2 f S1)) (fun r (S1 : pq_S) => (KI (JJ (A 0) (A 60)) (A 60) (m_X12_ahead n (A 60) (nI i) (nI M) w)) 0 (vp_updL f 0 (Int32.toInt64 r)) S1) := fun k hk2 hle he hq => by
            refine ⟨_, h.lay.r0_1101, _, h.lay.r3_701, _, h.lay.r13_800, _, _, h.xv.ho hi (by omega), ?_⟩
            rw [he]
            exact x_ahead h.lay h.gb h.cx hi hk2 hM n 0 _ (by omega) (by omega) hle hq
          rcases w2 w with rfl | rfl | q
          · rw [if_pos rfl]
            exact hX 0 (by decide) (by rw [Nat.mul_zero, Nat.zero_add]; exact s0.2) (by rw [Nat.mul_zero, Nat.zero_add]; exact s0.1) (G 0 (Or.inl ⟨rfl, rfl⟩))
          · rw [if_neg (by decide)]
            exact hX 1 (by decide) (by rw [Nat.mul_one]; exact s1.2) (by rw [Nat.mul_one]; exact s1.1) (G 1 (Or.inr ⟨by decide, rfl⟩))
          · exact absurd c2 q
        · exact absurd c1 q
      · rw [if_neg c2, if_pos rfl]
        refine B ?_
        unfold m_X12_ahead b_X12_ahead_38 b_X12_ahead_39
        rw [jg_P1b h hi, cb_mk, if_neg (by decide), sp_within, if_pos c1, cb_mk, if_neg (by decide), sp_within, if_neg c2, cb_mk, if_pos rfl, jg_bad h (by decide), cb_mk, if_pos rfl]
    · rw [if_neg c1, if_pos rfl]
      refine B ?_
      unfold m_X12_ahead b_X12_ahead_38 b_X12_ahead_39
      rw [jg_P1b h hi, cb_mk, if_neg (by decide), sp_within, if_neg c1, cb_mk, if_pos rfl, jg_bad h (by decide), cb_mk, if_pos rfl]
  · unfold m_X12_ahead
    rw [jg_P0 h q, cb_mk, if_pos rfl]
