/-! coast: columns and rows -/
section
variable {A b : Nat → Nat} {z n : Nat} {S T : pq_S}
theorem XE.fx' {F : List Nat} {P : List (Nat × Nat)} {AA : List Nat} {k q : Nat} {U : pq_S} (h : XE A b z S k q) (kk : FX F P AA A S U) (hl : LAY A S) (h1 : 1002 ∉ F ∧ 1003 ∉ F ∧ 1005 ∉ F ∧ 1006 ∉ F) (h2 : ∀ e ∈ P, e.1 ≠ 1002 ∧ e.1 ≠ 1003 ∧ e.1 ≠ 1005 ∧ e.1 ≠ 1006) (h3 : ∀ j ∈ AA, j < 92 ∧ 2 ≠ j) : XE A b z U k q := h.fx kk hl h1 h2 h3
theorem ME.fx {F : List Nat} {P : List (Nat × Nat)} {AA : List Nat} {k q : Nat} {U : pq_S} (h : ME A b z S k q) (kk : FX F P AA A S U) (hl : LAY A S) (h1 : 1203 ∉ F ∧ 1204 ∉ F ∧ 1205 ∉ F ∧ 1206 ∉ F) (h2 : ∀ e ∈ P, e.1 ≠ 1203 ∧ e.1 ≠ 1204 ∧ e.1 ≠ 1205 ∧ e.1 ≠ 1206) (h3 : ∀ j ∈ AA, j < 92 ∧ 62 ≠ j) : ME A b z U k q := by
  obtain ⟨⟨x1, x2, x3, x4, x5⟩, ⟨p, x6, x7⟩, x8, x9, x10⟩ := h
  refine ⟨⟨by rw [kk.1.2.2.1]; exact x1, by rw [kk.1.2.2.2.1]; exact x2, ?_, x4, fun i hi => by rw [kk.W hl (by decide) h3]; exact x5 i hi⟩, ⟨p, x6, ?_⟩, ?_, ?_, x10⟩
  · rw [kk.2.1 _ _ h1.1 (fun e he q => absurd q.symm (h2 e he).1)]; exact x3
  · rw [kk.2.1 _ _ h1.2.1 (fun e he q => absurd q.symm (h2 e he).2.1)]; exact x7
  · rw [kk.2.1 _ _ h1.2.2.2 (fun e he q => absurd q.symm (h2 e he).2.2.2)]; exact x8
  · rw [kk.2.1 _ _ h1.2.2.1 (fun e he q => absurd q.symm (h2 e he).2.2.1)]; exact x9
/-- a cell is put, if it is there -/
theorem x_puta {t c : Nat} {r k v : Int32} (h0 : pR S 900 t = some (A c)) (hN : pN S (A c) < 2 ^ 31) : ∃ S', m_X9_put n t r k v S = some S' ∧ FX [] [] [c] A S S' := by
  unfold m_X9_put
  by_cases h1 : r * pI S 901 t + k < 0
  · rw [if_pos h1]; exact ⟨S, rfl, FX.rf _ _ _ _ _⟩
  · rw [if_neg h1, h0, ob_mk]
    by_cases h2 : Int32.ofNat (pN S (A c)) ≤ r * pI S 901 t + k
    · rw [if_pos h2]; exact ⟨S, rfl, FX.rf _ _ _ _ _⟩
    · rw [if_neg h2, ob_mk, ck_pos ⟨Int32.not_lt.mp h1, Nat.lt_of_not_le (fun q => h2 ((i32_le_ofNat hN (Int32.not_lt.mp h1)).mpr q))⟩]
      exact ⟨_, rfl, (FX.rf _ _ _ _ _).wA (by simp)⟩
/-- a column of a row: its number is read, and put -/
theorem j_col {t c a w cnt cc N : Nat} {lo hi lo' hi' : Int32} {D : Prop} (hn : 20000 ≤ n) (hc : c < 92 ∧ 2 ≠ c) (ha : a < 92 ∧ 62 ≠ a) (lS : LAY A S) (lT : LAY A T) (h0 : pR S 900 (A t) = some (A c)) (hN : pN S (A c) = N) (hw : pI S 901 (A t) = nI w) (hi1 : w * cnt + cc < N) (hN2 : N < 1000) (hD : D → lo = lo' ∧ hi = hi' ∧ hi ≤ 9999) {r : Int32} (hr : D → r = nI cnt) (H : (∃ p, XF A b z S p ∧ MF A b z T p ∧ D) ∨ EE A b z S T) (p0 : Nat) (hp0 : ∀ p, XF A b z S p → p0 ≤ p) : ∃ v u S1 S2 T1, m_X10_takeNumber n (A 1) lo hi S = some (v, S1) ∧ m_X9_put n (A t) r (nI cc) v S1 = some S2 ∧ m_X12_readNumber n (A 60) lo' hi' T = some (u, T1) ∧ (pR S1 = pR S ∧ LAY A S2 ∧ LAY A T1 ∧ LAY A (sA T1 (A a) (w * cnt + cc) u)) ∧ FX [1003, 1004, 1005, 1006] [] [c] A S S2 ∧ FX [1204, 1205, 1206] [] [a] A T (sA T1 (A a) (w * cnt + cc) u) ∧ (∀ p, XF A b z S2 p → p0 ≤ p) ∧ ((∃ p, XF A b z S2 p ∧ MF A b z (sA T1 (A a) (w * cnt + cc) u) p ∧ D ∧ p0 < p ∧ ∃ k, v = nI k ∧ u = nI k ∧ lo ≤ nI k ∧ nI k ≤ hi ∧ k ≤ 9999 ∧ (∀ i, pA S2 (A c) i = if i = w * cnt + cc then nI k else pA S (A c) i) ∧ (∀ i, pA (sA T1 (A a) (w * cnt + cc) u) (A a) i = if i = w * cnt + cc then nI k else pA T (A a) i)) ∨ EE A b z S2 (sA T1 (A a) (w * cnt + cc) u)) := by
  have tx : ∀ {S1 : pq_S}, TT 1003 1006 S S1 → FX [1003, 1004, 1005, 1006] [] [c] A S S1 := fun q => q.fx fun f h1 h2 => by
    have : f = 1003 ∨ f = 1004 ∨ f = 1005 ∨ f = 1006 := by omega
    rcases this with rfl | rfl | rfl | rfl <;> decide
  have tm : ∀ {T1 : pq_S}, TT 1204 1206 T T1 → FX [1204, 1205, 1206] [] [a] A T T1 := fun q => q.fx fun f h1 h2 => by
    have : f = 1204 ∨ f = 1205 ∨ f = 1206 := by omega
    rcases this with rfl | rfl | rfl <;> decide
  have c1 : ∀ j ∈ [c], j < 92 ∧ 2 ≠ j := by intro j hj; rw [List.mem_singleton.mp hj]; exact hc
  have a1 : ∀ j ∈ [a], j < 92 ∧ 62 ≠ j := by intro j hj; rw [List.mem_singleton.mp hj]; exact ha
  rcases H with ⟨p, hx, hm, d⟩ | ⟨kk, qq, hx, hm⟩
  · obtain ⟨e1, e2, e3⟩ := hD d
    subst e1
    subst e2
    have er := hr d
    subst er
    have p1 := hp0 p hx
    obtain ⟨v, u, S1, T1, y1, y2, y3, y4, y5⟩ := j_num (n := n) (lo := lo) (hi := hi) hx hm e3 hn
    have l1 := lS.tt y3 (by decide)
    have m1 := lT.tt y4 (by decide)
    have ew : nI cnt * pI S1 901 (A t) + nI cc = nI (w * cnt + cc) := by rw [y3.2 _ _ (by decide), hw, nI_mulp, nI_add, Nat.mul_comm]
    have sp : m_X9_put n (A t) (nI cnt) (nI cc) v S1 = some (sA S1 (A c) (w * cnt + cc) v) := by
      have h0' : pR S1 900 (A t) = some (A c) := by rw [y3.1.2.2.1]; exact h0
      have hN' : pN S1 (A c) = N := by rw [y3.1.2.2.2.1]; exact hN
      have := sp_put (n := n) (r := nI cnt) (k := nI cc) (v := v) h0' (by omega) (by rw [ew]; exact nI_pos' (by omega)) (by rw [ew, nI_clamp (by omega)]; omega)
      rw [ew, nI_clamp (by omega)] at this
      exact this
    have k1 : FX [] [] [c] A S1 (sA S1 (A c) (w * cnt + cc) v) := (FX.rf _ _ _ _ _).wA (by simp)
    have k2 : FX [] [] [a] A T1 (sA T1 (A a) (w * cnt + cc) u) := (FX.rf _ _ _ _ _).wA (by simp)
    have o1 : FX [1003, 1004, 1005, 1006] [] [c] A S (sA S1 (A c) (w * cnt + cc) v) := (tx y3).tr (k1.mono (by simp) (by simp) (by simp))
    have o2 : FX [1204, 1205, 1206] [] [a] A T (sA T1 (A a) (w * cnt + cc) u) := (tm y4).tr (k2.mono (by simp) (by simp) (by simp))
    have l2 := k1.lay l1 (by decide) (by decide)
    have m2 := k2.lay m1 (by decide) (by decide)
    have pp : ∀ p', XF A b z (sA S1 (A c) (w * cnt + cc) v) p' → p0 ≤ p' ∨ True := fun _ _ => Or.inr trivial
    rcases y5 with ⟨k, e, rfl, rfl, i1, i2, i3, i4, x1, m1'⟩ | ⟨kk, qq, x1, m1'⟩
    · have xf : XF A b z (sA S1 (A c) (w * cnt + cc) (nI k)) e := x1.fx k1 l1 (by decide) (by decide) c1
      refine ⟨_, _, S1, _, T1, y1, sp, y2, ⟨y3.1.2.2.1, l2, m1, m2⟩, o1, o2, fun p' hp' => ?_, Or.inl ⟨e, xf, m1'.fx k2 m1 (by decide) (by decide) a1, d, by omega, k, rfl, rfl, i2, i3, i1, fun i => ?_, fun i => ?_⟩⟩
      · have := (nI_eq (by have := xf.1.2.2.2.1; have := xf.2.1; omega) (by have := hp'.1.2.2.2.1; have := hp'.2.1; omega)).mp (xf.2.2.1.symm.trans hp'.2.2.1)
        omega
      · rw [pA_sA, y3.1.2.2.2.2.2]
        by_cases q : i = w * cnt + cc
        · rw [if_pos ⟨rfl, q⟩, if_pos q]
        · rw [if_neg (fun z => q z.2), if_neg q]
      · rw [pA_sA, y4.1.2.2.2.2.2]
        by_cases q : i = w * cnt + cc
        · rw [if_pos ⟨rfl, q⟩, if_pos q]
        · rw [if_neg (fun z => q z.2), if_neg q]
    · have xe : XE A b z (sA S1 (A c) (w * cnt + cc) v) kk qq := x1.fx k1 l1 (by decide) (by decide) c1
      exact ⟨_, _, S1, _, T1, y1, sp, y2, ⟨y3.1.2.2.1, l2, m1, m2⟩, o1, o2, fun p' hp' => (hp'.ne xe).elim, Or.inr ⟨kk, qq, xe, m1'.fx k2 m1 (by decide) (by decide) a1⟩⟩
  · obtain ⟨S1, y1, y2, y3⟩ := x_numE (n := n) hx lo hi hn
    have l1 := lS.tt y2 (by decide)
    obtain ⟨S2, z1, z2⟩ := x_puta (n := n) (A := A) (S := S1) (t := A t) (c := c) (r := r) (k := nI cc) (v := 0) (by rw [y2.1.2.2.1]; exact h0) (by rw [y2.1.2.2.2.1, hN]; omega)
    have k2 : FX [] [] [a] A T (sA T (A a) (w * cnt + cc) 0) := (FX.rf _ _ _ _ _).wA (by simp)
    have xe : XE A b z S2 kk qq := y3.fx z2 l1 (by decide) (by decide) c1
    exact ⟨0, 0, S1, S2, T, y1, z1, r_numE hm lo' hi', ⟨y2.1.2.2.1, z2.lay l1 (by decide) (by decide), lT, k2.lay lT (by decide) (by decide)⟩, (tx y2).tr (z2.mono (by simp) (by simp) (by simp)), k2.mono (by simp) (by simp) (by simp), fun p' hp' => (hp'.ne xe).elim, Or.inr ⟨kk, qq, xe, hm.fx k2 lT (by decide) (by decide) a1⟩⟩
theorem xe_col {t c : Nat} {lo hi r cc : Int32} {k q : Nat} (hn : 20000 ≤ n) (hc : c < 92 ∧ 2 ≠ c) (hcA : c ∈ fxA) (lS : LAY A S) (h0 : pR S 900 (A t) = some (A c)) (hN : pN S (A c) < 1000) (hx : XE A b z S k q) : ∃ v S1 S2, m_X10_takeNumber n (A 1) lo hi S = some (v, S1) ∧ m_X9_put n (A t) r cc v S1 = some S2 ∧ pR S1 = pR S ∧ FXx A S S2 ∧ LAY A S2 ∧ XE A b z S2 k q := by
  have c1 : ∀ j ∈ [c], j < 92 ∧ 2 ≠ j := by intro j hj; rw [List.mem_singleton.mp hj]; exact hc
  obtain ⟨S1, y1, y2, y3⟩ := x_numE (n := n) hx lo hi hn
  have l1 := lS.tt y2 (by decide)
  obtain ⟨S2, z1, z2⟩ := x_puta (n := n) (A := A) (S := S1) (t := A t) (c := c) (r := r) (k := cc) (v := 0) (by rw [y2.1.2.2.1]; exact h0) (by rw [y2.1.2.2.2.1]; omega)
  exact ⟨0, S1, S2, y1, z1, y2.1.2.2.1, y2.x.tr (z2.mono (by simp) (by simp) (fun e he => by rw [List.mem_singleton.mp he]; exact hcA)), z2.lay l1 (by decide) (by decide), y3.fx z2 l1 (by decide) (by decide) c1⟩
/-- a new row begins -/
theorem x_brow {t c w cnt N : Nat} (h0 : pR S 900 (A t) = some (A c)) (hN : pN S (A c) = N) (hw : pI S 901 (A t) = nI w) (hc : pI S 902 (A t) = nI cnt) (h : (cnt + 1) * w ≤ N) (hb : N < 1000) (hcb : cnt < 1000) : m_X1_beginRow n (A 1) (A t) 0 S = some (nI cnt, sI S 902 (A t) (nI (cnt + 1))) := by
  have e : m_X9_isFull n (A t) S = some (0, S) := by
    unfold m_X9_isFull
    rw [h0, ob_mk, hN, hw, hc, nI_1, nI_mulp, ofN, if_pos (nI_le (by omega) (by omega))]
  unfold m_X1_beginRow b_X1_beginRow_20 m_X9_newRow
  rw [if00, e, cb_mk, if00, e, cb_mk, if00, hc, nI_1, pI_e, nI_pred, cb_mk]
theorem x_nrow {t c : Nat} (h0 : pR S 900 (A t) = some (A c)) : ∃ r S', m_X9_newRow n (A t) S = some (r, S') ∧ FX [] [(902, t)] [] A S S' := by
  unfold m_X9_newRow m_X9_isFull
  rw [h0, ob_mk]
  by_cases q : (pI S 902 (A t) + 1) * pI S 901 (A t) ≤ Int32.ofNat (pN S (A c))
  · rw [if_pos q, cb_mk, if00]
    exact ⟨_, _, rfl, (FX.rf _ _ _ _ _).wP (by simp)⟩
  · rw [if_neg q, cb_mk, if10]
    exact ⟨_, _, rfl, FX.rf _ _ _ _ _⟩
theorem x_browT {t c w cnt N e q : Nat} {x2 : Int32} (hn : 20000 ≤ n) (lS : LAY A S) (ht : (902, t) ∈ fxP) (h0 : pR S 900 (A t) = some (A c)) (hN : pN S (A c) = N) (hw : pI S 901 (A t) = nI w) (hc : pI S 902 (A t) = nI cnt) (hb : N < 1000) (hb2 : (cnt + 1) * w < 1000) (hx : XF A b z S e) (h4 : pI S 1004 (A 1) = nI q) (hq : q ≤ 600) (hf : x2 ≠ 0 ∨ N < (cnt + 1) * w) : ∃ r S', m_X1_beginRow n (A 1) (A t) x2 S = some (r, S') ∧ FXx A S S' ∧ LAY A S' ∧ XE A b z S' 3 q := by
  obtain ⟨S1, a1, a2, a3⟩ := x_ref (n := n) (k := 3) (q := q) hx (by decide) hq
  have l1 := lS.tt a2 (by decide)
  obtain ⟨r, S2, c1, c2⟩ := x_nrow (n := n) (A := A) (S := S1) (t := t) (c := c) (by rw [a2.1.2.2.1]; exact h0)
  have fin : b_X1_beginRow_11 n (A 1) (A t) S = some (r, S2) := by
    unfold b_X1_beginRow_11 b_X1_beginRow_20
    rw [h4, show m_X10_refuse n (A 1) 3 (nI q) S = some S1 from a1, ob_mk, c1, cb_mk]
  refine ⟨r, S2, ?_, a2.x.tr (c2.mono (by simp) (fun e he => by rw [List.mem_singleton.mp he]; exact ht) (by simp)), c2.lay l1 (by decide) (by simp), a3.fx c2 l1 (by decide) (by simp) (by simp)⟩
  unfold m_X1_beginRow
  by_cases q0 : x2 = 0
  · rw [if_pos q0, m_X9_isFull, h0, ob_mk, hN, hw, hc, nI_1, nI_mulp, ofN, if_neg (nI_ge (by rcases hf with q | q; exact absurd q0 q; exact q) (by omega)), cb_mk, if10, fin]
  · rw [if_neg q0, fin]
/-- what of a coast is read so far -/
def CI (A : Nat → Nat) (g : GH) (S T : pq_S) : Prop := GB g ∧ (pI S 902 (A 40) = nI (gP g) ∧ pI S 902 (A 42) = nI (gW g) ∧ pI S 902 (A 44) = nI (gM g) ∧ pI S 902 (A 46) = nI (gK g) ∧ pI S 104 (A 39) = nI (gLk g) ∧ pI S 105 (A 39) = nI (gSh g)) ∧ (pI T 1218 (A 60) = nI (gP g) ∧ pI T 1219 (A 60) = nI (gW g) ∧ pI T 1220 (A 60) = nI (gM g) ∧ pI T 1221 (A 60) = nI (gK g) ∧ pI T 1222 (A 60) = nI (gLk g) ∧ pI T 1223 (A 60) = nI (gSh g)) ∧ ((∀ i, i < 4 * gP g → pA S (A 41) i = nI (gpl g i)) ∧ (∀ i, i < 4 * gW g → pA S (A 43) i = nI (gwa g i)) ∧ (∀ i, i < 3 * gM g → pA S (A 45) i = nI (gmi g i)) ∧ (∀ i, i < 2 * gK g → pA S (A 47) i = nI (gmo g i))) ∧ (∀ i, i < 4 * gP g → pA T (A 63) i = nI (gpl g i)) ∧ (∀ i, i < 4 * gW g → pA T (A 64) i = nI (gwa g i)) ∧ (∀ i, i < 3 * gM g → pA T (A 65) i = nI (gmi g i)) ∧ (∀ i, i < 2 * gK g → pA T (A 66) i = nI (gmo g i))
def appn (f : Nat → Nat) (m : Nat) (v : Nat → Nat) : Nat → Nat := fun i => if i < m then f i else v (i - m)
theorem appn_l {f v : Nat → Nat} {m i : Nat} (h : i < m) : appn f m v i = f i := if_pos h
theorem appn_r {f v : Nat → Nat} {m j : Nat} : appn f m v (m + j) = v j := by unfold appn; rw [if_neg (by omega), show m + j - m = j by omega]
theorem r_dv : ∀ i, i < 6 → ∀ j, j < 6 → i ≠ j → ¬ nI (ofV i) = nI (ofV j) := by decide +kernel

def gR0 (g : GH) (v : Nat → Nat) : GH := (updN g.1 0 (g.1 0 + 1), (fun r => if r = 0 then appn (g.2.1 0) (4 * g.1 0) v else g.2.1 r), g.2.2)
theorem xT_row0 {e q : Nat} {x2 : Int32} {g : GH} (hn : 20000 ≤ n) (lS : LAY A S) (hc : pI S 902 (A 40) = nI (gP g)) (hcap : gP g ≤ 6) (hx : XF A b z S e) (h4 : pI S 1004 (A 1) = nI q) (hq : q ≤ 600) (hf : x2 ≠ 0 ∨ gP g = 6) : ∃ S', m_X1_readPlace n (A 39) (A 1) x2 S = some S' ∧ FXx A S S' ∧ LAY A S' ∧ XE A b z S' 3 q := by
  obtain ⟨r, S0, a1, a2, l0, x0⟩ := x_browT (n := n) (t := 40) (c := 41) (w := 4) (N := 24) (x2 := x2) hn lS (by decide) lS.r40_900 lS.n41 lS.w40 hc (by decide) (by omega) hx h4 hq (by rcases hf with q | q; exact Or.inl q; exact Or.inr (by omega))
  unfold m_X1_readPlace
  rw [lS.r39_100, ob_mk, a1, cb_mk]
  obtain ⟨v0, Sa0, S1, b0, c0, d0, e0, l1, x1⟩ := xe_col (n := n) (t := 40) (c := 41) (lo := 0) (hi := 40) (r := r) (cc := 0) hn (by decide) (by decide) l0 l0.r40_900 (by rw [l0.n41]; decide) x0
  rw [l0.r39_100, ob_mk, b0, cb_mk, c0, ob_mk]
  obtain ⟨v1, Sa1, S2, b1, c1, d1, e1, l2, x2⟩ := xe_col (n := n) (t := 40) (c := 41) (lo := 0) (hi := 99) (r := r) (cc := 1) hn (by decide) (by decide) l1 l1.r40_900 (by rw [l1.n41]; decide) x1
  rw [l1.r39_100, ob_mk, b1, cb_mk, c1, ob_mk]
  obtain ⟨v2, Sa2, S3, b2, c2, d2, e2, l3, x3⟩ := xe_col (n := n) (t := 40) (c := 41) (lo := 0) (hi := 99) (r := r) (cc := 2) hn (by decide) (by decide) l2 l2.r40_900 (by rw [l2.n41]; decide) x2
  rw [l2.r39_100, ob_mk, b2, cb_mk, c2, ob_mk]
  obtain ⟨v3, Sa3, S4, b3, c3, d3, e3, l4, x4⟩ := xe_col (n := n) (t := 40) (c := 41) (lo := 0) (hi := 99) (r := r) (cc := 3) hn (by decide) (by decide) l3 l3.r40_900 (by rw [l3.n41]; decide) x3
  rw [l3.r39_100, ob_mk, b3, cb_mk, c3, ob_mk]
  exact ⟨S4, rfl, ((((a2.tr e0).tr e1).tr e2).tr e3), l4, x4⟩
def gR1 (g : GH) (v : Nat → Nat) : GH := (updN g.1 1 (g.1 1 + 1), (fun r => if r = 1 then appn (g.2.1 1) (4 * g.1 1) v else g.2.1 r), g.2.2)
theorem xT_row1 {e q : Nat} {x2 : Int32} {g : GH} (hn : 20000 ≤ n) (lS : LAY A S) (hc : pI S 902 (A 42) = nI (gW g)) (hcap : gW g ≤ 12) (hx : XF A b z S e) (h4 : pI S 1004 (A 1) = nI q) (hq : q ≤ 600) (hf : x2 ≠ 0 ∨ gW g = 12) : ∃ S', m_X1_readWant n (A 39) (A 1) x2 S = some S' ∧ FXx A S S' ∧ LAY A S' ∧ XE A b z S' 3 q := by
  obtain ⟨r, S0, a1, a2, l0, x0⟩ := x_browT (n := n) (t := 42) (c := 43) (w := 4) (N := 48) (x2 := x2) hn lS (by decide) lS.r42_900 lS.n43 lS.w42 hc (by decide) (by omega) hx h4 hq (by rcases hf with q | q; exact Or.inl q; exact Or.inr (by omega))
  unfold m_X1_readWant
  rw [lS.r39_101, ob_mk, a1, cb_mk]
  obtain ⟨v0, Sa0, S1, b0, c0, d0, e0, l1, x1⟩ := xe_col (n := n) (t := 42) (c := 43) (lo := 0) (hi := pI S0 902 (A 40) - 1) (r := r) (cc := 0) hn (by decide) (by decide) l0 l0.r42_900 (by rw [l0.n43]; decide) x0
  rw [l0.r39_101, ob_mk, l0.r39_100, ob_mk, b0, cb_mk, c0, ob_mk]
  obtain ⟨v1, Sa1, S2, b1, c1, d1, e1, l2, x2⟩ := xe_col (n := n) (t := 42) (c := 43) (lo := 1) (hi := 12) (r := r) (cc := 1) hn (by decide) (by decide) l1 l1.r42_900 (by rw [l1.n43]; decide) x1
  rw [l1.r39_101, ob_mk, b1, cb_mk, c1, ob_mk]
  obtain ⟨v2, Sa2, S3, b2, c2, d2, e2, l3, x3⟩ := xe_col (n := n) (t := 42) (c := 43) (lo := 0) (hi := 1) (r := r) (cc := 2) hn (by decide) (by decide) l2 l2.r42_900 (by rw [l2.n43]; decide) x2
  rw [l2.r39_101, ob_mk, b2, cb_mk, c2, ob_mk]
  obtain ⟨v3, Sa3, S4, b3, c3, d3, e3, l4, x4⟩ := xe_col (n := n) (t := 42) (c := 43) (lo := 0) (hi := 99) (r := r) (cc := 3) hn (by decide) (by decide) l3 l3.r42_900 (by rw [l3.n43]; decide) x3
  rw [l3.r39_101, ob_mk, b3, cb_mk, c3, ob_mk]
  exact ⟨S4, rfl, ((((a2.tr e0).tr e1).tr e2).tr e3), l4, x4⟩
def gR2 (g : GH) (v : Nat → Nat) : GH := (updN g.1 2 (g.1 2 + 1), (fun r => if r = 2 then appn (g.2.1 2) (3 * g.1 2) v else g.2.1 r), g.2.2)
theorem xT_row2 {e q : Nat} {x2 : Int32} {g : GH} (hn : 20000 ≤ n) (lS : LAY A S) (hc : pI S 902 (A 44) = nI (gM g)) (hcap : gM g ≤ 3) (hx : XF A b z S e) (h4 : pI S 1004 (A 1) = nI q) (hq : q ≤ 600) (hf : x2 ≠ 0 ∨ gM g = 3) : ∃ S', m_X1_readMine n (A 39) (A 1) x2 S = some S' ∧ FXx A S S' ∧ LAY A S' ∧ XE A b z S' 3 q := by
  obtain ⟨r, S0, a1, a2, l0, x0⟩ := x_browT (n := n) (t := 44) (c := 45) (w := 3) (N := 9) (x2 := x2) hn lS (by decide) lS.r44_900 lS.n45 lS.w44 hc (by decide) (by omega) hx h4 hq (by rcases hf with q | q; exact Or.inl q; exact Or.inr (by omega))
  unfold m_X1_readMine
  rw [lS.r39_102, ob_mk, a1, cb_mk]
  obtain ⟨v0, Sa0, S1, b0, c0, d0, e0, l1, x1⟩ := xe_col (n := n) (t := 44) (c := 45) (lo := 0) (hi := pI S0 902 (A 40) - 1) (r := r) (cc := 0) hn (by decide) (by decide) l0 l0.r44_900 (by rw [l0.n45]; decide) x0
  rw [l0.r39_102, ob_mk, l0.r39_100, ob_mk, b0, cb_mk, c0, ob_mk]
  obtain ⟨v1, Sa1, S2, b1, c1, d1, e1, l2, x2⟩ := xe_col (n := n) (t := 44) (c := 45) (lo := 0) (hi := 400) (r := r) (cc := 1) hn (by decide) (by decide) l1 l1.r44_900 (by rw [l1.n45]; decide) x1
  rw [l1.r39_102, ob_mk, b1, cb_mk, c1, ob_mk]
  obtain ⟨v2, Sa2, S3, b2, c2, d2, e2, l3, x3⟩ := xe_col (n := n) (t := 44) (c := 45) (lo := 0) (hi := 11) (r := r) (cc := 2) hn (by decide) (by decide) l2 l2.r44_900 (by rw [l2.n45]; decide) x2
  rw [l2.r39_102, ob_mk, b2, cb_mk, c2, ob_mk]
  exact ⟨S3, rfl, (((a2.tr e0).tr e1).tr e2), l3, x3⟩
def gR3 (g : GH) (v : Nat → Nat) : GH := (updN g.1 3 (g.1 3 + 1), (fun r => if r = 3 then appn (g.2.1 3) (2 * g.1 3) v else g.2.1 r), g.2.2)
theorem xT_row3 {e q : Nat} {x2 : Int32} {g : GH} (hn : 20000 ≤ n) (lS : LAY A S) (hc : pI S 902 (A 46) = nI (gK g)) (hcap : gK g ≤ 3) (hx : XF A b z S e) (h4 : pI S 1004 (A 1) = nI q) (hq : q ≤ 600) (hf : x2 ≠ 0 ∨ gK g = 3) : ∃ S', m_X1_readMoon n (A 39) (A 1) x2 S = some S' ∧ FXx A S S' ∧ LAY A S' ∧ XE A b z S' 3 q := by
  obtain ⟨r, S0, a1, a2, l0, x0⟩ := x_browT (n := n) (t := 46) (c := 47) (w := 2) (N := 6) (x2 := x2) hn lS (by decide) lS.r46_900 lS.n47 lS.w46 hc (by decide) (by omega) hx h4 hq (by rcases hf with q | q; exact Or.inl q; exact Or.inr (by omega))
  unfold m_X1_readMoon
  rw [lS.r39_103, ob_mk, a1, cb_mk]
  obtain ⟨v0, Sa0, S1, b0, c0, d0, e0, l1, x1⟩ := xe_col (n := n) (t := 46) (c := 47) (lo := 1) (hi := 30) (r := r) (cc := 0) hn (by decide) (by decide) l0 l0.r46_900 (by rw [l0.n47]; decide) x0
  rw [b0, cb_mk, d0, l0.r39_103, ob_mk, c0, ob_mk]
  obtain ⟨v1, Sa1, S2, b1, c1, d1, e1, l2, x2⟩ := xe_col (n := n) (t := 46) (c := 47) (lo := 0) (hi := v0 - 1) (r := r) (cc := 1) hn (by decide) (by decide) l1 l1.r46_900 (by rw [l1.n47]; decide) x1
  rw [l1.r39_103, ob_mk, b1, cb_mk, c1, ob_mk]
  exact ⟨S2, rfl, ((a2.tr e0).tr e1), l2, x2⟩
end
