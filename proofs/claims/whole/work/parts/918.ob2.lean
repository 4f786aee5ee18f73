section
variable {A b : Nat → Nat} {V : Nat → Prop} {g : GH} {z n : Nat} {S T U : pq_S}
theorem j_law (hz : z ≤ 150) (hn : 20000 ≤ n) (hx : XF A b z S 0) (hm : MF A b z T 0) (lS : LAY A S) (lT : LAY A T) (h7 : pI T 1207 (A 60) = 0) : ∃ S', m_X2_read n (A 48) (A 1) S = some S' ∧ FXx A S S' ∧ ∃ T', (∀ x1, (Option.bind (m_X12_readSum n (A 60) (sI T 1236 (A 60) 0)) fun S_19 => cb (m_X12_fine n (A 60) S_19) fun r24 S_22 => if r24 = 0 then b_X12_law_86 n (A 60) x1 S_22 else cb (m_X12_isMore n (A 60) S_22) fun r30 S_28 => if r30 = 0 then b_X12_law_86 n (A 60) x1 S_28 else Option.bind (m_X12_wrong n (A 60) 1 (pI S_28 1204 (A 60)) S_28) fun S_34 => b_X12_law_86 n (A 60) x1 S_34) = b_X12_law_86 n (A 60) x1 T') ∧ FXm A T T' ∧ ((∃ p' L cd, XF A b z S' p' ∧ MF A b z T' p' ∧ LCI A S' T' L 1 cd ∧ L ≤ 150 ∧ 1 ≤ L) ∨ EE A b z S' T') := by
  have kS : FX [] [(203, 48)] [] A S (sI S 203 (A 48) 0) := (FX.rf _ _ _ _ _).wP (by decide)
  have kT : FX [1236] [] [] A T (sI T 1236 (A 60) 0) := (FX.rf _ _ _ _ _).wI (by decide)
  have pk : PK A b z 0 0 (sI S 203 (A 48) 0) (sI T 1236 (A 60) 0) 0 0 0 (fun _ => 0) := ⟨hx.fx kS lS (by decide) (by decide) (by decide), hm.fx kT lT (by decide) (by decide) (by decide), ⟨pI_e .., pI_e .., fun k hk => by omega, rfl⟩, by omega, by rw [pI_n (by decide)]; exact h7, kS.lay lS (by decide) (by decide), kT.lay lT (by decide) (by decide)⟩
  obtain ⟨S1, T1, a1, a2, a3, a4, a5⟩ := s_all (A := A) (b := b) hz hn 6 0 (by omega) 64 64 (by omega) (by omega) 0 _ _ 0 0 0 _ pk (by omega)
  have kx : FXx A S S1 := (kS.mono (by decide) (by decide) (by decide)).tr a3
  have km : FXm A T T1 := (kT.mono (by decide) (by decide) (by decide)).tr a4
  unfold m_X2_read m_X2_readSum m_X12_readSum
  rw [show (m_lawP_d n 64).1 (A 48) (A 1) 0 (sI S 203 (A 48) 0) = some S1 from a1, ob_mk, show (m_modP_d n 64).1 (A 60) (sI T 1236 (A 60) 0) = some T1 from a2]
  rcases a5 with ⟨p1, L1, cd1, pk1, lt1⟩ | ⟨kk, qq, x1, m1⟩
  · obtain ⟨S2, b1, b2, b3⟩ := x_next (n := n) pk1.1 hn
    obtain ⟨T2, c1, c2, c3⟩ := r_here (n := n) pk1.2.1 hn
    have hqz := sk_le b pk1.1.2.1
    have h600 := pk1.1.1.2.2.2.1
    have hp1 := pk1.1.2.1
    have hL := pk1.2.2.2.1
    have em : ∀ (K : Int32 → pq_S → Option (Int32 × pq_S)), cb (m_X12_isMore n (A 60) T1) K = K (if sk b z p1 < z then 1 else 0) T2 := by
      intro K
      rw [m_X12_isMore, c1, cb_mk, c3.1.2.2.1, c3.2.2.1]
      by_cases hq : sk b z p1 < z
      · rw [if_neg (nI_ge hq (by omega)), cb_mk, if_pos hq]
      · rw [if_pos (nI_le (by omega) (by omega)), cb_mk, if_neg hq]
    rw [b1, cb_mk]
    by_cases hq : sk b z p1 < z
    · obtain ⟨S3, d1, d2, d3⟩ := x_ref (n := n) (k := 1) (q := sk b z p1) b3 (by decide) (by omega)
      obtain ⟨T3, e1, e2, e3⟩ := r_wr (n := n) (k := 1) (q := sk b z p1) c3 (by decide) (by omega)
      rw [show xv8 b z (sk b z p1) = nI (b (sk b z p1)) from if_pos hq, if_neg (nI_nm1 (by have := pk1.1.1.b8 hq; omega)), b3.2.2.1, show m_X10_refuse n (A 1) 1 (nI (sk b z p1)) S2 = some S3 from d1, ob_mk]
      refine ⟨S3, rfl, (kx.tr b2.x).tr d2.x, T3, fun x1 => ?_, (km.tr c2.m).tr e2.m, Or.inr ⟨_, _, d3, e3⟩⟩
      rw [ob_mk, r_fine pk1.2.1, cb_mk, if10, em, if_pos hq, if10, c3.2.2.1, show m_X12_wrong n (A 60) 1 (nI (sk b z p1)) T2 = some T3 from e1, ob_mk]
    · rw [show xv8 b z (sk b z p1) = -1 from if_neg hq, if_pos rfl]
      have hL1 : 1 ≤ L1 := by
        have h4 := pk1.2.2.1.2.2.2
        cases L1 with
        | zero => rw [lwH] at h4; cases h4
        | succ k => omega
      refine ⟨S2, rfl, kx.tr b2.x, T2, fun x1 => ?_, km.tr c2.m, Or.inl ⟨_, L1, cd1, b3, c3, pk1.2.2.1.tt b2 c2, by omega, hL1⟩⟩
      rw [ob_mk, r_fine pk1.2.1, cb_mk, if10, em, if_neg hq, if00]
  · obtain ⟨S2, b1, b2, b3⟩ := x_nextE (n := n) x1.1 hn
    rw [b1, cb_mk, if_pos rfl]
    refine ⟨S2, rfl, kx.tr b2.x, T1, fun x1 => ?_, km, Or.inr ⟨_, _, b3, m1⟩⟩
    rw [ob_mk, r_fineE m1, cb_mk, if00]
theorem lawR (hl : LAY A S) {w : Nat} (hw : w < 2) : pR S 200 (A (20 + 4 * w)) = some (A (21 + 4 * w)) ∧ pN S (A (21 + 4 * w)) = 150 := by
  have : w = 0 ∨ w = 1 := by omega
  rcases this with rfl | rfl
  · exact ⟨hl.r20_200, hl.n21⟩
  · exact ⟨hl.r24_200, hl.n25⟩
theorem x_lcp {c : Nat} (h0 : pR S 200 (A c) = some (A (c + 1))) (h1 : pR S 200 (A 48) = some (A 49)) (n0 : pN S (A (c + 1)) = 150) (n1 : pN S (A 49) = 150) : m_X2_copyFrom n (A c) (A 48) S = some (sF (sI S 203 (A c) (pI S 203 (A 48))) (A (c + 1)) (va_cpy (pA S (A 49)) (pA S (A (c + 1))) 0 0 150)) := by
  unfold m_X2_copyFrom
  rw [pR_sI, h1, ob_mk, h0, ob_mk, ob_mk, ob_mk, pN_sI, n0, n1, pA_sI, ite_self, ck_pos (show cpk 0 0 (Int32.ofNat 150) 150 150 by unfold cpk; decide), lt_mk]
  rfl
theorem r_lcp {w L : Nat} {x3 : Int32} (hw : w < 2) (hL : L ≤ 150) : ∀ (m k f : Nat) (T : pq_S), k + m = L → m < f → LAY A T → pI T 1236 (A 60) = nI L → ∃ T', b_X12_law_115 n f (A 60) (nI w) x3 (nI k) T = some (x3, T') ∧ FX [] [] [73, 74] A T T' ∧ (∀ j, k ≤ j → j < L → pA T' (A 73) (150 * w + j) = pA T (A 71) j ∧ pA T' (A 74) (150 * w + j) = pA T (A 72) j) ∧ (∀ i, (i < 150 * w + k ∨ 150 * w + L ≤ i) → pA T' (A 73) i = pA T (A 73) i ∧ pA T' (A 74) i = pA T (A 74) i) := by
  intro m
  induction m with
  | zero =>
    intro k f T h1 h2 lT h3
    obtain ⟨f, rfl⟩ : ∃ g, f = g + 1 := ⟨f - 1, by omega⟩
    rw [b_X12_law_115, h3, if_pos (nI_le (by omega) (by omega))]
    exact ⟨T, rfl, FX.rf _ _ _ _ _, fun j q1 q2 => by omega, fun i _ => ⟨rfl, rfl⟩⟩
  | succ m ih =>
    intro k f T h1 h2 lT h3
    obtain ⟨f, rfl⟩ : ∃ g, f = g + 1 := ⟨f - 1, by omega⟩
    have kk : FX [] [] [73, 74] A T (sA (sA T (A 73) (150 * w + k) (pA T (A 71) k)) (A 74) (150 * w + k) (pA T (A 72) k)) := ((FX.rf _ _ _ _ _).wA (by decide)).wA (by decide)
    have n1 : A 72 ≠ A 73 := lT.ne (by decide) (by decide) (by decide)
    have n2 : A 73 ≠ A 74 := lT.ne (by decide) (by decide) (by decide)
    obtain ⟨T', t1, t2, t3, t4⟩ := ih (k + 1) f (sA (sA T (A 73) (150 * w + k) (pA T (A 71) k)) (A 74) (150 * w + k) (pA T (A 72) k)) (by omega) (by omega) (kk.lay lT (by decide) (by decide)) h3
    refine ⟨T', ?_, kk.tr t2, fun j q1 q2 => ?_, fun i hi => ?_⟩
    · rw [b_X12_law_115, h3, if_neg (nI_ge (by omega) (by omega)), lT.r60_1232, ob_mk, lT.r60_1230, ob_mk, lT.n71, lT.n73, ck_pos (ix_nI (by omega) (by decide)), show (150 : Int32) * nI w = nI (150 * w) from nI_mulp 150 w, nI_add, ck_pos (ix_nI (by omega) (by decide)), lt_mk, nI_clamp (by omega), nI_clamp (by omega), pR_sA, lT.r60_1233, ob_mk, lT.r60_1231, ob_mk, pN_sA, lT.n72, lT.n74, ck_pos (ix_nI (by omega) (by decide)), ck_pos (ix_nI (by omega) (by decide)), lt_mk, pA_sA, if_neg (fun q => n1 q.1), nI_1]
      exact t1
    · by_cases e : j = k
      · subst e
        obtain ⟨y1, y2⟩ := t4 (150 * w + j) (Or.inl (by omega))
        rw [y1, y2]
        exact ⟨by rw [pA_sA, if_neg (fun q => n2 q.1), pA_sA, if_pos ⟨rfl, rfl⟩], by rw [pA_sA, if_pos ⟨rfl, rfl⟩]⟩
      · obtain ⟨y1, y2⟩ := t3 j (by omega) q2
        rw [y1, y2]
        exact ⟨kk.W lT (by decide) (by decide) j, kk.W lT (by decide) (by decide) j⟩
    · obtain ⟨y1, y2⟩ := t4 i (by omega)
      rw [y1, y2]
      exact ⟨by rw [pA_sA, if_neg (fun q => n2 q.1), pA_sA, if_neg (fun q => by omega)], by rw [pA_sA, if_neg (fun q => by omega), pA_sA, if_neg (fun q => n2 q.1.symm)]⟩
def gL (g : GH) (w L : Nat) (cd : Nat → Nat) : GH := (fun k => if k = 6 + w then L else g.1 k, fun k => if k = 4 + w then cd else g.2.1 k, g.2.2)
def lwF2 : List Nat := scrF ++ tapF
def lwP2 : List (Nat × Nat) := scrP ++ [(203, 20), (203, 24)]
def lwA2 : List Nat := scrA ++ tapA ++ [21, 25, 73, 74, 75]
theorem JG.lw2 (h : JG A V g S) (k : KPL lwF2 lwP2 lwA2 A S U) {w L : Nat} {cd : Nat → Nat} (hw : w < 2) : CORE (gL g w L cd) U A ∧ BOOK (gL g w L cd) U A ∧ HIST (gL g w L cd) A V U := by
  have hv := h.2.2.2.2.kv (by decide) (by decide) k
  have h3 := h.2.2.2.2.2.2.1
  have c1 : CORE g U A := h.1.cg (h.1.1.kv hv h3 (by decide) (by decide)) (hv.eqF h3 (by decide)) (hv.eqA h3 (by decide))
  have c2 : BOOK g U A := h.2.2.1.cg (hv.eqF h3 (by decide)) (hv.eqA h3 (by decide))
  have c3 : HIST g A V U := h.2.2.2.2.kp (by decide) (by decide) (by decide) (by decide) (by decide) k
  have : w = 0 ∨ w = 1 := by omega
  rcases this with rfl | rfl
  · exact ⟨c1, c2, c3⟩
  · exact ⟨c1, c2, c3⟩
theorem i32_01 (y : Int32) : (∃ w, w < 2 ∧ y = nI w) ∨ ¬ (0 ≤ y ∧ y ≤ 1) := by
  rcases i32_wi y 0 1 (by decide) (by decide) with ⟨k, _, k2, rfl⟩ | q
  · exact Or.inl ⟨k, by omega, rfl⟩
  · exact Or.inr q
end
theorem ob_2 (n xa ma : Nat) (hn : 20000 ≤ n) : OB_2 n xa ma (JJ xa ma) := by
  rintro S f ⟨A, V, g, rfl, rfl, h⟩ y1 y
  have h : JG A V g S := h
  obtain ⟨_, _, _, _, tp, t5, t6, t7, t8⟩ := h.tp
  refine ⟨200, 8000, by decide, by decide, ?_⟩
  have bad : ¬ ((0 ≤ y1 ∧ y1 ≤ 1) ∧ (0 ≤ y ∧ y ≤ nI 150) ∧ y ≤ nI tp) → ∀ (Q : Int32 → pq_S → Prop), pb_X11_law_25 n (A 0) y1 y (A 0) S 200 8000 (fun (k : Nat) (S1 : pq_S) => (k = 1 ∧ (KI (JJ (A 0) (A 60)) (A 60) (m_X12_law n (A 60) y1 y)) 1 f S1)) Q := by
    intro hc Q
    unfold pb_X11_law_25 pb_X11_law_26
    refine ⟨1, 6, by decide, by decide, wr_need0 (by decide) (by decide) ⟨rfl, ki_bad h (b := 0) (by decide) ?_⟩⟩
    unfold m_X12_law
    have e0 : pI (sI (badS A S) 1200 (A 60) 0) 1202 (A 60) = nI tp := by rw [pI_n (by decide), pI_n (by decide)]; exact t7
    have fin : b_X12_law_38 n (A 60) y1 y (A 60) (sI (badS A S) 1200 (A 60) 0) = some (0, badM A 1 (st0 (badS A S) (A 60))) := by
      unfold b_X12_law_38 b_X12_law_39
      rw [jg_bad h (by decide), cb_mk, if00]
    rw [sp_within, cb_mk, ifz, e0]
    by_cases q0 : 0 ≤ y1 ∧ y1 ≤ 1
    · rw [if_pos q0]
      by_cases q1 : y < 0
      · rw [if_pos q1, fin]
      · rw [if_neg q1]
        by_cases q2 : nI tp < y
        · rw [if_pos q2, fin]
        · rw [if_neg q2]
          by_cases q3 : (150 : Int32) < y
          · rw [if_pos q3, fin]
          · exact absurd ⟨q0, ⟨Int32.not_lt.mp q1, Int32.not_lt.mp q3⟩, Int32.not_lt.mp q2⟩ hc
    · rw [if_neg q0, fin]
  unfold wp_X11_law
  refine ⟨_, _, sp_isWithin .., ?_⟩
  rw [ifz]
  by_cases q0 : 0 ≤ y1 ∧ y1 ≤ 1
  · rw [if_pos q0]
    refine ⟨_, _, x_isText h.lay t6 y (nI 150), ?_⟩
    rw [ifz]
    by_cases hc : (0 ≤ y ∧ y ≤ nI 150) ∧ y ≤ nI tp
    · rw [if_pos hc]
      obtain ⟨z, hz, hzt, rfl⟩ := i32_tx y (by decide) (by omega) hc
      obtain ⟨w, hw, rfl⟩ : ∃ w, w < 2 ∧ y1 = nI w := by
        rcases i32_01 y1 with q | q
        · exact q
        · exact absurd q0 q
      unfold pb_X11_law_26
      refine ⟨1, 6, by decide, by decide, wr_need1 ?_⟩
      obtain ⟨S13, a1, a2, a3⟩ := x_begin (n := n) h t7 t5 hzt
      have l13 := a2.lay h.lay (by decide) (by decide)
      refine ⟨A 1, h.lay.r0_1100, S13, a1, A 48, l13.r0_1106, A 1, l13.r0_1100, ?_⟩
      obtain ⟨T0, b1, b2, b3, _, b5, _⟩ := r_begin (n := n) (U := S) h t7 t5 hzt h.lay (fun _ => rfl)
      have lT0 := b2.lay h.lay (by decide) (by decide)
      obtain ⟨Sr, e1, hall⟩ := sw_ap (P := fun T => MF A (bts A S) z T 0 ∧ LAY A T ∧ pI T 1207 (A 60) = 0) (fun T hT => j_law (n := n) hz hn a3 hT.1 l13 hT.2.1 hT.2.2) (T0 := T0) ⟨b3, lT0, b5⟩
      obtain ⟨kr, T0', _, _, hd⟩ := hall T0 ⟨b3, lT0, b5⟩
      have kS : FXx A S Sr := a2.tr kr
      have lr := kS.lay h.lay (by decide) (by decide)
      refine ⟨Sr, e1, ?_⟩
      have ref : ∀ U, LAY A U → (∀ i, pA U (A 62) i = pA S (A 62) i) → pI U 1202 (A 60) = nI tp → ∃ T', m_X12_law n (A 60) (nI w) (nI z) U = b_X12_law_86 n (A 60) (nI w) T' ∧ FXn A U T' ∧ pI T' 1202 (A 60) = 0 ∧ pI T' 1200 (A 60) = 0 ∧ ((∃ p' L cd, XF A (bts A S) z Sr p' ∧ MF A (bts A S) z T' p' ∧ LCI A Sr T' L 1 cd ∧ L ≤ 150 ∧ 1 ≤ L) ∨ EE A (bts A S) z Sr T') := by
        intro U lU hU1 hU2
        have k0 : FXn A U (sI U 1200 (A 60) 0) := (FX.rf _ _ _ _ _).wI (by decide)
        obtain ⟨T, d1, d2, d3, d4, d5, d6⟩ := r_begin (n := n) (U := sI U 1200 (A 60) 0) h t7 t5 hzt (k0.lay lU (by decide) (by decide)) hU1
        have lT := (k0.tr d2).lay lU (by decide) (by decide)
        obtain ⟨_, T', w1, w2, w3⟩ := hall T ⟨d3, lT, d5⟩
        refine ⟨T', ?_, (k0.tr d2).tr w2.n, by rw [w2.I lT (by decide) (by decide) (by decide)]; exact d4, by rw [w2.I lT (by decide) (by decide) (by decide), d6, pI_e], w3⟩
        unfold m_X12_law
        rw [sp_within, cb_mk, ifz, if_pos q0, if_neg (nI_pos (by omega)), pI_n (by decide), hU2, if_neg (nI_nlt (by omega) (by omega)), if_neg (show ¬ (150 : Int32) < nI z from nI_nlt (a := 150) (by omega) (by decide)), b_X12_law_39, sp_mayS1, cb_mk, if10, d1, ob_mk]
        exact w1 (nI w)
      rcases hd with ⟨p', _, _, xr, _⟩ | ⟨k, q, xr, _⟩
      · obtain ⟨Se, f1, rfl⟩ := x_end (n := n) xr lr
        refine ⟨_, _, f1, ?_⟩
        rw [if00]
        have ke : FX fxF2 (fxP ++ [(203, 20), (203, 24)]) (fxA ++ [21, 25]) A S (sI (sI Sr 1113 (A 0) (-1)) 1001 (A 1) 0) := ((kS.y.mono (fun _ q => q) (by decide) (by decide)).wI (by decide)).wI (by decide)
        have le := ke.lay h.lay (by decide) (by decide)
        obtain ⟨lr1, lr2⟩ := lawR le hw
        have cp := x_lcp (n := n) (S := sI (sI Sr 1113 (A 0) (-1)) 1001 (A 1) 0) (c := 20 + 4 * w) (by rw [show 20 + 4 * w + 1 = 21 + 4 * w by omega]; exact lr1) le.r48_200 (by rw [show 20 + 4 * w + 1 = 21 + 4 * w by omega]; exact lr2) le.n49
        rw [show 20 + 4 * w + 1 = 21 + 4 * w by omega] at cp
        have hP2 : (203, 20 + 4 * w) ∈ fxP ++ [(203, 20), (203, 24)] ∧ 21 + 4 * w ∈ fxA ++ [21, 25] := by
          have : w = 0 ∨ w = 1 := by omega
          rcases this with rfl | rfl <;> decide
        have k31 := (ke.wP (f := 203) (i := 20 + 4 * w) (v := pI (sI (sI Sr 1113 (A 0) (-1)) 1001 (A 1) 0) 203 (A 48)) hP2.1).wF (j := 21 + 4 * w) (u := va_cpy (pA (sI (sI Sr 1113 (A 0) (-1)) 1001 (A 1) 0) (A 49)) (pA (sI (sI Sr 1113 (A 0) (-1)) 1001 (A 1) 0) (A (21 + 4 * w))) 0 0 150) hP2.2
        have l31 := k31.lay h.lay (by decide) (by decide)
        have goal80 : pb_X11_law_80 n (A 0) (A (20 + 4 * w)) (sI (sI Sr 1113 (A 0) (-1)) 1001 (A 1) 0) (200 - 1) (8000 - 6) (fun (k : Nat) (S1 : pq_S) => (k = 1 ∧ (KI (JJ (A 0) (A 60)) (A 60) (m_X12_law n (A 60) (nI w) (nI z))) 1 f S1)) (fun r (S1 : pq_S) => (KI (JJ (A 0) (A 60)) (A 60) (m_X12_law n (A 60) (nI w) (nI z))) 0 (vp_updL f 0 (Int32.toInt64 r)) S1) := by
          unfold pb_X11_law_80
          refine ⟨A 48, le.r0_1106, _, cp, ?_⟩
          obtain ⟨T', w1, w2, w3, w4, w5⟩ := ref _ l31 (fun i => k31.W h.lay (by decide) (by decide) i) (by rw [k31.I h.lay (by decide) (by decide) (by decide)]; exact t7)
          rcases w5 with ⟨p2, L, cd, x2, m2, hC, hL, hL1⟩ | ⟨k, q, x2, _⟩
          · have lT := w2.lay l31 (by decide) (by decide)
            have v1 : pI (sI (sI Sr 1113 (A 0) (-1)) 1001 (A 1) 0) 203 (A 48) = nI L := by rw [pI_n (by decide), pI_n (by decide)]; exact hC.1
            have kq : FX fmF2 [] (fmA ++ [73, 74, 75]) A T' (sA (sI T' 1208 (A 60) (-1)) (A 75) w (nI L)) := ((FX.rf _ _ _ _ _).wI (by decide)).wA (by decide)
            have lq := kq.lay lT (by decide) (by decide)
            obtain ⟨U, u1, u2, u3, u4⟩ := r_lcp (n := n) (A := A) (x3 := 1) hw hL L 0 n (sA (sI T' 1208 (A 60) (-1)) (A 75) w (nI L)) (by omega) (by omega) lq (by rw [pI_sA, pI_n (by decide)]; exact hC.2.1)
            have kU := kq.tr (u2.mono (F2 := fmF2) (P2 := []) (A2 := fmA ++ [73, 74, 75]) (by decide) (by decide) (by decide))
            have kV := (w2.mono (F2 := fmF2) (P2 := []) (A2 := fmA ++ [73, 74, 75]) (fun _ q => q) (by decide) (by decide)).tr kU
            have lU := kV.lay l31 (by decide) (by decide)
            refine ⟨1, U, ?_, ?_, fun _ => by simp [vp_updL], ?_⟩
            · rw [w1]
              unfold b_X12_law_86
              rw [r_res m2, cb_mk, pI_n (by decide), m2.2.2.2, if_pos rfl, pR_sI, lT.r60_1234, ob_mk, pN_sI, lT.n75, ck_pos (ix_nI hw (by decide)), nI_clamp (by omega), pI_n (by decide), hC.2.1]
              exact u1
            · rw [u2.I lq (by decide) (by decide) (by decide), pI_sA, pI_n (by decide)]; exact w4
            · have kk : KPL lwF2 lwP2 lwA2 A S U := h.tr (k31.kpl.mono (F2 := lwF2) (P2 := lwP2) (A2 := lwA2) (by decide) (by decide) (by decide)) (kV.kpl.mono (F2 := lwF2) (P2 := lwP2) (A2 := lwA2) (by decide) (by decide) (by decide))
              obtain ⟨c1, c2, c3⟩ := h.lw2 (L := L) (cd := cd) kk hw
              have hG : JG A V (gL g w L cd) U := by
                refine ⟨c1, ?_, c2, ?_, c3⟩
                · intro w' hw'
                  have n75 : A 75 ≠ A 73 ∧ A 75 ≠ A 74 ∧ A 71 ≠ A 75 ∧ A 72 ≠ A 75 ∧ A 73 ≠ A 75 ∧ A 74 ≠ A 75 := ⟨lT.ne (by decide) (by decide) (by decide), lT.ne (by decide) (by decide) (by decide), lT.ne (by decide) (by decide) (by decide), lT.ne (by decide) (by decide) (by decide), lT.ne (by decide) (by decide) (by decide), lT.ne (by decide) (by decide) (by decide)⟩
                  have d75 : ∀ i, pA U (A 75) i = if i = w then nI L else pA S (A 75) i := by
                    intro i
                    rw [u2.W lq (by decide) (by decide), pA_sA]
                    by_cases e : i = w
                    · rw [if_pos ⟨rfl, e⟩, if_pos e]
                    · rw [if_neg (fun q => e q.2), if_neg e, pA_sI, w2.W l31 (by decide) (by decide), k31.W h.lay (by decide) (by decide)]
                  by_cases e : w' = w
                  · subst e
                    have g1 : gLn (gL g w' L cd) w' = L := if_pos rfl
                    have g2 : gLc (gL g w' L cd) w' = cd := if_pos rfl
                    rw [g1, g2]
                    have f21 : ∀ i, i < 150 → pA U (A (21 + 4 * w')) i = pA Sr (A 49) i := by
                      intro i hi
                      have e21 : pA U (A (21 + 4 * w')) i = va_cpy (pA (sI (sI Sr 1113 (A 0) (-1)) 1001 (A 1) 0) (A 49)) (pA (sI (sI Sr 1113 (A 0) (-1)) 1001 (A 1) 0) (A (21 + 4 * w'))) 0 0 150 i := by
                        have : w' = 0 ∨ w' = 1 := by omega
                        rw [kV.W l31 (c := 21 + 4 * w') (by omega) (by rcases this with rfl | rfl <;> decide), pA_sF, if_pos rfl]
                      rw [e21, sb_cpy0 hi]
                      rfl
                    have f20 : pI U 203 (A (20 + 4 * w')) = nI L := by
                      rw [kV.I l31 (c := 20 + 4 * w') (by decide) (by omega) (fun e he => absurd he (by simp)), pI_sF, pI_e, v1]
                    refine ⟨hL, f20, by rw [d75, if_pos rfl], fun k hk => ?_, fun _ => hC.2.2.2⟩
                    obtain ⟨z1, z2, z3, z4⟩ := hC.2.2.1 k hk
                    obtain ⟨y1, y2⟩ := u3 k (by omega) hk
                    refine ⟨z1, by rw [f21 k (by omega)]; exact z2, ?_, ?_⟩
                    · rw [y1, pA_sA, if_neg (fun q => n75.2.2.1 q.1), pA_sI]; exact z3
                    · rw [y2, pA_sA, if_neg (fun q => n75.2.2.2.1 q.1), pA_sI]; exact z4
                  · have g1 : gLn (gL g w L cd) w' = gLn g w' := if_neg (by omega)
                    have g2 : gLc (gL g w L cd) w' = gLc g w' := if_neg (by omega)
                    rw [g1, g2]
                    obtain ⟨o1, o2, o3, o4, o5⟩ := h.2.1 w' hw'
                    have ww : (w = 0 ∧ w' = 1) ∨ (w = 1 ∧ w' = 0) := by omega
                    refine ⟨o1, ?_, by rw [d75, if_neg e]; exact o3, fun k hk => ?_, o5⟩
                    · rw [kV.I l31 (c := 20 + 4 * w') (by decide) (by omega) (fun e he => absurd he (by simp)), pI_sF, pI_sI, if_neg (fun q => by have := h.lay.2.2.2.2 _ _ (show 20 + 4 * w' < 92 by omega) (show 20 + 4 * w < 92 by omega) q.2; omega), pI_n (by decide), pI_n (by decide), kS.I h.lay (c := 20 + 4 * w') (by decide) (by omega) (by rcases ww with ⟨rfl, rfl⟩ | ⟨rfl, rfl⟩ <;> decide)]
                      exact o2
                    · obtain ⟨z1, z2, z3, z4⟩ := o4 k hk
                      obtain ⟨y1, y2⟩ := u4 (150 * w' + k) (by omega)
                      refine ⟨z1, ?_, ?_, ?_⟩
                      · rw [kV.W l31 (c := 21 + 4 * w') (by omega) (by rcases ww with ⟨rfl, rfl⟩ | ⟨rfl, rfl⟩ <;> decide), pA_sF, if_neg (fun q => by have := h.lay.2.2.2.2 _ _ (show 21 + 4 * w' < 92 by omega) (show 21 + 4 * w < 92 by omega) q; omega), pA_sI, pA_sI, pA_sI, kS.W h.lay (c := 21 + 4 * w') (by omega) (by rcases ww with ⟨rfl, rfl⟩ | ⟨rfl, rfl⟩ <;> decide)]
                        exact z2
                      · rw [y1, pA_sA, if_neg (fun q => n75.2.2.2.2.1 q.1), pA_sI, w2.W l31 (by decide) (by decide), k31.W h.lay (by decide) (by decide)]
                        exact z3
                      · rw [y2, pA_sA, if_neg (fun q => n75.2.2.2.2.2 q.1), pA_sI, w2.W l31 (by decide) (by decide), k31.W h.lay (by decide) (by decide)]
                        exact z4
                · refine tape0 h.tp ?_ ?_ ?_ (fun i => ?_) ?_ ?_ ?_
                  · rw [kV.I l31 (by decide) (by decide) (by decide), pI_sF, pI_n (by decide), pI_n (by decide), pI_e, u2.I lq (by decide) (by decide) (by decide), pI_sA, pI_e]
                  · rw [kV.I l31 (by decide) (by decide) (by decide), k31.I h.lay (by decide) (by decide) (by decide)]
                  · rw [kV.I l31 (by decide) (by decide) (by decide), k31.I h.lay (by decide) (by decide) (by decide)]
                  · rw [kV.W l31 (by decide) (by decide), k31.W h.lay (by decide) (by decide)]
                  · rw [kV.I l31 (by decide) (by decide) (by decide), k31.I h.lay (by decide) (by decide) (by decide), kV.I l31 (by decide) (by decide) (by decide), k31.I h.lay (by decide) (by decide) (by decide)]
                    exact h.tp.2.2.2.1
                  · rw [kV.I l31 (by decide) (by decide) (by decide), pI_sF, pI_n (by decide), pI_e]
                  · rw [u2.I lq (by decide) (by decide) (by decide), pI_sA, pI_n (by decide)]; exact w3
              exact hG.jj
          · exact absurd x2 (fun q => xr.ne q)
        have ww : w = 0 ∨ w = 1 := by omega
        rcases ww with rfl | rfl
        · rw [if_pos (show nI 0 = (0 : Int32) from rfl)]
          exact ⟨A 3, le.r0_1101, A 20, le.r3_702, goal80⟩
        · rw [if_neg (show ¬ nI 1 = (0 : Int32) by decide)]
          exact ⟨A 3, le.r0_1101, A 24, le.r3_703, goal80⟩
      · obtain ⟨Se, f1, rfl⟩ := x_endE (n := n) xr lr
        refine ⟨_, _, f1, ?_⟩
        rw [if_neg (kd_ne xr.2.2.2.2.1 xr.2.2.2.2.2.1)]
        have ke : FXy A S (sI (sI Sr 1113 (A 0) (nI q)) 1001 (A 1) 0) := (kS.y.wI (by decide)).wI (by decide)
        have le := ke.lay h.lay (by decide) (by decide)
        obtain ⟨T', w1, w2, w3, w4, w5⟩ := ref _ le (fun i => ke.W h.lay (by decide) (by decide) i) (by rw [ke.I h.lay (by decide) (by decide) (by decide)]; exact t7)
        rcases w5 with ⟨p2, _, _, x2, _⟩ | ⟨k2, q2, x2, m2⟩
        · exact absurd xr (fun q => x2.ne q)
        · obtain ⟨rfl, rfl⟩ := xr.uq x2
          refine ⟨nI k - 10, sI T' 1208 (A 60) (nI q), ?_, ?_, fun _ => by simp [vp_updL], ?_⟩
          · rw [w1]
            unfold b_X12_law_86
            rw [r_resE m2, cb_mk, pI_n (by decide), if_neg (by rw [m2.2.2.2.1]; exact nI_nm1 (by have := m2.2.2.2.2; omega))]
          · rw [pI_n (by decide)]; exact w4
          · exact (h.tx ke (w2.wI (by decide)) (by rw [pI_n (by decide), pI_e, pI_e]) (pI_e ..) (by rw [pI_n (by decide)]; exact w3)).jj
    · rw [if_neg hc]
      exact bad (fun q => hc q.2) _
  · rw [if_neg q0]
    exact bad (fun q => q0 q.1) _
