section
variable {A b : Nat → Nat} {V : Nat → Prop} {g : GH} {n z : Nat} {S T U : pq_S}
theorem x_isText (h : LAY A S) {tp : Nat} (e : pI S 1001 (A 1) = nI tp) (y w : Int32) : m_X11_isText n (A 0) y w S = some (if (0 ≤ y ∧ y ≤ w) ∧ y ≤ nI tp then 1 else 0, S) := by
  unfold m_X11_isText
  rw [sp_isWithin, cb_mk, ifz]
  by_cases h1 : 0 ≤ y ∧ y ≤ w
  · rw [if_pos h1, h.r0_1100, ob_mk, e]
    by_cases h2 : y ≤ nI tp
    · rw [if_neg (Int32.not_lt.mpr h2), if_pos ⟨h1, h2⟩]
    · rw [if_pos (Int32.not_le.mp h2), if_neg (fun q => h2 q.2)]
  · rw [if_neg h1, if_neg (fun q => h1 q.1)]
theorem XF.ne {p k q : Nat} (h : XF A b z S p) (h' : XE A b z S k q) : False := by
  have := h.2.2.2.symm.trans h'.2.2.1
  exact nI_ne0 (by have := h'.2.2.2.2; omega) (by have := h'.2.2.2.2; omega) this.symm
theorem XE.uq {k q k' q' : Nat} (h : XE A b z S k q) (h' : XE A b z S k' q') : k = k' ∧ q = q' := by
  obtain ⟨_, _, a1, a2, a3, a4, a5⟩ := h
  obtain ⟨_, _, c1, c2, c3, c4, c5⟩ := h'
  exact ⟨(nI_eq (by omega) (by omega)).mp (a1.symm.trans c1), (nI_eq (by omega) (by omega)).mp (a2.symm.trans c2)⟩
theorem tape0 (h : TAPE S A) (e1 : pI U 1113 (A 0) = pI U 1208 (A 60)) (e2 : pI U 1115 (A 0) = pI S 1115 (A 0)) (e3 : pI U 1116 (A 0) = pI S 1116 (A 0)) (e4 : ∀ i, pA U (A 61) i = pA S (A 61) i) (e5 : pI U 1114 (A 0) = pI U 1242 (A 60)) (e6 : pI U 1001 (A 1) = 0) (e7 : pI U 1202 (A 60) = 0) : TAPE U A := ⟨e1, by rw [e2, e4, h.2.1], by rw [e3, e4, h.2.2.1], e5, 0, by decide, e6, e7, fun i hi => by omega⟩
/-- the bytes' reader through a frame that leaves it alone -/
theorem XF.fx {F : List Nat} {P : List (Nat × Nat)} {AA : List Nat} {p : Nat} (h : XF A b z S p) (k : FX F P AA A S U) (hl : LAY A S) (h1 : 1002 ∉ F ∧ 1003 ∉ F ∧ 1005 ∉ F) (h2 : ∀ e ∈ P, e.1 ≠ 1002 ∧ e.1 ≠ 1003 ∧ e.1 ≠ 1005) (h3 : ∀ j ∈ AA, j < 92 ∧ 2 ≠ j) : XF A b z U p := ⟨⟨by rw [k.1.2.2.1]; exact h.1.1, by rw [k.1.2.2.2.1]; exact h.1.2.1, by rw [k.2.1 _ _ h1.1 (fun e he q => absurd q.symm (h2 e he).1)]; exact h.1.2.2.1, h.1.2.2.2.1, fun i hi => by rw [k.W hl (by decide) h3]; exact h.1.2.2.2.2 i hi⟩, h.2.1, by rw [k.2.1 _ _ h1.2.1 (fun e he q => absurd q.symm (h2 e he).2.1)]; exact h.2.2.1, by rw [k.2.1 _ _ h1.2.2 (fun e he q => absurd q.symm (h2 e he).2.2)]; exact h.2.2.2⟩
theorem MF.fx {F : List Nat} {P : List (Nat × Nat)} {AA : List Nat} {p : Nat} (h : MF A b z S p) (k : FX F P AA A S U) (hl : LAY A S) (h1 : 1203 ∉ F ∧ 1204 ∉ F ∧ 1205 ∉ F) (h2 : ∀ e ∈ P, e.1 ≠ 1203 ∧ e.1 ≠ 1204 ∧ e.1 ≠ 1205) (h3 : ∀ j ∈ AA, j < 92 ∧ 62 ≠ j) : MF A b z U p := ⟨⟨by rw [k.1.2.2.1]; exact h.1.1, by rw [k.1.2.2.2.1]; exact h.1.2.1, by rw [k.2.1 _ _ h1.1 (fun e he q => absurd q.symm (h2 e he).1)]; exact h.1.2.2.1, h.1.2.2.2.1, fun i hi => by rw [k.W hl (by decide) h3]; exact h.1.2.2.2.2 i hi⟩, h.2.1, by rw [k.2.1 _ _ h1.2.1 (fun e he q => absurd q.symm (h2 e he).2.1)]; exact h.2.2.1, by rw [k.2.1 _ _ h1.2.2 (fun e he q => absurd q.symm (h2 e he).2.2)]; exact h.2.2.2⟩
theorem x_bclr (hl : LAY A S) {c d : Nat} (h0 : pR S 0 (A c) = some (A d)) (hN : pN S (A d) = 6) (hn : 20000 ≤ n) : m_X0_clear n (A c) S = some (sF (sI S 1 (A c) 0) (A d) (mixr 6 (fun _ => -1) (pA S (A d)))) := by
  unfold m_X0_clear
  rw [pR_sI, h0, ob_mk, sp_fill (S := sI S 1 (A c) 0) (N := 6) hN (by decide) (by omega), ob_mk]
  rfl
theorem x_bcp (h0 : pR S 0 (A 52) = some (A 53)) (h1 : pR S 0 (A 54) = some (A 55)) (n0 : pN S (A 53) = 6) (n1 : pN S (A 55) = 6) : m_X0_copyFrom n (A 52) (A 54) S = some (sF (sI S 1 (A 52) (pI S 1 (A 54))) (A 53) (va_cpy (pA S (A 55)) (pA S (A 53)) 0 0 6)) := by
  unfold m_X0_copyFrom
  rw [pR_sI, h1, ob_mk, h0, ob_mk, ob_mk, ob_mk, pN_sI, n0, n1, pA_sI, ite_self, ck_pos (show cpk 0 0 (Int32.ofNat 6) 6 6 by unfold cpk; decide), lt_mk]
  rfl
def gB (g : GH) (m : Nat) (bp bv : Nat → Nat) : GH := (fun k => if k = 8 then m else g.1 k, fun k => if k = 6 then bp else if k = 7 then bv else g.2.1 k, g.2.2)
theorem LW.gB {m : Nat} {bp bv : Nat → Nat} (h : LW g S A) : LW (gB g m bp bv) S A := by
  intro w hw
  have : w = 0 ∨ w = 1 := by omega
  rcases this with rfl | rfl
  · exact h 0 hw
  · exact h 1 hw
def bkF : List Nat := scrF ++ tapF ++ [1251]
def bkP : List (Nat × Nat) := scrP ++ [(1, 52)]
def bkA : List Nat := scrA ++ tapA ++ [53, 84]
theorem JG.bk (h : JG A V g S) (k : KPL bkF bkP bkA A S U) : CORE g U A ∧ LW g U A ∧ HIST g A V U := by
  have hv := h.2.2.2.2.kv (by decide) (by decide) k
  have h3 := h.2.2.2.2.2.2.1
  exact ⟨h.1.cg (h.1.1.kv hv h3 (by decide) (by decide)) (hv.eqF h3 (by decide)) (hv.eqA h3 (by decide)), h.2.1.cg (hv.eqF h3 (by decide)) (hv.eqA h3 (by decide)), h.2.2.2.2.kp (by decide) (by decide) (by decide) (by decide) (by decide) k⟩
/-- the reference's guard of a text -/
theorem r_mayT {y : Int32} : m_X12_may n (A 60) 1 1 1 (sI U 1200 (A 60) 0) = some (1, sI U 1200 (A 60) 0) := sp_mayS1
end
theorem i32_tx (y : Int32) {a tp : Nat} (ha : a < 2 ^ 31) (ht : tp < 2 ^ 31) (h : (0 ≤ y ∧ y ≤ nI a) ∧ y ≤ nI tp) : ∃ z, z ≤ a ∧ z ≤ tp ∧ y = nI z := by
  rcases i32_wi y 0 a ha (by omega) with ⟨k, _, k2, rfl⟩ | q
  · exact ⟨k, k2, (nI_leI (by omega) ht).mp h.2, rfl⟩
  · exact absurd h.1 q
abbrev bF4 : List Nat := fxF2 ++ fmF2 ++ [1251]
abbrev bP4 : List (Nat × Nat) := fxP ++ [(1, 52)]
abbrev bA4 : List Nat := fxA ++ fmA ++ [53, 84]
theorem ob_4 (n xa ma : Nat) (hn : 20000 ≤ n) : OB_4 n xa ma (JJ xa ma) := by
  rintro S f ⟨A, V, g, rfl, rfl, h⟩ y
  have h : JG A V g S := h
  obtain ⟨_, _, _, _, tp, t5, t6, t7, t8⟩ := h.tp
  refine ⟨200, 8000, by decide, by decide, ?_⟩
  unfold wp_X11_book
  refine ⟨_, _, x_isText h.lay t6 y (nI 100), 1, 6, by decide, by decide, wr_need _ (fun hc => ?_) (fun hc => ⟨rfl, ki_bad h (b := 0) (by decide) ?_⟩)⟩
  · obtain ⟨z, hz, hzt, rfl⟩ := i32_tx y (by decide) (by omega) hc
    have hP := h.gb.b.1
    obtain ⟨S13, a1, a2, a3⟩ := x_begin (n := n) h t7 t5 hzt
    have l13 := a2.lay h.lay (by decide) (by decide)
    refine ⟨A 1, h.lay.r0_1100, S13, a1, A 54, l13.r0_1108, A 1, l13.r0_1100, A 3, l13.r0_1101, A 4, l13.r3_700, A 5, l13.r4_100, ?_⟩
    rw [a2.I h.lay (by decide) (by decide) (by decide), h.cx.1.1]
    have cl := x_bclr (n := n) (S := S13) l13 (c := 54) (d := 55) l13.r54_0 l13.n55 hn
    have kc : FXx A S13 (sF (sI S13 1 (A 54) 0) (A 55) (mixr 6 (fun _ => -1) (pA S13 (A 55)))) := ((FX.rf _ _ _ _ _).wP (by decide)).wF (by decide)
    have lc := kc.lay l13 (by decide) (by decide)
    have xc : XF A (bts A S) z (sF (sI S13 1 (A 54) 0) (A 55) (mixr 6 (fun _ => -1) (pA S13 (A 55)))) 0 := a3.fx (F := []) (P := [(1, 54)]) (AA := [55]) (((FX.rf _ _ _ _ _).wP (by decide)).wF (by decide)) l13 (by decide) (by decide) (by decide)
    obtain ⟨T0, b1, b2, b3, _⟩ := r_begin (n := n) (U := S) h t7 t5 hzt h.lay (fun _ => rfl)
    have lT0 := b2.lay h.lay (by decide) (by decide)
    obtain ⟨Sr, e1, hall⟩ := sw_ap (P := fun T => MF A (bts A S) z T 0 ∧ pR T 1249 (A 60) = some (A 83) ∧ pN T (A 83) = 12 ∧ pI T 1224 (A 60) = nI (gP g)) (m := b_X0_read_6 n n (A 54) (A 1) (nI (gP g)) 0 (sF (sI S13 1 (A 54) 0) (A 55) (mixr 6 (fun _ => -1) (pA S13 (A 55))))) (Q := fun S' T => FXx A (sF (sI S13 1 (A 54) 0) (A 55) (mixr 6 (fun _ => -1) (pA S13 (A 55)))) S' ∧ ∃ T' m' bp' bv', b_X12_book_48 n n (A 60) 0 0 T = b_X12_book_185 n (A 60) (nI m') T' ∧ FXm A T T' ∧ ((∃ p', XF A (bts A S) z S' p' ∧ MF A (bts A S) z T' p' ∧ BKI A (gP g) S' T' m' bp' bv') ∨ EE A (bts A S) z S' T')) (fun T hT => bk_loop (n := n) hP hz hn h.lay.2.2.2.2 z 0 n n 0 _ T 0 (fun _ => 0) (fun _ => 0) 0 (by omega) (by omega) (by omega) (Nat.zero_le _) xc hT.1 lc.r54_0 lc.n55 hT.2.1 hT.2.2.1 hT.2.2.2 ⟨by decide, by rw [pI_sF, pI_e]; rfl, fun i hi => by omega, fun i j hi => by omega, fun p hp _ => by rw [pA_sF, if_pos rfl]; unfold mixr; rw [if_pos hp]⟩ ⟨by decide, fun p hp => ⟨fun q => by
        have : ∀ p, p < 6 → ¬ ((nI 0 >>> (nI p &&& (31 : Int32))) &&& (1 : Int32)) = 1 := by decide
        exact absurd q (this p hp), fun ⟨i, hi, _⟩ => by omega⟩⟩) (T0 := T0) ⟨b3, lT0.r60_1249, lT0.n83, by rw [b2.I h.lay (by decide) (by decide) (by decide)]; exact h.cm.1.1⟩
    obtain ⟨kr, T0', m0, bp0, bv0, _, _, hd⟩ := hall T0 ⟨b3, lT0.r60_1249, lT0.n83, by rw [b2.I h.lay (by decide) (by decide) (by decide)]; exact h.cm.1.1⟩
    have kS : FXx A S Sr := (a2.tr kc).tr kr
    have lr := kS.lay h.lay (by decide) (by decide)
    refine ⟨Sr, by unfold m_X0_read; rw [cl, ob_mk]; exact e1, ?_⟩
    -- the reference, from a state that has the old reference's part
    have ref : ∀ U, LAY A U → (∀ i, pA U (A 62) i = pA S (A 62) i) → pI U 1202 (A 60) = nI tp → pI U 1224 (A 60) = nI (gP g) → ∃ T' m' bp' bv', m_X12_book n (A 60) (nI z) U = b_X12_book_185 n (A 60) (nI m') T' ∧ FXn A U T' ∧ pI T' 1202 (A 60) = 0 ∧ pI T' 1200 (A 60) = 0 ∧ ((∃ p', XF A (bts A S) z Sr p' ∧ MF A (bts A S) z T' p' ∧ BKI A (gP g) Sr T' m' bp' bv') ∨ EE A (bts A S) z Sr T') := by
      intro U lU hU1 hU2 hU3
      have k0 : FXn A U (sI U 1200 (A 60) 0) := (FX.rf _ _ _ _ _).wI (by decide)
      obtain ⟨T, d1, d2, d3, d4, _, d6⟩ := r_begin (n := n) (U := sI U 1200 (A 60) 0) h t7 t5 hzt (k0.lay lU (by decide) (by decide)) hU1
      have lT := (k0.tr d2).lay lU (by decide) (by decide)
      obtain ⟨_, T', m', bp', bv', w1, w2, w3⟩ := hall T ⟨d3, lT.r60_1249, lT.n83, by rw [d2.I (k0.lay lU (by decide) (by decide)) (by decide) (by decide) (by decide), pI_n (by decide)]; exact hU3⟩
      refine ⟨T', m', bp', bv', ?_, (k0.tr d2).tr w2.n, by rw [w2.I lT (by decide) (by decide) (by decide)]; exact d4, ?_, w3⟩
      · unfold m_X12_book
        rw [if_neg (nI_pos (by omega)), pI_n (by decide), hU2, if_neg (nI_nlt (by omega) (by omega)), if_neg (show ¬ (100 : Int32) < nI z from nI_nlt (a := 100) (by omega) (by decide)), b_X12_book_29, sp_mayS1, cb_mk, if10, d1, ob_mk]
        exact w1
      · rw [w2.I lT (by decide) (by decide) (by decide), d6, pI_e]
    rcases hd with ⟨p', xr, _, _⟩ | ⟨k, q, xr, _⟩
    · obtain ⟨Se, f1, rfl⟩ := x_end (n := n) xr lr
      refine ⟨_, _, f1, ?_⟩
      rw [if00]
      have ke : FX fxF2 bP4 (fxA ++ [53]) A S (sI (sI Sr 1113 (A 0) (-1)) 1001 (A 1) 0) := ((kS.y.mono (fun _ q => q) (by decide) (by decide)).wI (by decide)).wI (by decide)
      have le := ke.lay h.lay (by decide) (by decide)
      have cp := x_bcp (n := n) (S := sI (sI Sr 1113 (A 0) (-1)) 1001 (A 1) 0) le.r52_0 le.r54_0 le.n53 le.n55
      have k31 := (ke.wP (f := 1) (i := 52) (v := pI (sI (sI Sr 1113 (A 0) (-1)) 1001 (A 1) 0) 1 (A 54)) (by decide)).wF (j := 53) (u := va_cpy (pA (sI (sI Sr 1113 (A 0) (-1)) 1001 (A 1) 0) (A 55)) (pA (sI (sI Sr 1113 (A 0) (-1)) 1001 (A 1) 0) (A 53)) 0 0 6) (by decide)
      have l31 := k31.lay h.lay (by decide) (by decide)
      refine ⟨A 52, le.r0_1107, A 54, le.r0_1108, _, cp, A 52, l31.r0_1107, ?_⟩
      obtain ⟨T', m', bp', bv', w1, w2, w3, w4, w5⟩ := ref _ l31 (fun i => k31.W h.lay (by decide) (by decide) i) (by rw [k31.I h.lay (by decide) (by decide) (by decide)]; exact t7) (by rw [k31.I h.lay (by decide) (by decide) (by decide)]; exact h.cm.1.1)
      rcases w5 with ⟨p2, x2, m2, hB⟩ | ⟨k, q, x2, _⟩
      · obtain ⟨B1, B2, B3, B4, B5⟩ := hB
        have lT := w2.lay l31 (by decide) (by decide)
        have v1 : pI (sF (sI (sI (sI Sr 1113 (A 0) (-1)) 1001 (A 1) 0) 1 (A 52) (pI (sI (sI Sr 1113 (A 0) (-1)) 1001 (A 1) 0) 1 (A 54))) (A 53) (va_cpy (pA (sI (sI Sr 1113 (A 0) (-1)) 1001 (A 1) 0) (A 55)) (pA (sI (sI Sr 1113 (A 0) (-1)) 1001 (A 1) 0) (A 53)) 0 0 6)) 1 (A 52) = nI m' := by
          rw [pI_sF, pI_e, pI_n (by decide), pI_n (by decide)]; exact B2
        have kU : FX (fmF2 ++ [1251]) [] (fmA ++ [84]) A T' (sF (sI (sI T' 1208 (A 60) (-1)) 1251 (A 60) (nI m')) (A 84) (mixr (2 * m') (pA T' (A 83)) (pA T' (A 84)))) := (((FX.rf _ _ _ _ _).wI (by decide)).wI (by decide)).wF (by decide)
        have kV := (w2.mono (F2 := fmF2 ++ [1251]) (P2 := []) (A2 := fmA ++ [84]) (by decide) (by decide) (by decide)).tr kU
        have lU := kV.lay l31 (by decide) (by decide)
        refine ⟨nI m', sF (sI (sI T' 1208 (A 60) (-1)) 1251 (A 60) (nI m')) (A 84) (mixr (2 * m') (pA T' (A 83)) (pA T' (A 84))), ?_, ?_, fun _ => ?_, ?_⟩
        · rw [w1]
          unfold b_X12_book_185
          rw [r_res m2, cb_mk, pI_n (by decide), m2.2.2.2, if_pos rfl, pR_sI, pR_sI, lT.r60_1249, ob_mk, lT.r60_1250, ob_mk, show (2 : Int32) * nI m' = nI (2 * m') from nI_mulp 2 m', sp_copies (S := sI (sI T' 1208 (A 60) (-1)) 1251 (A 60) (nI m')) (lT.ne (by decide) (by decide) (by decide)) (by rw [pN_sI, pN_sI, lT.n83]; omega) (by rw [pN_sI, pN_sI, lT.n84]; omega) (by rw [pN_sI, pN_sI, lT.n83]; decide) (by rw [pN_sI, pN_sI, lT.n84]; decide) (by omega), ob_mk]
          rfl
        · rw [pI_sF, pI_n (by decide), pI_n (by decide)]; exact w4
        · rw [v1]; simp [vp_updL]
        · have kk : KPL bkF bkP bkA A S _ := h.tr (k31.kpl.mono (F2 := bkF) (P2 := bkP) (A2 := bkA) (by decide) (by decide) (by decide)) (kV.kpl.mono (F2 := bkF) (P2 := bkP) (A2 := bkA) (by decide) (by decide) (by decide))
          obtain ⟨c1, c2, c3⟩ := h.bk kk
          have hG : JG A V (gB g m' bp' bv') (sF (sI (sI T' 1208 (A 60) (-1)) 1251 (A 60) (nI m')) (A 84) (mixr (2 * m') (pA T' (A 83)) (pA T' (A 84)))) := by
            refine ⟨c1, c2.gB, ?_, ?_, c3⟩
            · refine ⟨⟨B1, (by rw [kV.W l31 (by decide) (by decide), k31.W h.lay (by decide) (by decide)]; exact h.2.2.1.1.2.1), (by rw [kV.W l31 (by decide) (by decide), k31.W h.lay (by decide) (by decide)]; exact h.2.2.1.1.2.2)⟩, ?_, ?_, fun i hi => ?_, B4, fun p hp hnot => ?_⟩
              · rw [kV.I l31 (by decide) (by decide) (by decide)]; exact v1
              · rw [pI_sF, pI_e]; rfl
              · obtain ⟨z1, z2, z3, z4, z5⟩ := B3 i hi
                have hi' : i < m' := hi
                have hb6 : bp' i < 6 := by omega
                refine ⟨z1, z2, ?_, ?_, ?_⟩
                · rw [pA_sF, if_pos rfl]; unfold mixr; rw [if_pos (by omega)]; exact z3
                · rw [pA_sF, if_pos rfl]; unfold mixr; rw [if_pos (by omega)]; exact z4
                · rw [kV.W l31 (by decide) (by decide), pA_sF, if_pos rfl]
                  show va_cpy (pA (sI (sI Sr 1113 (A 0) (-1)) 1001 (A 1) 0) (A 55)) (pA (sI (sI Sr 1113 (A 0) (-1)) 1001 (A 1) 0) (A 53)) 0 0 6 (bp' i) = _
                  rw [sb_cpy0 hb6]
                  exact z5
              · rw [kV.W l31 (by decide) (by decide), pA_sF, if_pos rfl, sb_cpy0 hp]
                exact B5 p hp hnot
            · refine tape0 h.tp ?_ ?_ ?_ (fun i => ?_) ?_ ?_ ?_
              · rw [kV.I l31 (by decide) (by decide) (by decide), pI_sF, pI_n (by decide), pI_n (by decide), pI_e, pI_sF, pI_n (by decide), pI_e]
              · rw [kV.I l31 (by decide) (by decide) (by decide), k31.I h.lay (by decide) (by decide) (by decide)]
              · rw [kV.I l31 (by decide) (by decide) (by decide), k31.I h.lay (by decide) (by decide) (by decide)]
              · rw [kV.W l31 (by decide) (by decide), k31.W h.lay (by decide) (by decide)]
              · rw [kV.I l31 (by decide) (by decide) (by decide), k31.I h.lay (by decide) (by decide) (by decide), kV.I l31 (by decide) (by decide) (by decide), k31.I h.lay (by decide) (by decide) (by decide)]
                exact h.tp.2.2.2.1
              · rw [kV.I l31 (by decide) (by decide) (by decide), pI_sF, pI_n (by decide), pI_e]
              · rw [pI_sF, pI_n (by decide), pI_n (by decide)]; exact w3
          exact hG.jj
      · exact absurd x2 (fun q => xr.ne q)
    · obtain ⟨Se, f1, rfl⟩ := x_endE (n := n) xr lr
      refine ⟨_, _, f1, ?_⟩
      rw [if_neg (kd_ne xr.2.2.2.2.1 xr.2.2.2.2.2.1)]
      have ke : FXy A S (sI (sI Sr 1113 (A 0) (nI q)) 1001 (A 1) 0) := (kS.y.wI (by decide)).wI (by decide)
      have le := ke.lay h.lay (by decide) (by decide)
      obtain ⟨T', m', bp', bv', w1, w2, w3, w4, w5⟩ := ref _ le (fun i => ke.W h.lay (by decide) (by decide) i) (by rw [ke.I h.lay (by decide) (by decide) (by decide)]; exact t7) (by rw [ke.I h.lay (by decide) (by decide) (by decide)]; exact h.cm.1.1)
      rcases w5 with ⟨p2, x2, _, _⟩ | ⟨k2, q2, x2, m2⟩
      · exact absurd xr (fun q => x2.ne q)
      · obtain ⟨rfl, rfl⟩ := xr.uq x2
        refine ⟨nI k - 10, sI T' 1208 (A 60) (nI q), ?_, ?_, fun _ => by simp [vp_updL], ?_⟩
        · rw [w1]
          unfold b_X12_book_185
          rw [r_resE m2, cb_mk, pI_n (by decide), if_neg (by rw [m2.2.2.2.1]; exact nI_nm1 (by have := m2.2.2.2.2; omega))]
        · rw [pI_n (by decide)]; exact w4
        · exact (h.tx ke (w2.wI (by decide)) (by rw [pI_n (by decide), pI_e, pI_e]) (pI_e ..) (by rw [pI_n (by decide)]; exact w3)).jj
  · unfold m_X12_book
    have e0 : pI (sI (badS A S) 1200 (A 60) 0) 1202 (A 60) = nI tp := by rw [pI_n (by decide), pI_n (by decide)]; exact t7
    rw [e0]
    have fin : b_X12_book_28 n (A 60) y (A 60) (sI (badS A S) 1200 (A 60) 0) = some (0, badM A 1 (st0 (badS A S) (A 60))) := by
      unfold b_X12_book_28 b_X12_book_29
      rw [jg_bad h (by decide), cb_mk, if00]
    by_cases q1 : y < 0
    · rw [if_pos q1, fin]
    · rw [if_neg q1]
      by_cases q2 : nI tp < y
      · rw [if_pos q2, fin]
      · rw [if_neg q2]
        by_cases q3 : (100 : Int32) < y
        · rw [if_pos q3, fin]
        · exact absurd ⟨⟨Int32.not_lt.mp q1, Int32.not_lt.mp q3⟩, Int32.not_lt.mp q2⟩ hc
