def pq_rep : List (String × Nat) := [("WickNights$Coast", 60), ("WickNights$Coast", 69), ("WickNights$Coast", 74), ("WickNights$Coast", 79), ("WickNights$Coast", 84), ("WickNights$Coast", 90), ("WickNights$Law", 72), ("WickNights$Law", 82), ("WickNights$Law", 91), ("WickNights$Law", 93), ("WickNights$Law", 95), ("WickNights$Law", 97), ("WickNights$Law", 99), ("WickNights$Law", 101), ("WickNights$Law", 103), ("WickNights$Program", 67), ("WickNights$Program", 76), ("WickNights$Program", 94), ("WickNights$Program", 99), ("WickNights$Program", 106)]
def pq_tm (i : Nat) : Term := Term.string (pq_rep.getD i ("", 0)).1 (pq_rep.getD i ("", 0)).2
abbrev lw_G : Cond := Jvm.Cond.and given_1 narrow_1
theorem vs_of {args : Array Value} {s : State} {N : Nat} {tm : Nat → Term} {len : List Nat} {byt : List (List Int32)} {A : Nat → Prop} (hN : ∀ i : Nat, i < N → len.getD i 0 < 2 ^ 31) (hex : ∀ i : Nat, i < N → (Cond.exactly (tm i) "java/lang/String").before args s = true) (hco : ∀ i : Nat, i < N → (Cond.eq (.field (tm i) "java/lang/String" "coder" "B") (.int 0)).before args s = true)
    (har : ∀ i : Nat, i < N → (Cond.arrayOf (.field (tm i) "java/lang/String" "value" "[B") .byte).before args s = true) (hle : ∀ i : Nat, i < N → (Cond.eq (.length (.field (tm i) "java/lang/String" "value" "[B")) (.int (Int32.ofNat (len.getD i 0)))).before args s = true)
    (hel : ∀ i : Nat, i < N → ∀ j : Nat, j < len.getD i 0 → (Cond.eq (.elem (.field (tm i) "java/lang/String" "value" "[B") (.int (Int32.ofNat j))) (.int ((byt.getD i []).getD j 0))).before args s = true)
    (hinj : ∀ i : Nat, i < N → ∀ j : Nat, j < N → len.getD i 0 = len.getD j 0 → (∀ q : Nat, q < len.getD i 0 → (byt.getD i []).getD q 0 = (byt.getD j []).getD q 0) → i = j) (hA : ∀ a : Nat, a < s.heap.size → ¬ A a) :
    ∃ adK adV : Nat → Nat, vk_S N len byt adK adV A s s.heap ∧ ∀ i : Nat, i < N → (tm i).eval args s none [] s = some (.ref (adK i)) := by
  have h0 : ∀ i : Nat, ∃ q : Nat × Nat, i < N → (tm i).eval args s none [] s = some (.ref q.1) ∧ va_O "java/lang/String" q.1 A s s.heap ∧ va_OF "java/lang/String" "coder" "B" (.int 0) q.1 A s s.heap ∧ va_OF "java/lang/String" "value" "[B" (.ref q.2) q.1 A s s.heap ∧ va_T .byte q.2 (len.getD i 0) (fun j => .int ((byt.getD i []).getD j 0)) A s s.heap := by
    intro i
    by_cases hi : i < N
    · obtain ⟨a, c, cA, kA, q1, q2, q3, q4, q5, q6, -⟩ := Cond.exactly_spec (args := args) (first := s) (o := none) (s := s) (idx := []) (t := tm i) (cls := "java/lang/String") (hex i hi)
      obtain ⟨t, ht, hT⟩ := va_Tof (f := fun j => .int ((byt.getD i []).getD j 0)) (A := A) (hN i hi) (har i hi) (va_eqt (hle i hi)) (fun j hj => va_eqt (hel i hi j hj)) hA
      exact ⟨(a, t), fun _ => ⟨q1, ⟨cA, q3, q5, by rw [q6]; exact q2, hA a (Array.getElem?_eq_some_iff.mp q3).1⟩, vk_OFof q1 (va_eqt (hco i hi)) hA, vk_OFof q1 ht hA, hT⟩⟩
    · exact ⟨(0, 0), fun h => absurd h hi⟩
  obtain ⟨ad, had⟩ := Classical.axiomOfChoice h0
  refine ⟨fun i => (ad i).1, fun i => (ad i).2, ⟨fun i hi => (had i hi).2, fun i j hi hj e => ?_⟩, fun i hi => (had i hi).1⟩
  obtain ⟨-, -, -, ⟨c1, k1, i1, f1, e1, a1, a2, a3, a4, a5, a6⟩, ⟨d1, b1, b2, b3, b4, b5, b6, b7⟩⟩ := had i hi
  obtain ⟨-, -, -, ⟨c2, k2, i2, f2, e2, x1, x2, x3, x4, x5, x6⟩, ⟨d2, y1, y2, y3, y4, y5, y6, y7⟩⟩ := had j hj
  have e : (ad i).1 = (ad j).1 := e
  cases Option.some.inj (a1.symm.trans x1)
  rw [e] at a3
  cases Option.some.inj (a3.symm.trans x3)
  have e9 : (ad i).2 = (ad j).2 := by
    have := Option.some.inj (a5.symm.trans x5)
    exact Value.ref.inj this
  rw [e9] at b1
  cases Option.some.inj (b1.symm.trans y1)
  have e8 : Int32.ofNat (len.getD i 0) = Int32.ofNat (len.getD j 0) := b5.symm.trans y5
  have e7 : len.getD i 0 = len.getD j 0 := by
    have h1 := nI_clamp (hN i hi)
    have h2 := nI_clamp (hN j hj)
    have h3 : (nI (len.getD i 0)).toNatClampNeg = (nI (len.getD j 0)).toNatClampNeg := congrArg Int32.toNatClampNeg e8
    omega
  refine hinj i hi j hj e7 (fun q hq => ?_)
  have h1 := b6 q hq
  have h2 := y6 q (by omega)
  exact Value.int.inj (Option.some.inj (h1.symm.trans h2))
theorem lw_s1 : ∀ i, i < pq_ns → Cond.exactly (pq_tm i) "java/lang/String" ∈ flatC lw_G := by decide +kernel
theorem lw_s2 : ∀ i, i < pq_ns → Cond.eq (.field (pq_tm i) "java/lang/String" "coder" "B") (.int 0) ∈ flatC lw_G := by decide +kernel
theorem lw_s3 : ∀ i, i < pq_ns → Cond.arrayOf (.field (pq_tm i) "java/lang/String" "value" "[B") .byte ∈ flatC lw_G := by decide +kernel
theorem lw_s4 : ∀ i, i < pq_ns → Cond.eq (.length (.field (pq_tm i) "java/lang/String" "value" "[B")) (.int (Int32.ofNat (pq_len.getD i 0))) ∈ flatC lw_G := by decide +kernel
theorem lw_s5 : ∀ i, i < pq_ns → ∀ j, j < pq_len.getD i 0 → Cond.eq (.elem (.field (pq_tm i) "java/lang/String" "value" "[B") (.int (Int32.ofNat j))) (.int ((pq_byt.getD i []).getD j 0)) ∈ flatC lw_G := by decide +kernel
theorem lw_s6 : ∀ i, i < pq_ns → ∀ j, j < pq_ns → pq_len.getD i 0 = pq_len.getD j 0 → (∀ q, q < pq_len.getD i 0 → (pq_byt.getD i []).getD q 0 = (pq_byt.getD j []).getD q 0) → i = j := by decide +kernel
theorem lw_s7 : ∀ i, i < pq_ns → pq_len.getD i 0 < 2 ^ 31 := by decide +kernel
theorem lw_s8 : ∀ r ∈ pq_sr, r.2.2.2 < pq_ns ∧ Cond.stringRef r.1 r.2.1 r.2.2.1 ∈ tables_1 ∧ (pq_tm r.2.2.2 = Term.string r.1 r.2.1 ∨ Cond.eq (pq_tm r.2.2.2) (.string r.1 r.2.1) ∈ flatC lw_G) := by decide +kernel
theorem lw_s9 : ∀ w ∈ pq_nw, w ∈ tables_1 := by
  intro w hw
  have hp : pq_nw = ([36, 41, 44, 45, 47, 49, 50, 51, 53, 55, 74, 80, 86, 93, 94, 95, 96, 97, 98, 99, 100, 110, 111, 112, 113, 114, 115, 117, 118, 119, 120, 121, 122, 124, 125, 126, 127, 129, 131, 133, 149, 154, 156, 157, 158, 160, 161, 163, 164, 166, 167, 169, 170, 184, 192, 206, 207, 208, 210, 211, 213, 215, 217, 219, 235, 244, 246, 248, 250, 252, 274, 285, 303, 308, 310, 313, 315, 326, 328, 331, 340, 348, 356, 419, 431, 435, 439, 456, 464, 465, 556, 561, 565, 570, 578, 583, 592, 597, 656, 660, 661, 666, 671, 695, 703, 707, 711, 712, 716, 717, 721, 726, 737, 753, 754, 755, 764, 766, 771, 772, 788, 801, 805, 810, 811, 812, 817, 819, 824, 825, 826, 836, 837, 841, 850, 854, 855, 865, 869, 873, 877, 895, 900, 912, 913, 917, 929, 945, 957, 962, 963, 964, 969, 970, 971, 984, 1000, 1023, 1024, 1054, 1062, 1070, 1078, 1086, 1095, 1101, 1109, 1130, 1135, 1143, 1147, 1148, 1156, 1205, 1213, 1251, 1277, 1285, 1307, 1315, 1330, 1357, 1368, 1379, 1408, 1429, 1437, 1441, 496, 1010, 2151, 2152, 2153, 2154, 2155, 2156, 2157, 2158, 2159, 2160, 2161, 2162, 2163, 2164, 2165, 2166, 2167, 497, 498, 499, 500, 501, 502] : List Nat).filterMap (fun i => tables_1[i]?) := by decide +kernel
  rw [hp] at hw
  obtain ⟨i, -, hi⟩ := List.mem_filterMap.mp hw
  exact List.mem_of_getElem? hi
theorem va_eqs {args : Array Value} {s : State} {t1 t2 : Term} {q : Nat} (h : (Cond.eq t1 t2).before args s = true) (h1 : t1.eval args s none [] s = some (.ref q)) : t2.eval args s none [] s = some (.ref q) := by
  cases hv : t2.eval args s none [] s with
  | none => simp [Cond.before, Cond.holds, Cond.value, h1, hv] at h
  | some w =>
    simp only [Cond.before, Cond.holds, Cond.value, h1, hv] at h
    cases w <;> simp_all
def S00 : pq_S := ([], fun _ => 0, fun _ _ => 0, fun _ _ => none, fun _ => 0, fun _ _ => 0, fun _ _ => none)
theorem S00_wf : WF S00 := ⟨fun a k j b h => absurd h.1 List.not_mem_nil, fun a i b h => absurd h.1 List.not_mem_nil, fun a i b h => absurd h.1 List.not_mem_nil⟩
theorem va_P.comm {D : va_G} {cl : List vw_C} {a b : va_W} {H : Heap} (h : va_P D cl (a ++ b) H) : va_P D cl (b ++ a) H := by
  intro k q hq
  have hm := List.mem_of_getElem? hq
  have hm2 : q ∈ a ++ b := by
    rcases List.mem_append.mp hm with h1 | h1
    · exact List.mem_append_right _ h1
    · exact List.mem_append_left _ h1
  obtain ⟨k2, hk2⟩ := List.getElem?_of_mem hm2
  exact h k2 q hk2
theorem va_D.comm {A : Nat → Prop} {a b : va_W} (h : va_D A (a ++ b)) : va_D A (b ++ a) := by
  have key : ∀ (k : Nat) (q : Nat × va_E), (b ++ a)[k]? = some q → (a ++ b)[if k < b.length then a.length + k else k - b.length]? = some q := by
    intro k q hq
    by_cases hk : k < b.length
    · rw [if_pos hk, List.getElem?_append_right (by omega)]
      rw [List.getElem?_append_left hk] at hq
      rw [show a.length + k - a.length = k by omega]
      exact hq
    · rw [if_neg hk]
      rw [List.getElem?_append_right (by omega)] at hq
      have : k - b.length < a.length := (List.getElem?_eq_some_iff.mp hq).1
      rw [List.getElem?_append_left this]
      exact hq
  refine ⟨fun i j p q hp hq e => ?_, fun k q hq => h.2 _ q (key k q hq)⟩
  have h1 := h.1 _ _ p q (key i p hp) (key j q hq) e
  have li : i < (b ++ a).length := (List.getElem?_eq_some_iff.mp hp).1
  have lj : j < (b ++ a).length := (List.getElem?_eq_some_iff.mp hq).1
  rw [List.length_append] at li lj
  by_cases c1 : i < b.length <;> by_cases c2 : j < b.length
  · rw [if_pos c1, if_pos c2] at h1; omega
  · rw [if_pos c1, if_neg c2] at h1; omega
  · rw [if_neg c1, if_pos c2] at h1; omega
  · rw [if_neg c1, if_neg c2] at h1; omega
/-- what is left to be shown without the machine -/
def PURE (n : Nat) (J : Nat → Nat → pq_S → Prop) : Prop := (∀ xa ma, OB n xa ma (J xa ma)) ∧ ∀ xa, wp_X11_init n xa (nO S00 xa 11) 400 10000 (fun S1 => ∀ ma, ma ∉ pL S1 → wp_X12_init n ma (nO S1 ma 12) 400 15000 (fun S2 => J xa ma S2))
set_option maxHeartbeats 4000000 in
set_option maxRecDepth 100000 in
theorem lw_start {s : State} {args : Array Value} (hts : ∀ w ∈ lw_tbl, w.before args s = true) (hgv : lw_G.before args s = true) : ∃ C : pq_C, PW C [] S00 (lw_A s) s.heap [] s := by
  have hA : ∀ a : Nat, a < s.heap.size → ¬ lw_A s a := fun a h => Nat.not_le.mpr h
  have hq := flat_of_before _ hgv
  have ht1 : ∀ w ∈ tables_1, w.before args s = true := fun w h => hts w (List.mem_append_right _ h)
  have hU : ∀ w ∈ pq_U, w.before args s = true := fun w h => hts w (List.mem_filter.mp h).1
  obtain ⟨adK, adV, hvs, hev⟩ := vs_of (tm := pq_tm) (A := lw_A s) lw_s7 (fun i hi => hq _ (lw_s1 i hi)) (fun i hi => hq _ (lw_s2 i hi)) (fun i hi => hq _ (lw_s3 i hi)) (fun i hi => hq _ (lw_s4 i hi)) (fun i hi j hj => hq _ (lw_s5 i hi j hj)) lw_s6 hA
  obtain ⟨c0, i0, hk0⟩ := u_known (C := RX0) (T := TX0) (N := 2) (n := 2) hU iu0 (hU (.instantiable RX0 2) tw330)
  obtain ⟨c1, i1, hk1⟩ := u_known (C := RX1) (T := TX1) (N := 6) (n := 6) hU iu1 (hU (.instantiable RX1 6) tw79)
  obtain ⟨c2, i2, hk2⟩ := u_known (C := RX2) (T := TX2) (N := 5) (n := 5) hU iu2 (hU (.instantiable RX2 5) tw183)
  obtain ⟨c3, i3, hk3⟩ := u_known (C := RX3) (T := TX3) (N := 9) (n := 9) hU iu3 (hU (.instantiable RX3 9) tw234)
  obtain ⟨c4, i4, hk4⟩ := u_known (C := RX4) (T := TX4) (N := 7) (n := 7) hU iu4 (hU (.instantiable RX4 7) tw273)
  obtain ⟨c5, i5, hk5⟩ := u_known (C := RX5) (T := TX5) (N := 2) (n := 2) hU iu5 (hU (.instantiable RX5 2) tw347)
  obtain ⟨c6, i6, hk6⟩ := u_known (C := RX6) (T := TX6) (N := 4) (n := 4) hU iu6 (hU (.instantiable RX6 4) tw302)
  obtain ⟨c7, i7, hk7⟩ := u_known (C := RX7) (T := TX7) (N := 6) (n := 6) hU iu7 (hU (.instantiable RX7 6) tw73)
  obtain ⟨c8, i8, hk8⟩ := u_known (C := RX8) (T := TX8) (N := 5) (n := 5) hU iu8 (hU (.instantiable RX8 5) tw148)
  obtain ⟨c9, i9, hk9⟩ := u_known (C := RX9) (T := TX9) (N := 3) (n := 3) hU iu9 (hU (.instantiable RX9 3) tw85)
  obtain ⟨c10, i10, hk10⟩ := u_known (C := RX10) (T := TX10) (N := 7) (n := 7) hU iu10 (hU (.instantiable RX10 7) tw35)
  obtain ⟨c11, i11, hk11⟩ := u_known (C := RX11) (T := TX11) (N := 17) (n := 17) hU iu11 (hU (.instantiable RX11 17) tw27)
  obtain ⟨c12, i12, hk12⟩ := u_known (C := RX12) (T := TX12) (N := 73) (n := 73) hU iu12 (hU (.instantiable RX12 73) tw1454)
  obtain ⟨cB, kB, pB, b1, b2, b3⟩ := Cond.arrayClass_spec (hU _ tw71)
  obtain ⟨cI, kI, pI9, d1, d2, d3⟩ := Cond.arrayClass_spec (hU _ tw108)
  obtain ⟨cJ, kJ, pJ, e1, e2, e3⟩ := Cond.arrayClass_spec (hU _ tw2149)
  have hoP : va_AO "WickNights$Past" s := va_AO.of (ht1 (.arrayOver (.object "WickNights$Past")) (by decide +kernel))
  have hoS : va_AO "WickNights$State" s := va_AO.of (ht1 (.arrayOver (.object "WickNights$State")) (by decide +kernel))
  obtain ⟨oP1, cP, oP3, f1, f2, f3, f4, f5⟩ := Cond.arrayOver_spec hoP
  obtain ⟨oS1, cS, oS3, g1, g2, g3, g4, g5⟩ := Cond.arrayOver_spec hoS
  refine ⟨((fun k => if k = 0 then c0 else if k = 1 then c1 else if k = 2 then c2 else if k = 3 then c3 else if k = 4 then c4 else if k = 5 then c5 else if k = 6 then c6 else if k = 7 then c7 else if k = 8 then c8 else if k = 9 then c9 else if k = 10 then c10 else if k = 11 then c11 else c12, fun k => if k = 0 then i0 else if k = 1 then i1 else if k = 2 then i2 else if k = 3 then i3 else if k = 4 then i4 else if k = 5 then i5 else if k = 6 then i6 else if k = 7 then i7 else if k = 8 then i8 else if k = 9 then i9 else if k = 10 then i10 else if k = 11 then i11 else i12), cB, cI, cP, cS, cJ, adK, adV), ⟨?_, ?_⟩, ?_, ?_, va_S.rf, fun _ h => h, ⟨⟨?_, ?_, ?_, hoP, hoS⟩, hvs, ?_, ?_, ?_, ?_⟩, S00_wf⟩
  · intro k q hq
    match k, hq with
    | 0, hq => cases hq; exact hk0
    | 1, hq => cases hq; exact hk1
    | 2, hq => cases hq; exact hk2
    | 3, hq => cases hq; exact hk3
    | 4, hq => cases hq; exact hk4
    | 5, hq => cases hq; exact hk5
    | 6, hq => cases hq; exact hk6
    | 7, hq => cases hq; exact hk7
    | 8, hq => cases hq; exact hk8
    | 9, hq => cases hq; exact hk9
    | 10, hq => cases hq; exact hk10
    | 11, hq => cases hq; exact hk11
    | 12, hq => cases hq; exact hk12
    | k + 13, hq => exact absurd hq (by simp [vwCl])
  · intro k q hq
    match k, hq with
    | 0, hq => cases hq; exact ⟨fun n z => ⟨fun k h => (by cases h), kB, b2, pB, b3⟩, b1⟩
    | 1, hq => cases hq; exact ⟨fun n z => ⟨fun k h => (by cases h), kI, d2, pI9, d3⟩, d1⟩
    | 2, hq => cases hq; exact ⟨fun n z => ⟨fun k h => (by cases h), oP3, f3, oP1, f4⟩, oP3, oP1, f3, f4, f1, f5⟩
    | 3, hq => cases hq; exact ⟨fun n z => ⟨fun k h => (by cases h), oS3, g3, oS1, g4⟩, oS3, oS1, g3, g4, g1, g5⟩
    | 4, hq => cases hq; exact ⟨fun n z => ⟨fun k h => (by cases h), kJ, e2, pJ, e3⟩, e1⟩
    | k + 5, hq => exact absurd hq (by simp)
  · intro k q hq; exact absurd hq (by simp [S00, pL, va_pl])
  · exact ⟨fun i j p q h => absurd h (by simp [S00, pL, va_pl]), fun k q h => absurd h (by simp [S00, pL, va_pl])⟩
  · exact fun w hw => va_Nw.of (pq_nwT w hw) (ht1 w (lw_s9 w hw))
  · intro r hr
    obtain ⟨r1, r2, r3⟩ := lw_s8 r hr
    refine vk_R.of (A := args) (ht1 _ r2) ?_
    · have h9 : (Term.string r.1 r.2.1).eval args s none [] s = some (.ref (adK r.2.2.2)) := by
        rcases r3 with r3 | r3
        · rw [← r3]; exact hev _ r1
        · exact (va_eqs (hq _ r3) (hev _ r1))
      exact h9
  · exact va_Nc.of (hq (.not (.castable "java/lang/IllegalArgumentException" "java/util/NoSuchElementException")) (by decide +kernel))
  · exact va_Zof (ht1 (.laysStatic "java/lang/String" "COMPACT_STRINGS" "Z") (by decide +kernel)) (ht1 (.initialized "java/lang/String") (by decide +kernel)) (va_eqt (hq (.eq (.static "java/lang/String" "COMPACT_STRINGS" "Z") (.int 1)) (by decide +kernel))) hA
  · exact vx_Zqof (ht1 (.laysStatic Bundle.tN "UNASSIGNED_STACK" Bundle.steD) (by decide +kernel)) (ht1 (.initialized Bundle.tN) (by decide +kernel)) (hq (.isRef (.static Bundle.tN "UNASSIGNED_STACK" Bundle.steD)) (by decide +kernel)) hA
  · exact vx_Zqof (ht1 (.laysStatic Bundle.tN "SUPPRESSED_SENTINEL" Bundle.listD) (by decide +kernel)) (ht1 (.initialized Bundle.tN) (by decide +kernel)) (hq (.isRef (.static Bundle.tN "SUPPRESSED_SENTINEL" Bundle.listD)) (by decide +kernel)) hA
  · exact va_Zqof (ht1 (.laysStatic "jdk/internal/util/Preconditions" "SIOOBE_FORMATTER" "Ljava/util/function/BiFunction;") (by decide +kernel)) (ht1 (.initialized "jdk/internal/util/Preconditions") (by decide +kernel)) (hq (.isRef (.static "jdk/internal/util/Preconditions" "SIOOBE_FORMATTER" "Ljava/util/function/BiFunction;")) (by decide +kernel)) hA
set_option maxHeartbeats 4000000 in
set_option maxRecDepth 100000 in
/-- the law from its entry, over the pure obligations -/
theorem start_of {p : Program} {e : Env} {s : State} {m : MethodId} {below : List Frame} {meth : Method} {c : Code} (l : Launch) (hst : l.stackTraces = false) {n : Nat} {J : Nat → Nat → pq_S → Prop} (hP : PURE n J) {b L : Nat} {xs : Nat → Int32} (hL : L ≤ 4096) (C0 : lw_At p s m meth c b L xs) : W p l e room_1 s m #[Value.ref b] below meth c s.heap [] 0 0 (lw_Z below #[Value.ref b] s) (entryFrame m ([Value.ref b] : List Value).toArray 8) := by
  obtain ⟨hx, hb, hr, hml, hown, hts, hX, hbl, hlocks, hgv⟩ := id C0
  have hb : c.code = cL_law_ := hb
  have hown : s.vm.findClass RL = some m.cls := hown
  have hU : ∀ w ∈ pq_U, w.before _ s = true := fun w h => hts w (List.mem_filter.mp h).1
  obtain ⟨C, hw⟩ := lw_start hts hgv
  have hl := lv_entry ([.ref b]) (n := 8) (Nat.le_of_ble_eq_true rfl)
  rw [lg_entry_eq]
  generalize (lg_sl ([.ref b]) ++ List.replicate (8 - (lg_sl ([.ref b])).length) Slot.unset).toArray = ls at hl ⊢
  have hl : lv_has ls 8 [(0, .ref b)] := hl
  refine pn_new (k := 11) hx hb hown hU iu11 tyX11_ok (hU _ tw26) (hU _ tw27) (hU _ tw1) hw (by decide) rfl (by decide) (Nat.le_of_ble_eq_true rfl) (Nat.le_of_ble_eq_true rfl) dL_law__0 (fun xa H hf hw => ?_)
  have Tx : TY (nO S00 xa 11) xa 11 := ty_nO _ _ _
  refine lv_dup hx hb dL_law__3 rfl ?_
  refine pw_wv (va_runI (As := []) (rest := [.ref xa]) ⟨hx, hb, hml, hown, hU⟩ (cw_X11_init l C [] n (nO S00 xa 11) hw.wf _ xa Tx 400 10000 _ (hP.2 xa)) (cwI 0 hU (pq_g1 tc_X11_init) rfl rfl rfl (hU _ tw1) (hU _ tw28) (hU _ tw29) rfl cd_X11_init.2 ⟨Nat.le_of_ble_eq_true rfl, Nat.le_of_ble_eq_true rfl⟩) (pw_preS hw) rfl rfl hl.1 rfl (lv_room (Nat.le_of_ble_eq_true rfl)) dL_law__4 ⟨Nat.le_of_ble_eq_true rfl, Nat.le_of_ble_eq_true rfl⟩) hw (fun S1 H locs hm hw hx1 => ?_)
  have Tx : TY S1 xa 11 := ty_ext hx1 Tx
  refine lv_astore_n (lv' := [(1, .ref xa), (0, .ref b)]) hx hb dL_law__7 rfl hl (by decide) rfl (fun ls hl => ?_)
  refine pn_new (k := 12) hx hb hown hU iu12 tyX12_ok (hU _ tw1453) (hU _ tw1454) (hU _ tw14) hw (by decide) rfl (by decide) (Nat.le_of_ble_eq_true rfl) (Nat.le_of_ble_eq_true rfl) dL_law__8 (fun ma H hf2 hw => ?_)
  have Tm : TY (nO S1 ma 12) ma 12 := ty_nO _ _ _
  refine lv_dup hx hb dL_law__11 rfl ?_
  refine pw_wv (va_runI (As := []) (rest := [.ref ma]) ⟨hx, hb, hml, hown, hU⟩ (cw_X12_init l C [] n (nO S1 ma 12) hw.wf _ ma Tm 400 15000 _ (hm ma hf2)) (cwI 0 hU (pq_g1 tc_X12_init) rfl rfl rfl (hU _ tw14) (hU _ tw1455) (hU _ tw1456) rfl cd_X12_init.2 ⟨Nat.le_of_ble_eq_true rfl, Nat.le_of_ble_eq_true rfl⟩) (pw_preS hw) rfl rfl hl.1 rfl (lv_room (Nat.le_of_ble_eq_true rfl)) dL_law__12 ⟨Nat.le_of_ble_eq_true rfl, Nat.le_of_ble_eq_true rfl⟩) hw (fun S2 H locs hm hw hx2 => ?_)
  refine lv_astore_n (lv' := [(2, .ref ma), (1, .ref xa), (0, .ref b)]) hx hb dL_law__15 rfl hl (by decide) rfl (fun ls hl => ?_)
  refine lv_iconst (v := 1) hx hb dL_law__16 (by decide) ?_
  refine va_newa (atype := .long) (ty := .long) (a0 := (1, .inr (.inl (fun _ => 0)))) hx hb (hU _ tw2149) rfl hw.K hw.P hw.D hw.S hw.A (fun _ => rfl) (by decide) (by decide) (by decide) (Nat.le_of_ble_eq_true rfl) (Nat.le_of_ble_eq_true rfl) dL_law__17 (fun ao cA H1 hK1 hP1 hD1 hS1 => ?_)
  have e1 : s.vm.findClass ("[" ++ FieldType.long.toString) = some cA := (hK1.2 5 (cA, .long) rfl).2
  have e2 : s.vm.findClass ("[" ++ FieldType.long.toString) = some C.2.2.2.2.2.1 := (hw.K.2 4 (C.2.2.2.2.2.1, .long) rfl).2
  have e3 : cA = C.2.2.2.2.2.1 := Option.some.inj (e1.symm.trans e2)
  subst e3
  have hw : PW C (XL C ao (fun _ => 0)) S2 (lw_A s) H1 locs s := ⟨hw.K, va_P.comm hP1, va_D.comm hD1, hS1, hw.A, hw.fx, hw.wf⟩
  refine lv_astore_n (lv' := [(3, .ref ao), (2, .ref ma), (1, .ref xa), (0, .ref b)]) hx hb dL_law__19 rfl hl (by decide) rfl (fun ls hl => ?_)
  refine lv_iconst (v := 0) hx hb dL_law__20 (by decide) ?_
  refine lv_istore (lv' := [(4, .int 0), (3, .ref ao), (2, .ref ma), (1, .ref xa), (0, .ref b)]) hx hb dL_law__21 hl (by decide) rfl (fun ls hl => ?_)
  refine W.widen (k := 1000 + 200 * 0) (n := 30000 + 8000 * 0) (Nat.le_of_ble_eq_true rfl) (Nat.le_of_ble_eq_true rfl) ?_
  exact law_loop hL C0 hst C n xa ma ao (J xa ma) (hP.1 xa ma) 514 0 0 S2 _ _ _ ls (by omega) (by omega) (by omega) nI_0.symm hm hw (lv_sub hl [4, 3, 2, 1, 0] rfl)

