/-- the room: TURN measures it on a JVM, its last digits vary from one turn to the next, so only lower bounds are used -/
theorem room_cells : 500000 ≤ room_1.cells := by decide +kernel
theorem room_slots : 7000000 ≤ room_1.slots := by decide +kernel
theorem nI_plus (a b : Nat) : nI a + nI b = nI (a + b) := (Int32.ofNat_add a b).symm
theorem lw_len {L : Nat} (hL : L ≤ 4096) : (Int32.ofNat L - 8).toInt = (L : Int) - 8 := by
  rw [Int32.toInt_sub]
  have h1 : (Int32.ofNat L).toInt = (L : Int) := nI_toInt (n := L) (by omega)
  have h2 : (8 : Int32).toInt = 8 := by decide
  rw [h1, h2]
  apply Int.bmod_eq_of_le <;> omega
theorem lw_in {L it j : Nat} (hL : L ≤ 4096) (h : 8 * it + 8 ≤ L) (hj : j < 8) {v : Int32} (hv : v = nI j) {x4 : Int32} (hx : x4 = nI (8 * it)) : vp_in (x4 + v) L := by
  rw [hv, hx, nI_plus]
  exact vp_in_nI (by omega) (by omega)
set_option maxHeartbeats 4000000 in
set_option maxRecDepth 100000 in
/-- THE LAW'S LOOP -/
theorem law_loop {p : Program} {l : Launch} {e : Env} {s : State} {m : MethodId} {below : List Frame} {meth : Method} {c : Code} {b L : Nat} {xs : Nat → Int32} (hL : L ≤ 4096) (C0 : lw_At p s m meth c b L xs) (hst : l.stackTraces = false) (C : pq_C) (n xa ma ao : Nat) (J : pq_S → Prop) (ob : OB n xa ma J) :
    ∀ (k it : Nat) (x4 : Int32) (S : pq_S) (f : Nat → Int64) (H : Heap) (locs : List Loc) (ls : Array Slot), L + 8 ≤ 8 * it + 8 * k → it ≤ 512 → 8 * it ≤ L + 7 → x4 = nI (8 * it) → J S → PW C (XL C ao f) S (lw_A s) H locs s → lv_has ls 8 [(0, .ref b), (1, .ref xa), (2, .ref ma), (3, .ref ao), (4, .int x4)] →
      W p l e room_1 s m #[Value.ref b] below meth c H locs (1000 + 200 * it) (30000 + 8000 * it) (lw_Z below #[Value.ref b] s) (F0 m 23 ls []) := by
  obtain ⟨hx, hb, hr, hml, hown, hts, hX, hbl, hlocks, hgv⟩ := id C0
  have hrc := room_cells
  have hrs := room_slots
  have hb : c.code = cL_law_ := hb
  have hbA : ¬ lw_A s b := Nat.not_le.mpr hbl
  obtain ⟨hTY, o0, o1, o2, o3, o4, o5, o6, o7, o8, o9, o10, o11, o12, o13, o14, o15, o16, o17, o18, o19, o20, o21, o22, o23, o24, o25, o26, o27, o28, o29, o30, o31, o32, o33, o34, o35, o36, o37, o38, o39, o40, o41⟩ := ob
  intro k
  induction k with
  | zero =>
    intro it x4 S f H locs ls h1 h2 h3
    omega
  | succ k ih =>
    intro it x4 S f H locs ls h1 h2 h3 ex4 hJ hw hl
    refine lv_iload hx hb dL_law__23 (lv_at hl 4 rfl) ?_
    refine lv_aload_n hx hb dL_law__25 rfl (lv_at hl 0 rfl) ?_
    refine va_slen hx hb hX hbl hbA hw.S dL_law__26 ?_
    refine lv_bipush (v := 8) hx hb dL_law__27 (by decide) ?_
    refine lv_isub hx hb dL_law__29 ?_
    have hxi : x4.toInt = ((8 * it : Nat) : Int) := by rw [ex4]; exact nI_toInt (by omega)
    refine lv_icmp_gt (tgt := 3025) hx hb dL_law__30 (by decide) (fun c1 => ?_) (fun c1 => ?_)
    · refine lv_iconst (v := 1) hx hb dL_law__3025 (by decide) ?_
      refine va_forget (fun q hq => hw.S.2.2 q hq) ?_
      refine W.widen (k := room_1.cells) (n := room_1.slots) (by omega) (by omega) ?_
      exact lw_ret hx hb hr hlocks dL_law__3026
    · have hlt : 8 * it + 8 ≤ L := by
        have h9 := Int32.not_lt.mp c1
        have h8 := Int32.le_iff_toInt_le.mp h9
        rw [hxi, lw_len hL] at h8
        omega
      have hi0 : vp_in x4 L := by rw [ex4]; exact vp_in_nI (by omega) (by omega)

      have hi1 : vp_in (x4 + 1) L := lw_in hL hlt (j := 1) (by decide) (by decide) ex4
      have hi2 : vp_in (x4 + 2) L := lw_in hL hlt (j := 2) (by decide) (by decide) ex4
      have hi3 : vp_in (x4 + 3) L := lw_in hL hlt (j := 3) (by decide) (by decide) ex4
      have hi4 : vp_in (x4 + 4) L := lw_in hL hlt (j := 4) (by decide) (by decide) ex4
      have hi5 : vp_in (x4 + 5) L := lw_in hL hlt (j := 5) (by decide) (by decide) ex4
      have hi6 : vp_in (x4 + 6) L := lw_in hL hlt (j := 6) (by decide) (by decide) ex4
      have hi7 : vp_in (x4 + 7) L := lw_in hL hlt (j := 7) (by decide) (by decide) ex4
      have hk : ∀ (S2 : pq_S) (f2 : Nat → Int64) (H2 : Heap) (locs2 : List Loc) (ls2 : Array Slot), J S2 → PW C (XL C ao f2) S2 (lw_A s) H2 locs2 s → lv_has ls2 8 [(0, .ref b), (1, .ref xa), (2, .ref ma), (3, .ref ao), (4, .int x4)] → W p l e room_1 s m #[Value.ref b] below meth c H2 locs2 (1000 + 200 * it + 200) (30000 + 8000 * it + 8000) (lw_Z below #[Value.ref b] s) (F0 m 3019 ls2 []) := by
        intro S2 f2 H2 locs2 ls2 hJ2 hw2 hl2
        refine lv_iinc (v := x4 + 8) (lv' := [(4, .int (x4 + 8)), (0, .ref b), (1, .ref xa), (2, .ref ma), (3, .ref ao)]) hx hb dL_law__3019 hl2 (k := 4) rfl rfl (by decide) rfl (fun ls hl => ?_)
        refine lv_goto (tgt := 23) hx hb dL_law__3022 (by decide) ?_
        exact ih (it + 1) (x4 + 8) S2 f2 _ _ ls (by omega) (by omega) (by omega) (by rw [ex4]; exact nI_plus (8 * it) 8) hJ2 hw2 (lv_sub hl [1, 2, 3, 4, 0] rfl)
      refine lv_aload_n hx hb dL_law__33 rfl (lv_at hl 0 rfl) ?_
      refine lv_iload hx hb dL_law__34 (lv_at hl 4 rfl) ?_
      refine va_sld hx hb hX hbl hbA hw.S hi0 dL_law__36 ?_
      refine lv_bipush (v := 63) hx hb dL_law__37 (by decide) ?_
      refine lv_iand hx hb dL_law__39 ?_
      refine lv_topi (fun y ey => ?_)
      clear ey
      by_cases t0 : y = 0
      · refine lv_tsIn (v := 0) t0 ?_
        refine lv_tableIn (tgt := 224) hx hb dL_law__40 (by decide) (by decide) rfl (by decide) ?_
        exact lc_0 C0 hst C n xa ma ao J hTY o0 x4 hi1 hi2 hi3 hi4 hi5 S f H locs ls _ _ hJ (by omega) (by omega) hw hl hk
      by_cases t1 : y = 1
      · refine lv_tsIn (v := 1) t1 ?_
        refine lv_tableIn (tgt := 297) hx hb dL_law__40 (by decide) (by decide) rfl (by decide) ?_
        exact lc_1 C0 hst C n xa ma ao J hTY o1 x4 hi1 S f H locs ls _ _ hJ (by omega) (by omega) hw hl hk
      by_cases t2 : y = 2
      · refine lv_tsIn (v := 2) t2 ?_
        refine lv_tableIn (tgt := 353) hx hb dL_law__40 (by decide) (by decide) rfl (by decide) ?_
        exact lc_2 C0 hst C n xa ma ao J hTY o2 x4 hi1 hi2 S f H locs ls _ _ hJ (by omega) (by omega) hw hl hk
      by_cases t3 : y = 3
      · refine lv_tsIn (v := 3) t3 ?_
        refine lv_tableIn (tgt := 421) hx hb dL_law__40 (by decide) (by decide) rfl (by decide) ?_
        exact lc_3 C0 hst C n xa ma ao J hTY o3 x4 hi1 S f H locs ls _ _ hJ (by omega) (by omega) hw hl hk
      by_cases t4 : y = 4
      · refine lv_tsIn (v := 4) t4 ?_
        refine lv_tableIn (tgt := 477) hx hb dL_law__40 (by decide) (by decide) rfl (by decide) ?_
        exact lc_4 C0 hst C n xa ma ao J hTY o4 x4 hi1 S f H locs ls _ _ hJ (by omega) (by omega) hw hl hk
      by_cases t5 : y = 5
      · refine lv_tsIn (v := 5) t5 ?_
        refine lv_tableIn (tgt := 533) hx hb dL_law__40 (by decide) (by decide) rfl (by decide) ?_
        exact lc_5 C0 hst C n xa ma ao J hTY o5 x4  S f H locs ls _ _ hJ (by omega) (by omega) hw hl hk
      by_cases t6 : y = 6
      · refine lv_tsIn (v := 6) t6 ?_
        refine lv_tableIn (tgt := 546) hx hb dL_law__40 (by decide) (by decide) rfl (by decide) ?_
        exact lc_6 C0 hst C n xa ma ao J hTY o6 x4  S f H locs ls _ _ hJ (by omega) (by omega) hw hl hk
      by_cases t7 : y = 7
      · refine lv_tsIn (v := 7) t7 ?_
        refine lv_tableIn (tgt := 559) hx hb dL_law__40 (by decide) (by decide) rfl (by decide) ?_
        exact lc_7 C0 hst C n xa ma ao J hTY o7 x4 hi1 S f H locs ls _ _ hJ (by omega) (by omega) hw hl hk
      by_cases t8 : y = 8
      · refine lv_tsIn (v := 8) t8 ?_
        refine lv_tableIn (tgt := 615) hx hb dL_law__40 (by decide) (by decide) rfl (by decide) ?_
        exact lc_8 C0 hst C n xa ma ao J hTY o8 x4 hi1 hi2 S f H locs ls _ _ hJ (by omega) (by omega) hw hl hk
      by_cases t9 : y = 9
      · refine lv_tsIn (v := 9) t9 ?_
        refine lv_tableIn (tgt := 683) hx hb dL_law__40 (by decide) (by decide) rfl (by decide) ?_
        exact lc_9 C0 hst C n xa ma ao J hTY o9 x4 hi1 hi2 S f H locs ls _ _ hJ (by omega) (by omega) hw hl hk
      by_cases t10 : y = 10
      · refine lv_tsIn (v := 10) t10 ?_
        refine lv_tableIn (tgt := 751) hx hb dL_law__40 (by decide) (by decide) rfl (by decide) ?_
        exact lc_10 C0 hst C n xa ma ao J hTY o10 x4 hi1 hi2 S f H locs ls _ _ hJ (by omega) (by omega) hw hl hk
      by_cases t11 : y = 11
      · refine lv_tsIn (v := 11) t11 ?_
        refine lv_tableIn (tgt := 819) hx hb dL_law__40 (by decide) (by decide) rfl (by decide) ?_
        exact lc_11 C0 hst C n xa ma ao J hTY o11 x4 hi1 hi2 hi3 hi4 S f H locs ls _ _ hJ (by omega) (by omega) hw hl hk
      by_cases t12 : y = 12
      · refine lv_tsIn (v := 12) t12 ?_
        refine lv_tableIn (tgt := 911) hx hb dL_law__40 (by decide) (by decide) rfl (by decide) ?_
        exact lc_12 C0 hst C n xa ma ao J hTY o12 x4 hi1 hi2 S f H locs ls _ _ hJ (by omega) (by omega) hw hl hk
      by_cases t13 : y = 13
      · refine lv_tsIn (v := 13) t13 ?_
        refine lv_tableIn (tgt := 979) hx hb dL_law__40 (by decide) (by decide) rfl (by decide) ?_
        exact lc_13 C0 hst C n xa ma ao J hTY o13 x4 hi1 S f H locs ls _ _ hJ (by omega) (by omega) hw hl hk
      by_cases t14 : y = 14
      · refine lv_tsIn (v := 14) t14 ?_
        refine lv_tableIn (tgt := 1042) hx hb dL_law__40 (by decide) (by decide) rfl (by decide) ?_
        exact lc_14 C0 hst C n xa ma ao J hTY o14 x4 hi1 S f H locs ls _ _ hJ (by omega) (by omega) hw hl hk
      by_cases t15 : y = 15
      · refine lv_tsIn (v := 15) t15 ?_
        refine lv_tableIn (tgt := 1098) hx hb dL_law__40 (by decide) (by decide) rfl (by decide) ?_
        exact lc_15 C0 hst C n xa ma ao J hTY o15 x4 hi1 hi2 S f H locs ls _ _ hJ (by omega) (by omega) hw hl hk
      by_cases t16 : y = 16
      · refine lv_tsIn (v := 16) t16 ?_
        refine lv_tableIn (tgt := 1166) hx hb dL_law__40 (by decide) (by decide) rfl (by decide) ?_
        exact lc_16 C0 hst C n xa ma ao J hTY o16 x4 hi1 hi2 hi3 S f H locs ls _ _ hJ (by omega) (by omega) hw hl hk
      by_cases t17 : y = 17
      · refine lv_tsIn (v := 17) t17 ?_
        refine lv_tableIn (tgt := 1246) hx hb dL_law__40 (by decide) (by decide) rfl (by decide) ?_
        exact lc_17 C0 hst C n xa ma ao J hTY o17 x4 hi1 S f H locs ls _ _ hJ (by omega) (by omega) hw hl hk
      by_cases t18 : y = 18
      · refine lv_tsIn (v := 18) t18 ?_
        refine lv_tableIn (tgt := 1302) hx hb dL_law__40 (by decide) (by decide) rfl (by decide) ?_
        exact lc_18 C0 hst C n xa ma ao J hTY o18 x4 hi1 hi2 S f H locs ls _ _ hJ (by omega) (by omega) hw hl hk
      by_cases t19 : y = 19
      · refine lv_tsIn (v := 19) t19 ?_
        refine lv_tableIn (tgt := 1370) hx hb dL_law__40 (by decide) (by decide) rfl (by decide) ?_
        exact lc_19 C0 hst C n xa ma ao J hTY o19 x4 hi1 hi2 hi3 hi4 hi5 hi6 hi7 S f H locs ls _ _ hJ (by omega) (by omega) hw hl hk
      by_cases t20 : y = 20
      · refine lv_tsIn (v := 20) t20 ?_
        refine lv_tableIn (tgt := 1501) hx hb dL_law__40 (by decide) (by decide) rfl (by decide) ?_
        exact lc_20 C0 hst C n xa ma ao J hTY o20 x4 hi1 hi2 hi3 hi4 hi5 hi6 hi7 S f H locs ls _ _ hJ (by omega) (by omega) hw hl hk
      by_cases t21 : y = 21
      · refine lv_tsIn (v := 21) t21 ?_
        refine lv_tableIn (tgt := 1632) hx hb dL_law__40 (by decide) (by decide) rfl (by decide) ?_
        exact lc_21 C0 hst C n xa ma ao J hTY o21 x4 hi1 hi2 hi3 hi4 hi5 hi6 S f H locs ls _ _ hJ (by omega) (by omega) hw hl hk
      by_cases t22 : y = 22
      · refine lv_tsIn (v := 22) t22 ?_
        refine lv_tableIn (tgt := 1757) hx hb dL_law__40 (by decide) (by decide) rfl (by decide) ?_
        exact lc_22 C0 hst C n xa ma ao J hTY o22 x4 hi1 hi2 S f H locs ls _ _ hJ (by omega) (by omega) hw hl hk
      by_cases t23 : y = 23
      · refine lv_tsIn (v := 23) t23 ?_
        refine lv_tableIn (tgt := 1825) hx hb dL_law__40 (by decide) (by decide) rfl (by decide) ?_
        exact lc_23 C0 hst C n xa ma ao J hTY o23 x4 hi1 hi2 S f H locs ls _ _ hJ (by omega) (by omega) hw hl hk
      by_cases t24 : y = 24
      · refine lv_tsIn (v := 24) t24 ?_
        refine lv_tableIn (tgt := 1893) hx hb dL_law__40 (by decide) (by decide) rfl (by decide) ?_
        exact lc_24 C0 hst C n xa ma ao J hTY o24 x4 hi1 hi2 hi3 S f H locs ls _ _ hJ (by omega) (by omega) hw hl hk
      by_cases t25 : y = 25
      · refine lv_tsIn (v := 25) t25 ?_
        refine lv_tableIn (tgt := 1973) hx hb dL_law__40 (by decide) (by decide) rfl (by decide) ?_
        exact lc_25 C0 hst C n xa ma ao J hTY o25 x4 hi1 S f H locs ls _ _ hJ (by omega) (by omega) hw hl hk
      by_cases t26 : y = 26
      · refine lv_tsIn (v := 26) t26 ?_
        refine lv_tableIn (tgt := 2029) hx hb dL_law__40 (by decide) (by decide) rfl (by decide) ?_
        exact lc_26 C0 hst C n xa ma ao J hTY o26 x4 hi1 hi2 S f H locs ls _ _ hJ (by omega) (by omega) hw hl hk
      by_cases t27 : y = 27
      · refine lv_tsIn (v := 27) t27 ?_
        refine lv_tableIn (tgt := 2097) hx hb dL_law__40 (by decide) (by decide) rfl (by decide) ?_
        exact lc_27 C0 hst C n xa ma ao J hTY o27 x4 hi1 hi2 hi3 hi4 S f H locs ls _ _ hJ (by omega) (by omega) hw hl hk
      by_cases t28 : y = 28
      · refine lv_tsIn (v := 28) t28 ?_
        refine lv_tableIn (tgt := 2189) hx hb dL_law__40 (by decide) (by decide) rfl (by decide) ?_
        exact lc_28 C0 hst C n xa ma ao J hTY o28 x4 hi1 hi2 hi3 S f H locs ls _ _ hJ (by omega) (by omega) hw hl hk
      by_cases t29 : y = 29
      · refine lv_tsIn (v := 29) t29 ?_
        refine lv_tableIn (tgt := 2269) hx hb dL_law__40 (by decide) (by decide) rfl (by decide) ?_
        exact lc_29 C0 hst C n xa ma ao J hTY o29 x4 hi1 hi2 hi3 S f H locs ls _ _ hJ (by omega) (by omega) hw hl hk
      by_cases t30 : y = 30
      · refine lv_tsIn (v := 30) t30 ?_
        refine lv_tableIn (tgt := 2349) hx hb dL_law__40 (by decide) (by decide) rfl (by decide) ?_
        exact lc_30 C0 hst C n xa ma ao J hTY o30 x4 hi1 S f H locs ls _ _ hJ (by omega) (by omega) hw hl hk
      by_cases t31 : y = 31
      · refine lv_tsIn (v := 31) t31 ?_
        refine lv_tableIn (tgt := 2405) hx hb dL_law__40 (by decide) (by decide) rfl (by decide) ?_
        exact lc_31 C0 hst C n xa ma ao J hTY o31 x4 hi1 S f H locs ls _ _ hJ (by omega) (by omega) hw hl hk
      by_cases t32 : y = 32
      · refine lv_tsIn (v := 32) t32 ?_
        refine lv_tableIn (tgt := 2461) hx hb dL_law__40 (by decide) (by decide) rfl (by decide) ?_
        exact lc_32 C0 hst C n xa ma ao J hTY o32 x4 hi1 S f H locs ls _ _ hJ (by omega) (by omega) hw hl hk
      by_cases t33 : y = 33
      · refine lv_tsIn (v := 33) t33 ?_
        refine lv_tableIn (tgt := 2517) hx hb dL_law__40 (by decide) (by decide) rfl (by decide) ?_
        exact lc_33 C0 hst C n xa ma ao J hTY o33 x4 hi1 hi2 S f H locs ls _ _ hJ (by omega) (by omega) hw hl hk
      by_cases t34 : y = 34
      · refine lv_tsIn (v := 34) t34 ?_
        refine lv_tableIn (tgt := 2585) hx hb dL_law__40 (by decide) (by decide) rfl (by decide) ?_
        exact lc_34 C0 hst C n xa ma ao J hTY o34 x4 hi1 hi2 hi3 hi4 hi5 S f H locs ls _ _ hJ (by omega) (by omega) hw hl hk
      by_cases t35 : y = 35
      · refine lv_tsIn (v := 35) t35 ?_
        refine lv_tableIn (tgt := 2689) hx hb dL_law__40 (by decide) (by decide) rfl (by decide) ?_
        exact lc_35 C0 hst C n xa ma ao J hTY o35 x4 hi1 hi2 hi3 hi4 hi5 hi6 S f H locs ls _ _ hJ (by omega) (by omega) hw hl hk
      by_cases t36 : y = 36
      · refine lv_tsIn (v := 36) t36 ?_
        refine lv_tableIn (tgt := 2807) hx hb dL_law__40 (by decide) (by decide) rfl (by decide) ?_
        exact lc_36 C0 hst C n xa ma ao J hTY o36 x4 hi1 hi2 hi3 S f H locs ls _ _ hJ (by omega) (by omega) hw hl hk
      by_cases t37 : y = 37
      · refine lv_tsIn (v := 37) t37 ?_
        refine lv_tableIn (tgt := 2887) hx hb dL_law__40 (by decide) (by decide) rfl (by decide) ?_
        exact lc_37 C0 hst C n xa ma ao J hTY o37 x4 hi1 S f H locs ls _ _ hJ (by omega) (by omega) hw hl hk
      by_cases t38 : y = 38
      · refine lv_tsIn (v := 38) t38 ?_
        refine lv_tableIn (tgt := 2943) hx hb dL_law__40 (by decide) (by decide) rfl (by decide) ?_
        exact lc_38 C0 hst C n xa ma ao J hTY o38 x4  S f H locs ls _ _ hJ (by omega) (by omega) hw hl hk
      by_cases t39 : y = 39
      · refine lv_tsIn (v := 39) t39 ?_
        refine lv_tableIn (tgt := 2956) hx hb dL_law__40 (by decide) (by decide) rfl (by decide) ?_
        exact lc_39 C0 hst C n xa ma ao J hTY o39 x4  S f H locs ls _ _ hJ (by omega) (by omega) hw hl hk
      by_cases t40 : y = 40
      · refine lv_tsIn (v := 40) t40 ?_
        refine lv_tableIn (tgt := 2969) hx hb dL_law__40 (by decide) (by decide) rfl (by decide) ?_
        exact lc_40 C0 hst C n xa ma ao J hTY o40 x4 hi1 S f H locs ls _ _ hJ (by omega) (by omega) hw hl hk
      by_cases t41 : y = 41
      · refine lv_tsIn (v := 41) t41 ?_
        refine lv_tableIn (tgt := 2994) hx hb dL_law__40 (by decide) (by decide) rfl (by decide) ?_
        exact lc_41 C0 hst C n xa ma ao J hTY o41 x4 hi1 S f H locs ls _ _ hJ (by omega) (by omega) hw hl hk
      refine lv_tableOut (tgt := 3019) hx hb dL_law__40 (ts_out (lo := 0) (hi := 41) (fun j hj1 hj2 => ?_)) (by decide) ?_
      · have hj : j = 0 ∨ j = 1 ∨ j = 2 ∨ j = 3 ∨ j = 4 ∨ j = 5 ∨ j = 6 ∨ j = 7 ∨ j = 8 ∨ j = 9 ∨ j = 10 ∨ j = 11 ∨ j = 12 ∨ j = 13 ∨ j = 14 ∨ j = 15 ∨ j = 16 ∨ j = 17 ∨ j = 18 ∨ j = 19 ∨ j = 20 ∨ j = 21 ∨ j = 22 ∨ j = 23 ∨ j = 24 ∨ j = 25 ∨ j = 26 ∨ j = 27 ∨ j = 28 ∨ j = 29 ∨ j = 30 ∨ j = 31 ∨ j = 32 ∨ j = 33 ∨ j = 34 ∨ j = 35 ∨ j = 36 ∨ j = 37 ∨ j = 38 ∨ j = 39 ∨ j = 40 ∨ j = 41 := by omega
        rcases hj with rfl | rfl | rfl | rfl | rfl | rfl | rfl | rfl | rfl | rfl | rfl | rfl | rfl | rfl | rfl | rfl | rfl | rfl | rfl | rfl | rfl | rfl | rfl | rfl | rfl | rfl | rfl | rfl | rfl | rfl | rfl | rfl | rfl | rfl | rfl | rfl | rfl | rfl | rfl | rfl | rfl | rfl
        · exact t0
        · exact t1
        · exact t2
        · exact t3
        · exact t4
        · exact t5
        · exact t6
        · exact t7
        · exact t8
        · exact t9
        · exact t10
        · exact t11
        · exact t12
        · exact t13
        · exact t14
        · exact t15
        · exact t16
        · exact t17
        · exact t18
        · exact t19
        · exact t20
        · exact t21
        · exact t22
        · exact t23
        · exact t24
        · exact t25
        · exact t26
        · exact t27
        · exact t28
        · exact t29
        · exact t30
        · exact t31
        · exact t32
        · exact t33
        · exact t34
        · exact t35
        · exact t36
        · exact t37
        · exact t38
        · exact t39
        · exact t40
        · exact t41
      exact W.widen (by omega) (by omega) (hk S f _ _ ls hJ hw hl)
