abbrev rm_X7_carryHours : Room := { frames := 4, cells := 0, slots := 0, locals := 117 }
def b_X7_carryHours_55 (n : Nat) (b0 : Nat) (z1 : Int32) (z2 : Int32) (b3 : Nat) (z4 : Int32) (z5 : Int32) (z6 : Int32) (z7 : Int32) (S : pq_S) : Option (Int32 × pq_S) := cb (m_X7_arriving n b3 z4 z5 z6 z7 S) fun r17 S_15 => Option.bind (m_X8_bring n b0 z1 z2 r17 S_15) fun S_19 => some (1, S_19)
set_option maxHeartbeats 4000000 in
set_option maxRecDepth 100000 in
theorem wb_X7_carryHours_55 {p : Program} {l : Launch} {e : Env} {s : State} {m : MethodId} {args : Array Value} {below : List Frame} {meth : Method} {c : Code} (cx : Cx p s m args meth c cX7_carryHours 5 RX7 (some .boolean)) (C : pq_C) (X : va_W) (S0 : pq_S) (n : Nat) (r : Int32) (S1 : pq_S) : ∀ (b0 : Nat) (z1 : Int32) (z2 : Int32) (b3 : Nat) (z4 : Int32) (z5 : Int32) (z6 : Int32) (z7 : Int32) (S : pq_S) (H : Heap) (locs : List Loc) (ls : Array Slot), PW C X S (pq_F C X S0 s.heap.size) H locs s → Ext S0 S → TY S b0 8 → TY S b3 7 → lv_has ls 5 [] → b_X7_carryHours_55 n b0 z1 z2 b3 z4 z5 z6 z7 S = some (r, S1) → W p l e rm_X7_carryHours s m args below meth c H locs 0 0 (MQ below (QcZ C X S0 s.heap.size r S1) args s 0 0 (pq_F C X S0 s.heap.size)) (F0 m 55 ls [.int z7, .int z6, .int z5, .int z4, .ref b3, .int z2, .int z1, .ref b0]) := by
  obtain ⟨hx, hb, hml, hown, hU, hr, hlk⟩ := id cx
  intro b0 z1 z2 b3 z4 z5 z6 z7 S H locs ls hw hE Tb0 Tb3 hl hm
  rw [b_X7_carryHours_55] at hm
  obtain ⟨r17, S_15, hq16, hm⟩ := cb_some hm
  refine pw_ci (va_runV (As := [.int z4, .int z5, .int z6, .int z7]) (rest := [.int z2, .int z1, .ref b0]) ⟨hx, hb, hml, hown, hU⟩ (c_X7_arriving l C X n S hw.wf _ b3 z4 z5 z6 z7 (Tb3) r17 S_15 hq16) (cwV 4 hU (pq_gV tw861 tw863 ts53 tw3 tc_X7_arriving) rfl rfl rfl cd_X7_arriving ⟨Nat.le_of_ble_eq_true rfl, Nat.le_of_ble_eq_true rfl⟩) (pw_preV hw Tb3 (by decide) rfl) rfl rfl hl.1 rfl (lv_room (Nat.le_of_ble_eq_true rfl)) dX7_carryHours_55 ⟨Nat.zero_le _, Nat.zero_le _⟩) hw (fun H locs hw hx18 => ?_)
  have Tb0 : TY S_15 b0 8 := ty_ext hx18 Tb0
  have hE : Ext S0 S_15 := Ext.tr hE hx18
  obtain ⟨S_19, hq20, hm⟩ := bd_some hm
  refine pw_cv (va_runVN (As := [.int z1, .int z2, .int r17]) (rest := []) ⟨hx, hb, hml, hown, hU⟩ (c_X8_bring l C X n S_15 hw.wf _ b0 z1 z2 r17 (Tb0) S_19 hq20) ⟨va_cnB (host := "WickNights") 3 hU (pq_g1 tc_X8_bring) rfl rfl rfl (hw.nw 141 rfl) (hU _ tw6) cd_X8_bring.2 ⟨Nat.le_of_ble_eq_true rfl, Nat.le_of_ble_eq_true rfl⟩, hU _ tw897, hU _ ts59⟩ (pw_preV hw Tb0 (by decide) rfl) rfl rfl hl.1 rfl (lv_room (Nat.le_of_ble_eq_true rfl)) dX7_carryHours_58 ⟨Nat.zero_le _, Nat.zero_le _⟩) hw (fun H locs hw hx21 => ?_)
  have hE : Ext S0 S_19 := Ext.tr hE hx21
  refine lv_iconst (v := 1) hx hb dX7_carryHours_61 (by decide) ?_
  cases hm
  exact pw_zret hx hb hr bz_1 hlk hw hE dX7_carryHours_62
def m_X7_carryHours (n : Nat) (a0 : Nat) (x1 : Int32) (x2 : Int32) (x3 : Int32) (x4 : Int32) (S0 : pq_S) : Option (Int32 × pq_S) := Option.bind (pR S0 701 a0) fun q1 => Option.bind (pR S0 800 q1) fun q2 => cb (m_X9_at n q2 x1 x4 S0) fun r5 S_3 => if x3 ≤ r5 then Option.bind (pR S_3 701 a0) fun q8 => Option.bind (pR S_3 800 q8) fun q9 => Option.bind (m_X9_add n q9 x1 x4 (-x3) S_3) fun S_10 => Option.bind (pR S_10 701 a0) fun q13 => if x4 = 0 then b_X7_carryHours_55 n q13 x2 x4 a0 x1 x2 x3 1 S_10 else b_X7_carryHours_55 n q13 x2 x4 a0 x1 x2 x3 0 S_10 else some (0, S_3)
theorem tc_X7_carryHours : Cond.code yX7_carryHours cX7_carryHours 5 (some .boolean) ∈ pq_U := tw853
theorem cd_X7_carryHours : yX7_carryHours.cls = RX7 ∧ yX7_carryHours.cls ≠ "java/lang/invoke/MethodHandle" ∧ yX7_carryHours.cls ≠ "java/lang/invoke/VarHandle" ∧ (parseMethodDescriptor yX7_carryHours.desc).map (fun d => d.parameters.length) = some 4 := by decide +kernel
set_option maxHeartbeats 4000000 in
set_option maxRecDepth 100000 in
theorem c_X7_carryHours (l : Launch) (C : pq_C) (X : va_W) (n : Nat) (S0 : pq_S) (hF : WF S0) (sz : Nat) (a0 : Nat) (x1 : Int32) (x2 : Int32) (x3 : Int32) (x4 : Int32) (Ta0 : TY S0 a0 7) (r : Int32) (S1 : pq_S) (hm : m_X7_carryHours n a0 x1 x2 x3 x4 S0 = some (r, S1)) : MZ l yX7_carryHours (.code yX7_carryHours cX7_carryHours 5 (some .boolean) :: pq_U) rm_X7_carryHours C X S0 sz [.ref a0, .int x1, .int x2, .int x3, .int x4] r S1 0 0 := by
  refine Met.ofW (cc := cX7_carryHours) (maxL := 5) (ret := (some .boolean)) (by decide) rfl ?_
  intro p e s m args below meth c s₁ B hml hv
  obtain ⟨rfl, hv⟩ := hv
  have hsz := hv.1
  subst hsz
  have hw := pw_entry hF hv
  have hts := atoms_spec (ws := .code yX7_carryHours cX7_carryHours 5 (some .boolean) :: pq_U) B.pre
  have hU : ∀ w ∈ pq_U, w.before _ s = true := fun w h => hts w (List.mem_cons_of_mem _ h)
  have hx := B.exec
  have hb := B.bytes
  have hr := B.returns
  have hown : s.vm.findClass RX7 = some m.cls := findClass_of_methodNamed B.named
  have hlk := B.notSynchronized
  have hl := lv_entry ([.ref a0, .int x1, .int x2, .int x3, .int x4]) (n := 5) (Nat.le_of_ble_eq_true rfl)
  rw [lg_entry_eq]
  generalize (lg_sl ([.ref a0, .int x1, .int x2, .int x3, .int x4]) ++ List.replicate (5 - (lg_sl ([.ref a0, .int x1, .int x2, .int x3, .int x4])).length) Slot.unset).toArray = ls at hl ⊢
  have hl : lv_has ls 5 [(0, .ref a0), (1, .int x1), (2, .int x2), (3, .int x3), (4, .int x4)] := hl
  have hE : Ext S0 S0 := Ext.rf _
  have cx : Cx p s m _ meth c cX7_carryHours 5 RX7 (some .boolean) := ⟨hx, hb, hml, hown, hU, hr, hlk⟩
  rw [m_X7_carryHours] at hm
  refine lv_aload_n hx hb dX7_carryHours_0 rfl (lv_at hl 0 rfl) ?_
  obtain ⟨q1, hq1, hm⟩ := bd_some hm
  have Tq1 : TY S0 q1 8 := hw.wf.ref (k := 7) (j := 1) Ta0 (by decide) (by decide) hq1
  refine pg_rb (k := 7) (j := 1) (f := 701) hx hb hown hU iu7 hw Ta0 (by decide) rfl (hU _ tw209) rfl hq1 dX7_carryHours_1 ?_
  obtain ⟨q2, hq2, hm⟩ := bd_some hm
  have Tq2 : TY S0 q2 9 := hw.wf.ref (k := 8) (j := 0) Tq1 (by decide) (by decide) hq2
  refine pgN_rb (k := 8) (j := 0) (f := 800) hx hb hown hU iu8 hw Tq1 (by decide) rfl 43 rfl rfl hq2 dX7_carryHours_4 ?_
  refine lv_iload_n hx hb dX7_carryHours_7 rfl (lv_at hl 1 rfl) ?_
  refine lv_iload hx hb dX7_carryHours_8 (lv_at hl 4 rfl) ?_
  obtain ⟨r5, S_3, hq4, hm⟩ := cb_some hm
  refine pw_ci (va_runVN (As := [.int x1, .int x4]) (rest := []) ⟨hx, hb, hml, hown, hU⟩ (c_X9_at l C X n S0 hw.wf _ q2 x1 x4 (Tq2) r5 S_3 hq4) ⟨va_cnB (host := "WickNights") 2 hU (pq_g1 tc_X9_at) rfl rfl rfl (hw.nw 135 rfl) (hU _ tw5) cd_X9_at.2 ⟨Nat.le_of_ble_eq_true rfl, Nat.le_of_ble_eq_true rfl⟩, hU _ tw719, hU _ ts32⟩ (pw_preV hw Tq2 (by decide) rfl) rfl rfl hl.1 rfl (lv_room (Nat.le_of_ble_eq_true rfl)) dX7_carryHours_10 ⟨Nat.zero_le _, Nat.zero_le _⟩) hw (fun H locs hw hx6 => ?_)
  have Ta0 : TY S_3 a0 7 := ty_ext hx6 Ta0
  have hE : Ext S0 S_3 := Ext.tr hE hx6
  refine lv_iload_n hx hb dX7_carryHours_13 rfl (lv_at hl 3 rfl) ?_
  refine lv_icmp_ge (tgt := 19) hx hb dX7_carryHours_14 (by decide) (fun h7 => ?_) (fun h7 => ?_)
  · rw [if_pos h7] at hm
    refine lv_aload_n hx hb dX7_carryHours_19 rfl (lv_at hl 0 rfl) ?_
    obtain ⟨q8, hq8, hm⟩ := bd_some hm
    have Tq8 : TY S_3 q8 8 := hw.wf.ref (k := 7) (j := 1) Ta0 (by decide) (by decide) hq8
    refine pg_rb (k := 7) (j := 1) (f := 701) hx hb hown hU iu7 hw Ta0 (by decide) rfl (hU _ tw209) rfl hq8 dX7_carryHours_20 ?_
    obtain ⟨q9, hq9, hm⟩ := bd_some hm
    have Tq9 : TY S_3 q9 9 := hw.wf.ref (k := 8) (j := 0) Tq8 (by decide) (by decide) hq9
    refine pgN_rb (k := 8) (j := 0) (f := 800) hx hb hown hU iu8 hw Tq8 (by decide) rfl 43 rfl rfl hq9 dX7_carryHours_23 ?_
    refine lv_iload_n hx hb dX7_carryHours_26 rfl (lv_at hl 1 rfl) ?_
    refine lv_iload hx hb dX7_carryHours_27 (lv_at hl 4 rfl) ?_
    refine lv_iload_n hx hb dX7_carryHours_29 rfl (lv_at hl 3 rfl) ?_
    refine lv_ineg hx hb dX7_carryHours_30 ?_
    obtain ⟨S_10, hq11, hm⟩ := bd_some hm
    refine pw_cv (va_runVN (As := [.int x1, .int x4, .int (-x3)]) (rest := []) ⟨hx, hb, hml, hown, hU⟩ (c_X9_add l C X n S_3 hw.wf _ q9 x1 x4 (-x3) (Tq9) S_10 hq11) ⟨va_cnB (host := "WickNights") 3 hU (pq_g1 tc_X9_add) rfl rfl rfl (hw.nw 136 rfl) (hU _ tw5) cd_X9_add.2 ⟨Nat.le_of_ble_eq_true rfl, Nat.le_of_ble_eq_true rfl⟩, hU _ tw857, hU _ ts52⟩ (pw_preV hw Tq9 (by decide) rfl) rfl rfl hl.1 rfl (lv_room (Nat.le_of_ble_eq_true rfl)) dX7_carryHours_31 ⟨Nat.zero_le _, Nat.zero_le _⟩) hw (fun H locs hw hx12 => ?_)
    have Ta0 : TY S_10 a0 7 := ty_ext hx12 Ta0
    have hE : Ext S0 S_10 := Ext.tr hE hx12
    refine lv_aload_n hx hb dX7_carryHours_34 rfl (lv_at hl 0 rfl) ?_
    obtain ⟨q13, hq13, hm⟩ := bd_some hm
    have Tq13 : TY S_10 q13 8 := hw.wf.ref (k := 7) (j := 1) Ta0 (by decide) (by decide) hq13
    refine pg_rb (k := 7) (j := 1) (f := 701) hx hb hown hU iu7 hw Ta0 (by decide) rfl (hU _ tw209) rfl hq13 dX7_carryHours_35 ?_
    refine lv_iload_n hx hb dX7_carryHours_38 rfl (lv_at hl 2 rfl) ?_
    refine lv_iload hx hb dX7_carryHours_39 (lv_at hl 4 rfl) ?_
    refine lv_aload_n hx hb dX7_carryHours_41 rfl (lv_at hl 0 rfl) ?_
    refine lv_iload_n hx hb dX7_carryHours_42 rfl (lv_at hl 1 rfl) ?_
    refine lv_iload_n hx hb dX7_carryHours_43 rfl (lv_at hl 2 rfl) ?_
    refine lv_iload_n hx hb dX7_carryHours_44 rfl (lv_at hl 3 rfl) ?_
    refine lv_iload hx hb dX7_carryHours_45 (lv_at hl 4 rfl) ?_
    refine lv_if_ne (tgt := 54) hx hb dX7_carryHours_47 (by decide) (fun h14 => ?_) (fun h14 => ?_)
    · rw [if_neg h14] at hm
      refine lv_iconst (v := 0) hx hb dX7_carryHours_54 (by decide) ?_
      exact wb_X7_carryHours_55 cx C X S0 n r S1 q13 x2 x4 a0 x1 x2 x3 0 S_10 _ _ _ hw hE Tq13 Ta0 (lv_sub hl [] rfl) hm
    · rw [if_pos h14] at hm
      refine lv_iconst (v := 1) hx hb dX7_carryHours_50 (by decide) ?_
      refine lv_goto (tgt := 55) hx hb dX7_carryHours_51 (by decide) ?_
      exact wb_X7_carryHours_55 cx C X S0 n r S1 q13 x2 x4 a0 x1 x2 x3 1 S_10 _ _ _ hw hE Tq13 Ta0 (lv_sub hl [] rfl) hm
  · rw [if_neg h7] at hm
    refine lv_iconst (v := 0) hx hb dX7_carryHours_17 (by decide) ?_
    cases hm
    exact pw_zret hx hb hr bz_0 hlk hw hE dX7_carryHours_18
abbrev rm_X7_waterHours : Room := { frames := 2, cells := 0, slots := 0, locals := 63 }
def m_X7_waterHours (n : Nat) (a0 : Nat) (x1 : Int32) (x2 : Int32) (S0 : pq_S) : Option (Int32 × pq_S) := Option.bind (pR S0 701 a0) fun q1 => Option.bind (pR S0 800 q1) fun q2 => cb (m_X9_at n q2 x1 0 S0) fun r5 S_3 => if x2 ≤ r5 then Option.bind (pR S_3 701 a0) fun q8 => Option.bind (pR S_3 800 q8) fun q9 => Option.bind (m_X9_add n q9 x1 0 (-x2) S_3) fun S_10 => Option.bind (pR S_10 701 a0) fun q13 => Option.bind (m_X8_bring n q13 x1 1 ((2 : Int32) * x2) S_10) fun S_14 => some (1, S_14) else some (0, S_3)
theorem tc_X7_waterHours : Cond.code yX7_waterHours cX7_waterHours 3 (some .boolean) ∈ pq_U := tw916
theorem cd_X7_waterHours : yX7_waterHours.cls = RX7 ∧ yX7_waterHours.cls ≠ "java/lang/invoke/MethodHandle" ∧ yX7_waterHours.cls ≠ "java/lang/invoke/VarHandle" ∧ (parseMethodDescriptor yX7_waterHours.desc).map (fun d => d.parameters.length) = some 2 := by decide +kernel
set_option maxHeartbeats 4000000 in
set_option maxRecDepth 100000 in
theorem c_X7_waterHours (l : Launch) (C : pq_C) (X : va_W) (n : Nat) (S0 : pq_S) (hF : WF S0) (sz : Nat) (a0 : Nat) (x1 : Int32) (x2 : Int32) (Ta0 : TY S0 a0 7) (r : Int32) (S1 : pq_S) (hm : m_X7_waterHours n a0 x1 x2 S0 = some (r, S1)) : MZ l yX7_waterHours (.code yX7_waterHours cX7_waterHours 3 (some .boolean) :: pq_U) rm_X7_waterHours C X S0 sz [.ref a0, .int x1, .int x2] r S1 0 0 := by
  refine Met.ofW (cc := cX7_waterHours) (maxL := 3) (ret := (some .boolean)) (by decide) rfl ?_
  intro p e s m args below meth c s₁ B hml hv
  obtain ⟨rfl, hv⟩ := hv
  have hsz := hv.1
  subst hsz
  have hw := pw_entry hF hv
  have hts := atoms_spec (ws := .code yX7_waterHours cX7_waterHours 3 (some .boolean) :: pq_U) B.pre
  have hU : ∀ w ∈ pq_U, w.before _ s = true := fun w h => hts w (List.mem_cons_of_mem _ h)
  have hx := B.exec
  have hb := B.bytes
  have hr := B.returns
  have hown : s.vm.findClass RX7 = some m.cls := findClass_of_methodNamed B.named
  have hlk := B.notSynchronized
  have hl := lv_entry ([.ref a0, .int x1, .int x2]) (n := 3) (Nat.le_of_ble_eq_true rfl)
  rw [lg_entry_eq]
  generalize (lg_sl ([.ref a0, .int x1, .int x2]) ++ List.replicate (3 - (lg_sl ([.ref a0, .int x1, .int x2])).length) Slot.unset).toArray = ls at hl ⊢
  have hl : lv_has ls 3 [(0, .ref a0), (1, .int x1), (2, .int x2)] := hl
  have hE : Ext S0 S0 := Ext.rf _
  have cx : Cx p s m _ meth c cX7_waterHours 3 RX7 (some .boolean) := ⟨hx, hb, hml, hown, hU, hr, hlk⟩
  rw [m_X7_waterHours] at hm
  refine lv_aload_n hx hb dX7_waterHours_0 rfl (lv_at hl 0 rfl) ?_
  obtain ⟨q1, hq1, hm⟩ := bd_some hm
  have Tq1 : TY S0 q1 8 := hw.wf.ref (k := 7) (j := 1) Ta0 (by decide) (by decide) hq1
  refine pg_rb (k := 7) (j := 1) (f := 701) hx hb hown hU iu7 hw Ta0 (by decide) rfl (hU _ tw209) rfl hq1 dX7_waterHours_1 ?_
  obtain ⟨q2, hq2, hm⟩ := bd_some hm
  have Tq2 : TY S0 q2 9 := hw.wf.ref (k := 8) (j := 0) Tq1 (by decide) (by decide) hq2
  refine pgN_rb (k := 8) (j := 0) (f := 800) hx hb hown hU iu8 hw Tq1 (by decide) rfl 43 rfl rfl hq2 dX7_waterHours_4 ?_
  refine lv_iload_n hx hb dX7_waterHours_7 rfl (lv_at hl 1 rfl) ?_
  refine lv_iconst (v := 0) hx hb dX7_waterHours_8 (by decide) ?_
  obtain ⟨r5, S_3, hq4, hm⟩ := cb_some hm
  refine pw_ci (va_runVN (As := [.int x1, .int 0]) (rest := []) ⟨hx, hb, hml, hown, hU⟩ (c_X9_at l C X n S0 hw.wf _ q2 x1 0 (Tq2) r5 S_3 hq4) ⟨va_cnB (host := "WickNights") 2 hU (pq_g1 tc_X9_at) rfl rfl rfl (hw.nw 135 rfl) (hU _ tw5) cd_X9_at.2 ⟨Nat.le_of_ble_eq_true rfl, Nat.le_of_ble_eq_true rfl⟩, hU _ tw719, hU _ ts32⟩ (pw_preV hw Tq2 (by decide) rfl) rfl rfl hl.1 rfl (lv_room (Nat.le_of_ble_eq_true rfl)) dX7_waterHours_9 ⟨Nat.zero_le _, Nat.zero_le _⟩) hw (fun H locs hw hx6 => ?_)
  have Ta0 : TY S_3 a0 7 := ty_ext hx6 Ta0
  have hE : Ext S0 S_3 := Ext.tr hE hx6
  refine lv_iload_n hx hb dX7_waterHours_12 rfl (lv_at hl 2 rfl) ?_
  refine lv_icmp_ge (tgt := 18) hx hb dX7_waterHours_13 (by decide) (fun h7 => ?_) (fun h7 => ?_)
  · rw [if_pos h7] at hm
    refine lv_aload_n hx hb dX7_waterHours_18 rfl (lv_at hl 0 rfl) ?_
    obtain ⟨q8, hq8, hm⟩ := bd_some hm
    have Tq8 : TY S_3 q8 8 := hw.wf.ref (k := 7) (j := 1) Ta0 (by decide) (by decide) hq8
    refine pg_rb (k := 7) (j := 1) (f := 701) hx hb hown hU iu7 hw Ta0 (by decide) rfl (hU _ tw209) rfl hq8 dX7_waterHours_19 ?_
    obtain ⟨q9, hq9, hm⟩ := bd_some hm
    have Tq9 : TY S_3 q9 9 := hw.wf.ref (k := 8) (j := 0) Tq8 (by decide) (by decide) hq9
    refine pgN_rb (k := 8) (j := 0) (f := 800) hx hb hown hU iu8 hw Tq8 (by decide) rfl 43 rfl rfl hq9 dX7_waterHours_22 ?_
    refine lv_iload_n hx hb dX7_waterHours_25 rfl (lv_at hl 1 rfl) ?_
    refine lv_iconst (v := 0) hx hb dX7_waterHours_26 (by decide) ?_
    refine lv_iload_n hx hb dX7_waterHours_27 rfl (lv_at hl 2 rfl) ?_
    refine lv_ineg hx hb dX7_waterHours_28 ?_
    obtain ⟨S_10, hq11, hm⟩ := bd_some hm
    refine pw_cv (va_runVN (As := [.int x1, .int 0, .int (-x2)]) (rest := []) ⟨hx, hb, hml, hown, hU⟩ (c_X9_add l C X n S_3 hw.wf _ q9 x1 0 (-x2) (Tq9) S_10 hq11) ⟨va_cnB (host := "WickNights") 3 hU (pq_g1 tc_X9_add) rfl rfl rfl (hw.nw 136 rfl) (hU _ tw5) cd_X9_add.2 ⟨Nat.le_of_ble_eq_true rfl, Nat.le_of_ble_eq_true rfl⟩, hU _ tw857, hU _ ts52⟩ (pw_preV hw Tq9 (by decide) rfl) rfl rfl hl.1 rfl (lv_room (Nat.le_of_ble_eq_true rfl)) dX7_waterHours_29 ⟨Nat.zero_le _, Nat.zero_le _⟩) hw (fun H locs hw hx12 => ?_)
    have Ta0 : TY S_10 a0 7 := ty_ext hx12 Ta0
    have hE : Ext S0 S_10 := Ext.tr hE hx12
    refine lv_aload_n hx hb dX7_waterHours_32 rfl (lv_at hl 0 rfl) ?_
    obtain ⟨q13, hq13, hm⟩ := bd_some hm
    have Tq13 : TY S_10 q13 8 := hw.wf.ref (k := 7) (j := 1) Ta0 (by decide) (by decide) hq13
    refine pg_rb (k := 7) (j := 1) (f := 701) hx hb hown hU iu7 hw Ta0 (by decide) rfl (hU _ tw209) rfl hq13 dX7_waterHours_33 ?_
    refine lv_iload_n hx hb dX7_waterHours_36 rfl (lv_at hl 1 rfl) ?_
    refine lv_iconst (v := 1) hx hb dX7_waterHours_37 (by decide) ?_
    refine lv_iconst (v := 2) hx hb dX7_waterHours_38 (by decide) ?_
    refine lv_iload_n hx hb dX7_waterHours_39 rfl (lv_at hl 2 rfl) ?_
    refine lv_imul hx hb dX7_waterHours_40 ?_
    obtain ⟨S_14, hq15, hm⟩ := bd_some hm
    refine pw_cv (va_runVN (As := [.int x1, .int 1, .int ((2 : Int32) * x2)]) (rest := []) ⟨hx, hb, hml, hown, hU⟩ (c_X8_bring l C X n S_10 hw.wf _ q13 x1 1 ((2 : Int32) * x2) (Tq13) S_14 hq15) ⟨va_cnB (host := "WickNights") 3 hU (pq_g1 tc_X8_bring) rfl rfl rfl (hw.nw 141 rfl) (hU _ tw6) cd_X8_bring.2 ⟨Nat.le_of_ble_eq_true rfl, Nat.le_of_ble_eq_true rfl⟩, hU _ tw897, hU _ ts59⟩ (pw_preV hw Tq13 (by decide) rfl) rfl rfl hl.1 rfl (lv_room (Nat.le_of_ble_eq_true rfl)) dX7_waterHours_41 ⟨Nat.zero_le _, Nat.zero_le _⟩) hw (fun H locs hw hx16 => ?_)
    have Ta0 : TY S_14 a0 7 := ty_ext hx16 Ta0
    have hE : Ext S0 S_14 := Ext.tr hE hx16
    refine lv_iconst (v := 1) hx hb dX7_waterHours_44 (by decide) ?_
    cases hm
    exact pw_zret hx hb hr bz_1 hlk hw hE dX7_waterHours_45
  · rw [if_neg h7] at hm
    refine lv_iconst (v := 0) hx hb dX7_waterHours_16 (by decide) ?_
    cases hm
    exact pw_zret hx hb hr bz_0 hlk hw hE dX7_waterHours_17
abbrev rm_X7_digShafts : Room := { frames := 4, cells := 0, slots := 0, locals := 115 }
def m_X7_digShafts (n : Nat) (a0 : Nat) (x1 : Int32) (x2 : Int32) (S0 : pq_S) : Option (Int32 × pq_S) := Option.bind (pR S0 701 a0) fun q1 => Option.bind (pR S0 802 q1) fun q2 => cb (m_X9_at n q2 x1 0 S0) fun r5 S_3 => Option.bind (pR S_3 701 a0) fun q7 => cb (m_X7_isMineOpen n a0 x1 (pI S_3 803 q7) S_3) fun r10 S_8 => if r10 = 0 then some (0, S_8) else if r5 = 0 then some (0, S_8) else Option.bind (pR S_8 701 a0) fun q15 => cb (m_X7_comingOut n a0 x2 r5 (pI S_8 803 q15) S_8) fun r18 S_16 => Option.bind (pR S_16 701 a0) fun q20 => Option.bind (pR S_16 700 a0) fun q21 => Option.bind (pR (sI S_16 804 q20 ((pI S_16 804 q20) - (x2 * (pI S_16 105 q21)))) 701 a0) fun q22 => Option.bind (pR (sI S_16 804 q20 ((pI S_16 804 q20) - (x2 * (pI S_16 105 q21)))) 802 q22) fun q23 => Option.bind (m_X9_add n q23 x1 0 (-r18) (sI S_16 804 q20 ((pI S_16 804 q20) - (x2 * (pI S_16 105 q21))))) fun S_24 => Option.bind (pR S_24 701 a0) fun q27 => Option.bind (pR S_24 802 q27) fun q28 => Option.bind (m_X9_add n q28 x1 1 r18 S_24) fun S_29 => Option.bind (pR S_29 701 a0) fun q32 => Option.bind (pR S_29 700 a0) fun q33 => Option.bind (pR S_29 102 q33) fun q34 => cb (m_X9_at n q34 x1 0 S_29) fun r37 S_35 => Option.bind (m_X8_bring n q32 r37 0 r18 S_35) fun S_39 => some (1, S_39)
theorem tc_X7_digShafts : Cond.code yX7_digShafts cX7_digShafts 5 (some .boolean) ∈ pq_U := tw920
theorem cd_X7_digShafts : yX7_digShafts.cls = RX7 ∧ yX7_digShafts.cls ≠ "java/lang/invoke/MethodHandle" ∧ yX7_digShafts.cls ≠ "java/lang/invoke/VarHandle" ∧ (parseMethodDescriptor yX7_digShafts.desc).map (fun d => d.parameters.length) = some 2 := by decide +kernel
set_option maxHeartbeats 4000000 in
set_option maxRecDepth 100000 in
theorem c_X7_digShafts (l : Launch) (C : pq_C) (X : va_W) (n : Nat) (S0 : pq_S) (hF : WF S0) (sz : Nat) (a0 : Nat) (x1 : Int32) (x2 : Int32) (Ta0 : TY S0 a0 7) (r : Int32) (S1 : pq_S) (hm : m_X7_digShafts n a0 x1 x2 S0 = some (r, S1)) : MZ l yX7_digShafts (.code yX7_digShafts cX7_digShafts 5 (some .boolean) :: pq_U) rm_X7_digShafts C X S0 sz [.ref a0, .int x1, .int x2] r S1 0 0 := by
  refine Met.ofW (cc := cX7_digShafts) (maxL := 5) (ret := (some .boolean)) (by decide) rfl ?_
  intro p e s m args below meth c s₁ B hml hv
  obtain ⟨rfl, hv⟩ := hv
  have hsz := hv.1
  subst hsz
  have hw := pw_entry hF hv
  have hts := atoms_spec (ws := .code yX7_digShafts cX7_digShafts 5 (some .boolean) :: pq_U) B.pre
  have hU : ∀ w ∈ pq_U, w.before _ s = true := fun w h => hts w (List.mem_cons_of_mem _ h)
  have hx := B.exec
  have hb := B.bytes
  have hr := B.returns
  have hown : s.vm.findClass RX7 = some m.cls := findClass_of_methodNamed B.named
  have hlk := B.notSynchronized
  have hl := lv_entry ([.ref a0, .int x1, .int x2]) (n := 5) (Nat.le_of_ble_eq_true rfl)
  rw [lg_entry_eq]
  generalize (lg_sl ([.ref a0, .int x1, .int x2]) ++ List.replicate (5 - (lg_sl ([.ref a0, .int x1, .int x2])).length) Slot.unset).toArray = ls at hl ⊢
  have hl : lv_has ls 5 [(0, .ref a0), (1, .int x1), (2, .int x2)] := hl
  have hE : Ext S0 S0 := Ext.rf _
  have cx : Cx p s m _ meth c cX7_digShafts 5 RX7 (some .boolean) := ⟨hx, hb, hml, hown, hU, hr, hlk⟩
  rw [m_X7_digShafts] at hm
  refine lv_aload_n hx hb dX7_digShafts_0 rfl (lv_at hl 0 rfl) ?_
  obtain ⟨q1, hq1, hm⟩ := bd_some hm
  have Tq1 : TY S0 q1 8 := hw.wf.ref (k := 7) (j := 1) Ta0 (by decide) (by decide) hq1
  refine pg_rb (k := 7) (j := 1) (f := 701) hx hb hown hU iu7 hw Ta0 (by decide) rfl (hU _ tw209) rfl hq1 dX7_digShafts_1 ?_
  obtain ⟨q2, hq2, hm⟩ := bd_some hm
  have Tq2 : TY S0 q2 9 := hw.wf.ref (k := 8) (j := 2) Tq1 (by decide) (by decide) hq2
  refine pgN_rb (k := 8) (j := 2) (f := 802) hx hb hown hU iu8 hw Tq1 (by decide) rfl 48 rfl rfl hq2 dX7_digShafts_4 ?_
  refine lv_iload_n hx hb dX7_digShafts_7 rfl (lv_at hl 1 rfl) ?_
  refine lv_iconst (v := 0) hx hb dX7_digShafts_8 (by decide) ?_
  obtain ⟨r5, S_3, hq4, hm⟩ := cb_some hm
  refine pw_ci (va_runVN (As := [.int x1, .int 0]) (rest := []) ⟨hx, hb, hml, hown, hU⟩ (c_X9_at l C X n S0 hw.wf _ q2 x1 0 (Tq2) r5 S_3 hq4) ⟨va_cnB (host := "WickNights") 2 hU (pq_g1 tc_X9_at) rfl rfl rfl (hw.nw 135 rfl) (hU _ tw5) cd_X9_at.2 ⟨Nat.le_of_ble_eq_true rfl, Nat.le_of_ble_eq_true rfl⟩, hU _ tw719, hU _ ts32⟩ (pw_preV hw Tq2 (by decide) rfl) rfl rfl hl.1 rfl (lv_room (Nat.le_of_ble_eq_true rfl)) dX7_digShafts_9 ⟨Nat.zero_le _, Nat.zero_le _⟩) hw (fun H locs hw hx6 => ?_)
  have Ta0 : TY S_3 a0 7 := ty_ext hx6 Ta0
  have hE : Ext S0 S_3 := Ext.tr hE hx6
  refine lv_istore_n (lv' := [(3, .int r5), (0, .ref a0), (1, .int x1), (2, .int x2)]) hx hb dX7_digShafts_12 rfl hl (by decide) rfl (fun ls hl => ?_)
  refine lv_aload_n hx hb dX7_digShafts_13 rfl (lv_at hl 1 rfl) ?_
  refine lv_iload_n hx hb dX7_digShafts_14 rfl (lv_at hl 2 rfl) ?_
  refine lv_aload_n hx hb dX7_digShafts_15 rfl (lv_at hl 1 rfl) ?_
  obtain ⟨q7, hq7, hm⟩ := bd_some hm
  have Tq7 : TY S_3 q7 8 := hw.wf.ref (k := 7) (j := 1) Ta0 (by decide) (by decide) hq7
  refine pg_rb (k := 7) (j := 1) (f := 701) hx hb hown hU iu7 hw Ta0 (by decide) rfl (hU _ tw209) rfl hq7 dX7_digShafts_16 ?_
  refine pgN_i (k := 8) (j := 3) (f := 803) hx hb hown hU iu8 hw Tq7 (by decide) rfl 49 rfl rfl dX7_digShafts_19 ?_
  obtain ⟨r10, S_8, hq9, hm⟩ := cb_some hm
  refine pw_cz (va_runV (As := [.int x1, .int (pI S_3 803 q7)]) (rest := []) ⟨hx, hb, hml, hown, hU⟩ (c_X7_isMineOpen l C X n S_3 hw.wf _ a0 x1 (pI S_3 803 q7) (Ta0) r10 S_8 hq9) (cwV 2 hU (pq_gV tw921 tw923 ts65 tw3 tc_X7_isMineOpen) rfl rfl rfl cd_X7_isMineOpen ⟨Nat.le_of_ble_eq_true rfl, Nat.le_of_ble_eq_true rfl⟩) (pw_preV hw Ta0 (by decide) rfl) rfl rfl hl.1 rfl (lv_room (Nat.le_of_ble_eq_true rfl)) dX7_digShafts_22 ⟨Nat.zero_le _, Nat.zero_le _⟩) hw (fun H locs hw hx11 hz12 => ?_)
  have Ta0 : TY S_8 a0 7 := ty_ext hx11 Ta0
  have hE : Ext S0 S_8 := Ext.tr hE hx11
  refine lv_if_eq (tgt := 32) hx hb dX7_digShafts_25 (by decide) (fun h13 => ?_) (fun h13 => ?_)
  · rw [if_pos h13] at hm
    refine lv_iconst (v := 0) hx hb dX7_digShafts_32 (by decide) ?_
    cases hm
    exact pw_zret hx hb hr bz_0 hlk hw hE dX7_digShafts_33
  · rw [if_neg h13] at hm
    refine lv_iload_n hx hb dX7_digShafts_28 rfl (lv_at hl 0 rfl) ?_
    refine lv_if_ne (tgt := 34) hx hb dX7_digShafts_29 (by decide) (fun h14 => ?_) (fun h14 => ?_)
    · rw [if_neg h14] at hm
      refine lv_aload_n hx hb dX7_digShafts_34 rfl (lv_at hl 1 rfl) ?_
      refine lv_iload_n hx hb dX7_digShafts_35 rfl (lv_at hl 3 rfl) ?_
      refine lv_iload_n hx hb dX7_digShafts_36 rfl (lv_at hl 0 rfl) ?_
      refine lv_aload_n hx hb dX7_digShafts_37 rfl (lv_at hl 1 rfl) ?_
      obtain ⟨q15, hq15, hm⟩ := bd_some hm
      have Tq15 : TY S_8 q15 8 := hw.wf.ref (k := 7) (j := 1) Ta0 (by decide) (by decide) hq15
      refine pg_rb (k := 7) (j := 1) (f := 701) hx hb hown hU iu7 hw Ta0 (by decide) rfl (hU _ tw209) rfl hq15 dX7_digShafts_38 ?_
      refine pgN_i (k := 8) (j := 3) (f := 803) hx hb hown hU iu8 hw Tq15 (by decide) rfl 49 rfl rfl dX7_digShafts_41 ?_
      obtain ⟨r18, S_16, hq17, hm⟩ := cb_some hm
      refine pw_ci (va_runV (As := [.int x2, .int r5, .int (pI S_8 803 q15)]) (rest := []) ⟨hx, hb, hml, hown, hU⟩ (c_X7_comingOut l C X n S_8 hw.wf _ a0 x2 r5 (pI S_8 803 q15) (Ta0) r18 S_16 hq17) (cwV 3 hU (pq_gV tw925 tw927 ts66 tw3 tc_X7_comingOut) rfl rfl rfl cd_X7_comingOut ⟨Nat.le_of_ble_eq_true rfl, Nat.le_of_ble_eq_true rfl⟩) (pw_preV hw Ta0 (by decide) rfl) rfl rfl hl.1 rfl (lv_room (Nat.le_of_ble_eq_true rfl)) dX7_digShafts_44 ⟨Nat.zero_le _, Nat.zero_le _⟩) hw (fun H locs hw hx19 => ?_)
      have Ta0 : TY S_16 a0 7 := ty_ext hx19 Ta0
      have hE : Ext S0 S_16 := Ext.tr hE hx19
      refine lv_istore (lv' := [(4, .int r18), (3, .int r5), (0, .ref a0), (1, .int x1), (2, .int x2)]) hx hb dX7_digShafts_47 hl (by decide) rfl (fun ls hl => ?_)
      refine lv_aload_n hx hb dX7_digShafts_49 rfl (lv_at hl 2 rfl) ?_
      obtain ⟨q20, hq20, hm⟩ := bd_some hm
      have Tq20 : TY S_16 q20 8 := hw.wf.ref (k := 7) (j := 1) Ta0 (by decide) (by decide) hq20
      refine pg_rb (k := 7) (j := 1) (f := 701) hx hb hown hU iu7 hw Ta0 (by decide) rfl (hU _ tw209) rfl hq20 dX7_digShafts_50 ?_
      refine lv_dup hx hb dX7_digShafts_53 rfl ?_
      refine pgN_i (k := 8) (j := 4) (f := 804) hx hb hown hU iu8 hw Tq20 (by decide) rfl 52 rfl rfl dX7_digShafts_54 ?_
      refine lv_iload_n hx hb dX7_digShafts_57 rfl (lv_at hl 4 rfl) ?_
      refine lv_aload_n hx hb dX7_digShafts_58 rfl (lv_at hl 2 rfl) ?_
      obtain ⟨q21, hq21, hm⟩ := bd_some hm
      have Tq21 : TY S_16 q21 1 := hw.wf.ref (k := 7) (j := 0) Ta0 (by decide) (by decide) hq21
      refine pg_rb (k := 7) (j := 0) (f := 700) hx hb hown hU iu7 hw Ta0 (by decide) rfl (hU _ tw205) rfl hq21 dX7_digShafts_59 ?_
      refine pgN_i (k := 1) (j := 5) (f := 105) hx hb hown hU iu1 hw Tq21 (by decide) rfl 39 rfl rfl dX7_digShafts_62 ?_
      refine lv_imul hx hb dX7_digShafts_65 ?_
      refine lv_isub hx hb dX7_digShafts_66 ?_
      refine ppN_i (k := 8) (j := 4) (f := 804) hx hb hown hU iu8 tyX8_ok nmX8 hw Tq20 (by decide) rfl 52 rfl rfl rfl rfl dX7_digShafts_67 (fun H locs hw => ?_)
      refine lv_aload_n hx hb dX7_digShafts_70 rfl (lv_at hl 2 rfl) ?_
      obtain ⟨q22, hq22, hm⟩ := bd_some hm
      have Tq22 : TY (sI S_16 804 q20 ((pI S_16 804 q20) - (x2 * (pI S_16 105 q21)))) q22 8 := hw.wf.ref (k := 7) (j := 1) Ta0 (by decide) (by decide) hq22
      refine pg_rb (k := 7) (j := 1) (f := 701) hx hb hown hU iu7 hw Ta0 (by decide) rfl (hU _ tw209) rfl hq22 dX7_digShafts_71 ?_
      obtain ⟨q23, hq23, hm⟩ := bd_some hm
      have Tq23 : TY (sI S_16 804 q20 ((pI S_16 804 q20) - (x2 * (pI S_16 105 q21)))) q23 9 := hw.wf.ref (k := 8) (j := 2) Tq22 (by decide) (by decide) hq23
      refine pgN_rb (k := 8) (j := 2) (f := 802) hx hb hown hU iu8 hw Tq22 (by decide) rfl 48 rfl rfl hq23 dX7_digShafts_74 ?_
      refine lv_iload_n hx hb dX7_digShafts_77 rfl (lv_at hl 3 rfl) ?_
      refine lv_iconst (v := 0) hx hb dX7_digShafts_78 (by decide) ?_
      refine lv_iload hx hb dX7_digShafts_79 (lv_at hl 0 rfl) ?_
      refine lv_ineg hx hb dX7_digShafts_81 ?_
      obtain ⟨S_24, hq25, hm⟩ := bd_some hm
      refine pw_cv (va_runVN (As := [.int x1, .int 0, .int (-r18)]) (rest := []) ⟨hx, hb, hml, hown, hU⟩ (c_X9_add l C X n (sI S_16 804 q20 ((pI S_16 804 q20) - (x2 * (pI S_16 105 q21)))) hw.wf _ q23 x1 0 (-r18) (Tq23) S_24 hq25) ⟨va_cnB (host := "WickNights") 3 hU (pq_g1 tc_X9_add) rfl rfl rfl (hw.nw 136 rfl) (hU _ tw5) cd_X9_add.2 ⟨Nat.le_of_ble_eq_true rfl, Nat.le_of_ble_eq_true rfl⟩, hU _ tw857, hU _ ts52⟩ (pw_preV hw Tq23 (by decide) rfl) rfl rfl hl.1 rfl (lv_room (Nat.le_of_ble_eq_true rfl)) dX7_digShafts_82 ⟨Nat.zero_le _, Nat.zero_le _⟩) hw (fun H locs hw hx26 => ?_)
      have Ta0 : TY S_24 a0 7 := ty_ext hx26 Ta0
      have hE : Ext S0 S_24 := Ext.tr hE hx26
      refine lv_aload_n hx hb dX7_digShafts_85 rfl (lv_at hl 2 rfl) ?_
      obtain ⟨q27, hq27, hm⟩ := bd_some hm
      have Tq27 : TY S_24 q27 8 := hw.wf.ref (k := 7) (j := 1) Ta0 (by decide) (by decide) hq27
      refine pg_rb (k := 7) (j := 1) (f := 701) hx hb hown hU iu7 hw Ta0 (by decide) rfl (hU _ tw209) rfl hq27 dX7_digShafts_86 ?_
      obtain ⟨q28, hq28, hm⟩ := bd_some hm
      have Tq28 : TY S_24 q28 9 := hw.wf.ref (k := 8) (j := 2) Tq27 (by decide) (by decide) hq28
      refine pgN_rb (k := 8) (j := 2) (f := 802) hx hb hown hU iu8 hw Tq27 (by decide) rfl 48 rfl rfl hq28 dX7_digShafts_89 ?_
      refine lv_iload_n hx hb dX7_digShafts_92 rfl (lv_at hl 3 rfl) ?_
      refine lv_iconst (v := 1) hx hb dX7_digShafts_93 (by decide) ?_
      refine lv_iload hx hb dX7_digShafts_94 (lv_at hl 0 rfl) ?_
      obtain ⟨S_29, hq30, hm⟩ := bd_some hm
      refine pw_cv (va_runVN (As := [.int x1, .int 1, .int r18]) (rest := []) ⟨hx, hb, hml, hown, hU⟩ (c_X9_add l C X n S_24 hw.wf _ q28 x1 1 r18 (Tq28) S_29 hq30) ⟨va_cnB (host := "WickNights") 3 hU (pq_g1 tc_X9_add) rfl rfl rfl (hw.nw 136 rfl) (hU _ tw5) cd_X9_add.2 ⟨Nat.le_of_ble_eq_true rfl, Nat.le_of_ble_eq_true rfl⟩, hU _ tw857, hU _ ts52⟩ (pw_preV hw Tq28 (by decide) rfl) rfl rfl hl.1 rfl (lv_room (Nat.le_of_ble_eq_true rfl)) dX7_digShafts_96 ⟨Nat.zero_le _, Nat.zero_le _⟩) hw (fun H locs hw hx31 => ?_)
      have Ta0 : TY S_29 a0 7 := ty_ext hx31 Ta0
      have hE : Ext S0 S_29 := Ext.tr hE hx31
      refine lv_aload_n hx hb dX7_digShafts_99 rfl (lv_at hl 2 rfl) ?_
      obtain ⟨q32, hq32, hm⟩ := bd_some hm
      have Tq32 : TY S_29 q32 8 := hw.wf.ref (k := 7) (j := 1) Ta0 (by decide) (by decide) hq32
      refine pg_rb (k := 7) (j := 1) (f := 701) hx hb hown hU iu7 hw Ta0 (by decide) rfl (hU _ tw209) rfl hq32 dX7_digShafts_100 ?_
      refine lv_aload_n hx hb dX7_digShafts_103 rfl (lv_at hl 2 rfl) ?_
      obtain ⟨q33, hq33, hm⟩ := bd_some hm
      have Tq33 : TY S_29 q33 1 := hw.wf.ref (k := 7) (j := 0) Ta0 (by decide) (by decide) hq33
      refine pg_rb (k := 7) (j := 0) (f := 700) hx hb hown hU iu7 hw Ta0 (by decide) rfl (hU _ tw205) rfl hq33 dX7_digShafts_104 ?_
      obtain ⟨q34, hq34, hm⟩ := bd_some hm
      have Tq34 : TY S_29 q34 9 := hw.wf.ref (k := 1) (j := 2) Tq33 (by decide) (by decide) hq34
      refine pgN_rb (k := 1) (j := 2) (f := 102) hx hb hown hU iu1 hw Tq33 (by decide) rfl 35 rfl rfl hq34 dX7_digShafts_107 ?_
      refine lv_iload_n hx hb dX7_digShafts_110 rfl (lv_at hl 3 rfl) ?_
      refine lv_iconst (v := 0) hx hb dX7_digShafts_111 (by decide) ?_
      obtain ⟨r37, S_35, hq36, hm⟩ := cb_some hm
      refine pw_ci (va_runVN (As := [.int x1, .int 0]) (rest := [.ref q32]) ⟨hx, hb, hml, hown, hU⟩ (c_X9_at l C X n S_29 hw.wf _ q34 x1 0 (Tq34) r37 S_35 hq36) ⟨va_cnB (host := "WickNights") 2 hU (pq_g1 tc_X9_at) rfl rfl rfl (hw.nw 135 rfl) (hU _ tw5) cd_X9_at.2 ⟨Nat.le_of_ble_eq_true rfl, Nat.le_of_ble_eq_true rfl⟩, hU _ tw719, hU _ ts32⟩ (pw_preV hw Tq34 (by decide) rfl) rfl rfl hl.1 rfl (lv_room (Nat.le_of_ble_eq_true rfl)) dX7_digShafts_112 ⟨Nat.zero_le _, Nat.zero_le _⟩) hw (fun H locs hw hx38 => ?_)
      have Tq32 : TY S_35 q32 8 := ty_ext hx38 Tq32
      have Ta0 : TY S_35 a0 7 := ty_ext hx38 Ta0
      have hE : Ext S0 S_35 := Ext.tr hE hx38
      refine lv_iconst (v := 0) hx hb dX7_digShafts_115 (by decide) ?_
      refine lv_iload hx hb dX7_digShafts_116 (lv_at hl 0 rfl) ?_
      obtain ⟨S_39, hq40, hm⟩ := bd_some hm
      refine pw_cv (va_runVN (As := [.int r37, .int 0, .int r18]) (rest := []) ⟨hx, hb, hml, hown, hU⟩ (c_X8_bring l C X n S_35 hw.wf _ q32 r37 0 r18 (Tq32) S_39 hq40) ⟨va_cnB (host := "WickNights") 3 hU (pq_g1 tc_X8_bring) rfl rfl rfl (hw.nw 141 rfl) (hU _ tw6) cd_X8_bring.2 ⟨Nat.le_of_ble_eq_true rfl, Nat.le_of_ble_eq_true rfl⟩, hU _ tw897, hU _ ts59⟩ (pw_preV hw Tq32 (by decide) rfl) rfl rfl hl.1 rfl (lv_room (Nat.le_of_ble_eq_true rfl)) dX7_digShafts_118 ⟨Nat.zero_le _, Nat.zero_le _⟩) hw (fun H locs hw hx41 => ?_)
      have Ta0 : TY S_39 a0 7 := ty_ext hx41 Ta0
      have hE : Ext S0 S_39 := Ext.tr hE hx41
      refine lv_iconst (v := 1) hx hb dX7_digShafts_121 (by decide) ?_
      cases hm
      exact pw_zret hx hb hr bz_1 hlk hw hE dX7_digShafts_122
    · rw [if_pos h14] at hm
      refine lv_iconst (v := 0) hx hb dX7_digShafts_32 (by decide) ?_
      cases hm
      exact pw_zret hx hb hr bz_0 hlk hw hE dX7_digShafts_33
abbrev rm_X7_passMonth : Room := { frames := 3, cells := 0, slots := 0, locals := 87 }
def b_X7_passMonth_34 (n : Nat) (a0 : Nat) (S : pq_S) : Option pq_S := Option.bind (pR S 701 a0) fun q10 => Option.bind (m_X8_openWants n q10 S) fun S_11 => Option.bind (pR S_11 701 a0) fun q14 => some (sI S_11 803 q14 ((pI S_11 803 q14) + (1 : Int32)))
set_option maxHeartbeats 4000000 in
set_option maxRecDepth 100000 in
theorem wb_X7_passMonth_34 {p : Program} {l : Launch} {e : Env} {s : State} {m : MethodId} {args : Array Value} {below : List Frame} {meth : Method} {c : Code} (cx : Cx p s m args meth c cX7_passMonth 2 RX7 none) (C : pq_C) (X : va_W) (S0 : pq_S) (n : Nat) (S1 : pq_S) : ∀ (a0 : Nat) (S : pq_S) (H : Heap) (locs : List Loc) (ls : Array Slot), PW C X S (pq_F C X S0 s.heap.size) H locs s → Ext S0 S → TY S a0 7 → lv_has ls 2 [(0, .ref a0)] → b_X7_passMonth_34 n a0 S = some S1 → W p l e rm_X7_passMonth s m args below meth c H locs 0 0 (MQ below (QcV C X S0 s.heap.size S1) args s 0 0 (pq_F C X S0 s.heap.size)) (F0 m 34 ls []) := by
  obtain ⟨hx, hb, hml, hown, hU, hr, hlk⟩ := id cx
  intro a0 S H locs ls hw hE Ta0 hl hm
  rw [b_X7_passMonth_34] at hm
  refine lv_aload_n hx hb dX7_passMonth_34 rfl (lv_at hl 0 rfl) ?_
  obtain ⟨q10, hq10, hm⟩ := bd_some hm
  have Tq10 : TY S q10 8 := hw.wf.ref (k := 7) (j := 1) Ta0 (by decide) (by decide) hq10
  refine pg_rb (k := 7) (j := 1) (f := 701) hx hb hown hU iu7 hw Ta0 (by decide) rfl (hU _ tw209) rfl hq10 dX7_passMonth_35 ?_
  obtain ⟨S_11, hq12, hm⟩ := bd_some hm
  refine pw_cv (va_runVN (As := []) (rest := []) ⟨hx, hb, hml, hown, hU⟩ (c_X8_openWants l C X n S hw.wf _ q10 (Tq10) S_11 hq12) ⟨va_cnB (host := "WickNights") 0 hU (pq_g1 tc_X8_openWants) rfl rfl rfl (hw.nw 147 rfl) (hU _ tw6) cd_X8_openWants.2 ⟨Nat.le_of_ble_eq_true rfl, Nat.le_of_ble_eq_true rfl⟩, hU _ tw724, hU _ ts33⟩ (pw_preV hw Tq10 (by decide) rfl) rfl rfl hl.1 rfl (lv_room (Nat.le_of_ble_eq_true rfl)) dX7_passMonth_38 ⟨Nat.zero_le _, Nat.zero_le _⟩) hw (fun H locs hw hx13 => ?_)
  have Ta0 : TY S_11 a0 7 := ty_ext hx13 Ta0
  have hE : Ext S0 S_11 := Ext.tr hE hx13
  refine lv_aload_n hx hb dX7_passMonth_41 rfl (lv_at hl 0 rfl) ?_
  obtain ⟨q14, hq14, hm⟩ := bd_some hm
  have Tq14 : TY S_11 q14 8 := hw.wf.ref (k := 7) (j := 1) Ta0 (by decide) (by decide) hq14
  refine pg_rb (k := 7) (j := 1) (f := 701) hx hb hown hU iu7 hw Ta0 (by decide) rfl (hU _ tw209) rfl hq14 dX7_passMonth_42 ?_
  refine lv_dup hx hb dX7_passMonth_45 rfl ?_
  refine pgN_i (k := 8) (j := 3) (f := 803) hx hb hown hU iu8 hw Tq14 (by decide) rfl 49 rfl rfl dX7_passMonth_46 ?_
  refine lv_iconst (v := 1) hx hb dX7_passMonth_49 (by decide) ?_
  refine lv_iadd hx hb dX7_passMonth_50 ?_
  refine ppN_i (k := 8) (j := 3) (f := 803) hx hb hown hU iu8 tyX8_ok nmX8 hw Tq14 (by decide) rfl 49 rfl rfl rfl rfl dX7_passMonth_51 (fun H locs hw => ?_)
  cases hm
  exact pw_vret hx hb hr hlk hw hE dX7_passMonth_54
def b_X7_passMonth_2 (n : Nat) : Nat → Nat → Int32 → pq_S → Option pq_S
  | 0, _, _, _ => none
  | f + 1, a0, x1, S => Option.bind (pR S 701 a0) fun q1 => Option.bind (pR S 800 q1) fun q2 => if (pI S 902 q2) ≤ x1 then b_X7_passMonth_34 n a0 S else Option.bind (m_X7_passMonthFor n a0 x1 0 S) fun S_4 => Option.bind (m_X7_passMonthFor n a0 x1 1 S_4) fun S_7 => b_X7_passMonth_2 n f a0 (x1 + 1) S_7
set_option maxHeartbeats 4000000 in
set_option maxRecDepth 100000 in
theorem wb_X7_passMonth_2 {p : Program} {l : Launch} {e : Env} {s : State} {m : MethodId} {args : Array Value} {below : List Frame} {meth : Method} {c : Code} (cx : Cx p s m args meth c cX7_passMonth 2 RX7 none) (C : pq_C) (X : va_W) (S0 : pq_S) (n : Nat) (S1 : pq_S) : ∀ (f : Nat) (a0 : Nat) (x1 : Int32) (S : pq_S) (H : Heap) (locs : List Loc) (ls : Array Slot), PW C X S (pq_F C X S0 s.heap.size) H locs s → Ext S0 S → TY S a0 7 → lv_has ls 2 [(0, .ref a0), (1, .int x1)] → b_X7_passMonth_2 n f a0 x1 S = some S1 → W p l e rm_X7_passMonth s m args below meth c H locs 0 0 (MQ below (QcV C X S0 s.heap.size S1) args s 0 0 (pq_F C X S0 s.heap.size)) (F0 m 2 ls []) := by
  obtain ⟨hx, hb, hml, hown, hU, hr, hlk⟩ := id cx
  intro f
  induction f with
  | zero =>
    intro a0 x1 S H locs ls hw hE Ta0 hl hm
    cases hm
  | succ f ih =>
    intro a0 x1 S H locs ls hw hE Ta0 hl hm
    rw [b_X7_passMonth_2] at hm
    refine lv_iload_n hx hb dX7_passMonth_2 rfl (lv_at hl 1 rfl) ?_
    refine lv_aload_n hx hb dX7_passMonth_3 rfl (lv_at hl 0 rfl) ?_
    obtain ⟨q1, hq1, hm⟩ := bd_some hm
    have Tq1 : TY S q1 8 := hw.wf.ref (k := 7) (j := 1) Ta0 (by decide) (by decide) hq1
    refine pg_rb (k := 7) (j := 1) (f := 701) hx hb hown hU iu7 hw Ta0 (by decide) rfl (hU _ tw209) rfl hq1 dX7_passMonth_4 ?_
    obtain ⟨q2, hq2, hm⟩ := bd_some hm
    have Tq2 : TY S q2 9 := hw.wf.ref (k := 8) (j := 0) Tq1 (by decide) (by decide) hq2
    refine pgN_rb (k := 8) (j := 0) (f := 800) hx hb hown hU iu8 hw Tq1 (by decide) rfl 43 rfl rfl hq2 dX7_passMonth_7 ?_
    refine pgN_i (k := 9) (j := 2) (f := 902) hx hb hown hU iu9 hw Tq2 (by decide) rfl 20 rfl rfl dX7_passMonth_10 ?_
    refine lv_icmp_ge (tgt := 34) hx hb dX7_passMonth_13 (by decide) (fun h3 => ?_) (fun h3 => ?_)
    · rw [if_pos h3] at hm
      exact wb_X7_passMonth_34 cx C X S0 n S1 a0 S _ _ _ hw hE Ta0 (lv_sub hl [0] rfl) hm
    · rw [if_neg h3] at hm
      refine lv_aload_n hx hb dX7_passMonth_16 rfl (lv_at hl 0 rfl) ?_
      refine lv_iload_n hx hb dX7_passMonth_17 rfl (lv_at hl 1 rfl) ?_
      refine lv_iconst (v := 0) hx hb dX7_passMonth_18 (by decide) ?_
      obtain ⟨S_4, hq5, hm⟩ := bd_some hm
      refine pw_cv (va_runV (As := [.int x1, .int 0]) (rest := []) ⟨hx, hb, hml, hown, hU⟩ (c_X7_passMonthFor l C X n S hw.wf _ a0 x1 0 (Ta0) S_4 hq5) (cwV 2 hU (pq_gV tw933 tw935 ts68 tw3 tc_X7_passMonthFor) rfl rfl rfl cd_X7_passMonthFor ⟨Nat.le_of_ble_eq_true rfl, Nat.le_of_ble_eq_true rfl⟩) (pw_preV hw Ta0 (by decide) rfl) rfl rfl hl.1 rfl (lv_room (Nat.le_of_ble_eq_true rfl)) dX7_passMonth_19 ⟨Nat.zero_le _, Nat.zero_le _⟩) hw (fun H locs hw hx6 => ?_)
      have Ta0 : TY S_4 a0 7 := ty_ext hx6 Ta0
      have hE : Ext S0 S_4 := Ext.tr hE hx6
      refine lv_aload_n hx hb dX7_passMonth_22 rfl (lv_at hl 0 rfl) ?_
      refine lv_iload_n hx hb dX7_passMonth_23 rfl (lv_at hl 1 rfl) ?_
      refine lv_iconst (v := 1) hx hb dX7_passMonth_24 (by decide) ?_
      obtain ⟨S_7, hq8, hm⟩ := bd_some hm
      refine pw_cv (va_runV (As := [.int x1, .int 1]) (rest := []) ⟨hx, hb, hml, hown, hU⟩ (c_X7_passMonthFor l C X n S_4 hw.wf _ a0 x1 1 (Ta0) S_7 hq8) (cwV 2 hU (pq_gV tw933 tw935 ts68 tw3 tc_X7_passMonthFor) rfl rfl rfl cd_X7_passMonthFor ⟨Nat.le_of_ble_eq_true rfl, Nat.le_of_ble_eq_true rfl⟩) (pw_preV hw Ta0 (by decide) rfl) rfl rfl hl.1 rfl (lv_room (Nat.le_of_ble_eq_true rfl)) dX7_passMonth_25 ⟨Nat.zero_le _, Nat.zero_le _⟩) hw (fun H locs hw hx9 => ?_)
      have Ta0 : TY S_7 a0 7 := ty_ext hx9 Ta0
      have hE : Ext S0 S_7 := Ext.tr hE hx9
      refine lv_iinc (v := (x1 + 1)) (lv' := [(1, .int (x1 + 1)), (0, .ref a0)]) hx hb dX7_passMonth_28 hl (k := 1) rfl rfl (by decide) rfl (fun ls hl => ?_)
      refine lv_goto (tgt := 2) hx hb dX7_passMonth_31 (by decide) ?_
      exact ih a0 (x1 + 1) S_7 _ _ _ hw hE Ta0 (lv_sub hl [1, 0] rfl) hm
def m_X7_passMonth (n : Nat) (a0 : Nat) (S0 : pq_S) : Option pq_S := b_X7_passMonth_2 n n a0 0 S0
theorem tc_X7_passMonth : Cond.code yX7_passMonth cX7_passMonth 2 none ∈ pq_U := tw932
theorem cd_X7_passMonth : yX7_passMonth.cls = RX7 ∧ yX7_passMonth.cls ≠ "java/lang/invoke/MethodHandle" ∧ yX7_passMonth.cls ≠ "java/lang/invoke/VarHandle" ∧ (parseMethodDescriptor yX7_passMonth.desc).map (fun d => d.parameters.length) = some 0 := by decide +kernel
set_option maxHeartbeats 4000000 in
set_option maxRecDepth 100000 in
theorem c_X7_passMonth (l : Launch) (C : pq_C) (X : va_W) (n : Nat) (S0 : pq_S) (hF : WF S0) (sz : Nat) (a0 : Nat) (Ta0 : TY S0 a0 7) (S1 : pq_S) (hm : m_X7_passMonth n a0 S0 = some S1) : MV l yX7_passMonth (.code yX7_passMonth cX7_passMonth 2 none :: pq_U) rm_X7_passMonth C X S0 sz [.ref a0] S1 0 0 := by
  refine Met.ofW (cc := cX7_passMonth) (maxL := 2) (ret := none) (by decide) rfl ?_
  intro p e s m args below meth c s₁ B hml hv
  obtain ⟨rfl, hv⟩ := hv
  have hsz := hv.1
  subst hsz
  have hw := pw_entry hF hv
  have hts := atoms_spec (ws := .code yX7_passMonth cX7_passMonth 2 none :: pq_U) B.pre
  have hU : ∀ w ∈ pq_U, w.before _ s = true := fun w h => hts w (List.mem_cons_of_mem _ h)
  have hx := B.exec
  have hb := B.bytes
  have hr := B.returns
  have hown : s.vm.findClass RX7 = some m.cls := findClass_of_methodNamed B.named
  have hlk := B.notSynchronized
  have hl := lv_entry ([.ref a0]) (n := 2) (Nat.le_of_ble_eq_true rfl)
  rw [lg_entry_eq]
  generalize (lg_sl ([.ref a0]) ++ List.replicate (2 - (lg_sl ([.ref a0])).length) Slot.unset).toArray = ls at hl ⊢
  have hl : lv_has ls 2 [(0, .ref a0)] := hl
  have hE : Ext S0 S0 := Ext.rf _
  have cx : Cx p s m _ meth c cX7_passMonth 2 RX7 none := ⟨hx, hb, hml, hown, hU, hr, hlk⟩
  rw [m_X7_passMonth] at hm
  refine lv_iconst (v := 0) hx hb dX7_passMonth_0 (by decide) ?_
  refine lv_istore_n (lv' := [(1, .int 0), (0, .ref a0)]) hx hb dX7_passMonth_1 rfl hl (by decide) rfl (fun ls hl => ?_)
  exact wb_X7_passMonth_2 cx C X S0 n S1 n a0 0 S0 _ _ _ hw hE Ta0 (lv_sub hl [1, 0] rfl) hm
abbrev rm_X7_findShafts : Room := { frames := 69, cells := 0, slots := 0, locals := 2130 }
def m_X7_findShafts (n : Nat) (a0 : Nat) (x1 : Int32) (x2 : Int32) (x3 : Int32) (S0 : pq_S) : Option pq_S := Option.bind (pR (sI (sI S0 704 a0 (-1)) 705 a0 0) 701 a0) fun q1 => Option.bind (pR (sI (sI S0 704 a0 (-1)) 705 a0 0) 802 q1) fun q2 => cb (m_X9_at n q2 x1 0 (sI (sI S0 704 a0 (-1)) 705 a0 0)) fun r5 S_3 => Option.bind (m_X7_tryShafts n a0 x1 x2 x3 0 r5 0 0 S_3) fun S_7 => some S_7
theorem tc_X7_findShafts : Cond.code yX7_findShafts cX7_findShafts 4 none ∈ pq_U := tw1318
theorem cd_X7_findShafts : yX7_findShafts.cls = RX7 ∧ yX7_findShafts.cls ≠ "java/lang/invoke/MethodHandle" ∧ yX7_findShafts.cls ≠ "java/lang/invoke/VarHandle" ∧ (parseMethodDescriptor yX7_findShafts.desc).map (fun d => d.parameters.length) = some 3 := by decide +kernel
set_option maxHeartbeats 4000000 in
set_option maxRecDepth 100000 in
theorem c_X7_findShafts (l : Launch) (C : pq_C) (X : va_W) (n : Nat) (S0 : pq_S) (hF : WF S0) (sz : Nat) (a0 : Nat) (x1 : Int32) (x2 : Int32) (x3 : Int32) (Ta0 : TY S0 a0 7) (S1 : pq_S) (hm : m_X7_findShafts n a0 x1 x2 x3 S0 = some S1) : MV l yX7_findShafts (.code yX7_findShafts cX7_findShafts 4 none :: pq_U) rm_X7_findShafts C X S0 sz [.ref a0, .int x1, .int x2, .int x3] S1 0 0 := by
  refine Met.ofW (cc := cX7_findShafts) (maxL := 4) (ret := none) (by decide) rfl ?_
  intro p e s m args below meth c s₁ B hml hv
  obtain ⟨rfl, hv⟩ := hv
  have hsz := hv.1
  subst hsz
  have hw := pw_entry hF hv
  have hts := atoms_spec (ws := .code yX7_findShafts cX7_findShafts 4 none :: pq_U) B.pre
  have hU : ∀ w ∈ pq_U, w.before _ s = true := fun w h => hts w (List.mem_cons_of_mem _ h)
  have hx := B.exec
  have hb := B.bytes
  have hr := B.returns
  have hown : s.vm.findClass RX7 = some m.cls := findClass_of_methodNamed B.named
  have hlk := B.notSynchronized
  have hl := lv_entry ([.ref a0, .int x1, .int x2, .int x3]) (n := 4) (Nat.le_of_ble_eq_true rfl)
  rw [lg_entry_eq]
  generalize (lg_sl ([.ref a0, .int x1, .int x2, .int x3]) ++ List.replicate (4 - (lg_sl ([.ref a0, .int x1, .int x2, .int x3])).length) Slot.unset).toArray = ls at hl ⊢
  have hl : lv_has ls 4 [(0, .ref a0), (1, .int x1), (2, .int x2), (3, .int x3)] := hl
  have hE : Ext S0 S0 := Ext.rf _
  have cx : Cx p s m _ meth c cX7_findShafts 4 RX7 none := ⟨hx, hb, hml, hown, hU, hr, hlk⟩
  rw [m_X7_findShafts] at hm
  refine lv_aload_n hx hb dX7_findShafts_0 rfl (lv_at hl 0 rfl) ?_
  refine lv_iconst (v := (-1)) hx hb dX7_findShafts_1 (by decide) ?_
  refine pp_i (k := 7) (j := 4) (f := 704) hx hb hown hU iu7 tyX7_ok nmX7 hw Ta0 (by decide) rfl (hU _ tw216) rfl rfl rfl dX7_findShafts_2 (fun H locs hw => ?_)
  refine lv_aload_n hx hb dX7_findShafts_5 rfl (lv_at hl 0 rfl) ?_
  refine lv_iconst (v := 0) hx hb dX7_findShafts_6 (by decide) ?_
  refine pp_i (k := 7) (j := 5) (f := 705) hx hb hown hU iu7 tyX7_ok nmX7 hw Ta0 (by decide) rfl (hU _ tw218) rfl rfl rfl dX7_findShafts_7 (fun H locs hw => ?_)
  refine lv_aload_n hx hb dX7_findShafts_10 rfl (lv_at hl 0 rfl) ?_
  refine lv_iload_n hx hb dX7_findShafts_11 rfl (lv_at hl 1 rfl) ?_
  refine lv_iload_n hx hb dX7_findShafts_12 rfl (lv_at hl 2 rfl) ?_
  refine lv_iload_n hx hb dX7_findShafts_13 rfl (lv_at hl 3 rfl) ?_
  refine lv_iconst (v := 0) hx hb dX7_findShafts_14 (by decide) ?_
  refine lv_aload_n hx hb dX7_findShafts_15 rfl (lv_at hl 0 rfl) ?_
  obtain ⟨q1, hq1, hm⟩ := bd_some hm
  have Tq1 : TY (sI (sI S0 704 a0 (-1)) 705 a0 0) q1 8 := hw.wf.ref (k := 7) (j := 1) Ta0 (by decide) (by decide) hq1
  refine pg_rb (k := 7) (j := 1) (f := 701) hx hb hown hU iu7 hw Ta0 (by decide) rfl (hU _ tw209) rfl hq1 dX7_findShafts_16 ?_
  obtain ⟨q2, hq2, hm⟩ := bd_some hm
  have Tq2 : TY (sI (sI S0 704 a0 (-1)) 705 a0 0) q2 9 := hw.wf.ref (k := 8) (j := 2) Tq1 (by decide) (by decide) hq2
  refine pgN_rb (k := 8) (j := 2) (f := 802) hx hb hown hU iu8 hw Tq1 (by decide) rfl 48 rfl rfl hq2 dX7_findShafts_19 ?_
  refine lv_iload_n hx hb dX7_findShafts_22 rfl (lv_at hl 1 rfl) ?_
  refine lv_iconst (v := 0) hx hb dX7_findShafts_23 (by decide) ?_
  obtain ⟨r5, S_3, hq4, hm⟩ := cb_some hm
  refine pw_ci (va_runVN (As := [.int x1, .int 0]) (rest := [.int 0, .int x3, .int x2, .int x1, .ref a0]) ⟨hx, hb, hml, hown, hU⟩ (c_X9_at l C X n (sI (sI S0 704 a0 (-1)) 705 a0 0) hw.wf _ q2 x1 0 (Tq2) r5 S_3 hq4) ⟨va_cnB (host := "WickNights") 2 hU (pq_g1 tc_X9_at) rfl rfl rfl (hw.nw 135 rfl) (hU _ tw5) cd_X9_at.2 ⟨Nat.le_of_ble_eq_true rfl, Nat.le_of_ble_eq_true rfl⟩, hU _ tw719, hU _ ts32⟩ (pw_preV hw Tq2 (by decide) rfl) rfl rfl hl.1 rfl (lv_room (Nat.le_of_ble_eq_true rfl)) dX7_findShafts_24 ⟨Nat.zero_le _, Nat.zero_le _⟩) hw (fun H locs hw hx6 => ?_)
  have Ta0 : TY S_3 a0 7 := ty_ext hx6 Ta0
  have hE : Ext S0 S_3 := Ext.tr hE hx6
  refine lv_iconst (v := 0) hx hb dX7_findShafts_27 (by decide) ?_
  refine lv_iconst (v := 0) hx hb dX7_findShafts_28 (by decide) ?_
  obtain ⟨S_7, hq8, hm⟩ := bd_some hm
  refine pw_cv (va_runV (As := [.int x1, .int x2, .int x3, .int 0, .int r5, .int 0, .int 0]) (rest := []) ⟨hx, hb, hml, hown, hU⟩ (c_X7_tryShafts l C X n S_3 hw.wf _ a0 x1 x2 x3 0 r5 0 0 (Ta0) S_7 hq8) (cwV 7 hU (pq_gV tw1319 tw1321 ts108 tw3 tc_X7_tryShafts) rfl rfl rfl cd_X7_tryShafts ⟨Nat.le_of_ble_eq_true rfl, Nat.le_of_ble_eq_true rfl⟩) (pw_preV hw Ta0 (by decide) rfl) rfl rfl hl.1 rfl (lv_room (Nat.le_of_ble_eq_true rfl)) dX7_findShafts_29 ⟨Nat.zero_le _, Nat.zero_le _⟩) hw (fun H locs hw hx9 => ?_)
  have Ta0 : TY S_7 a0 7 := ty_ext hx9 Ta0
  have hE : Ext S0 S_7 := Ext.tr hE hx9
  cases hm
  exact pw_vret hx hb hr hlk hw hE dX7_findShafts_32
abbrev rm_X7_dearestWant : Room := { frames := 2, cells := 0, slots := 0, locals := 45 }
def b_X7_dearestWant_50 (n : Nat) (k4 : Nat → Int32 → Int32 → pq_S → Option (Int32 × pq_S)) (a0 : Nat) (x1 : Int32) (x2 : Int32) (S : pq_S) : Option (Int32 × pq_S) := k4 a0 x1 (x2 + 1) S
set_option maxHeartbeats 4000000 in
set_option maxRecDepth 100000 in
theorem wb_X7_dearestWant_50 {p : Program} {l : Launch} {e : Env} {s : State} {m : MethodId} {args : Array Value} {below : List Frame} {meth : Method} {c : Code} (cx : Cx p s m args meth c cX7_dearestWant 3 RX7 (some .int)) (C : pq_C) (X : va_W) (S0 : pq_S) (n : Nat) (r : Int32) (S1 : pq_S) (k4 : Nat → Int32 → Int32 → pq_S → Option (Int32 × pq_S)) (hk4 : ∀ (a0 : Nat) (x1 : Int32) (x2 : Int32) (S : pq_S) (H : Heap) (locs : List Loc) (ls : Array Slot), PW C X S (pq_F C X S0 s.heap.size) H locs s → Ext S0 S → TY S a0 7 → lv_has ls 3 [(0, .ref a0), (1, .int x1), (2, .int x2)] → k4 a0 x1 x2 S = some (r, S1) → W p l e rm_X7_dearestWant s m args below meth c H locs 0 0 (MQ below (QcI C X S0 s.heap.size r S1) args s 0 0 (pq_F C X S0 s.heap.size)) (F0 m 4 ls [])) : ∀ (a0 : Nat) (x1 : Int32) (x2 : Int32) (S : pq_S) (H : Heap) (locs : List Loc) (ls : Array Slot), PW C X S (pq_F C X S0 s.heap.size) H locs s → Ext S0 S → TY S a0 7 → lv_has ls 3 [(0, .ref a0), (1, .int x1), (2, .int x2)] → b_X7_dearestWant_50 n k4 a0 x1 x2 S = some (r, S1) → W p l e rm_X7_dearestWant s m args below meth c H locs 0 0 (MQ below (QcI C X S0 s.heap.size r S1) args s 0 0 (pq_F C X S0 s.heap.size)) (F0 m 50 ls []) := by
  obtain ⟨hx, hb, hml, hown, hU, hr, hlk⟩ := id cx
  intro a0 x1 x2 S H locs ls hw hE Ta0 hl hm
  rw [b_X7_dearestWant_50] at hm
  refine lv_iinc (v := (x2 + 1)) (lv' := [(2, .int (x2 + 1)), (0, .ref a0), (1, .int x1)]) hx hb dX7_dearestWant_50 hl (k := 2) rfl rfl (by decide) rfl (fun ls hl => ?_)
  refine lv_goto (tgt := 4) hx hb dX7_dearestWant_53 (by decide) ?_
  exact hk4 a0 x1 (x2 + 1) S _ _ _ hw hE Ta0 (lv_sub hl [1, 2, 0] rfl) hm
def b_X7_dearestWant_48 (n : Nat) (k4 : Nat → Int32 → Int32 → pq_S → Option (Int32 × pq_S)) (a0 : Nat) (x2 : Int32) (S : pq_S) : Option (Int32 × pq_S) := b_X7_dearestWant_50 n k4 a0 x2 x2 S
set_option maxHeartbeats 4000000 in
set_option maxRecDepth 100000 in
theorem wb_X7_dearestWant_48 {p : Program} {l : Launch} {e : Env} {s : State} {m : MethodId} {args : Array Value} {below : List Frame} {meth : Method} {c : Code} (cx : Cx p s m args meth c cX7_dearestWant 3 RX7 (some .int)) (C : pq_C) (X : va_W) (S0 : pq_S) (n : Nat) (r : Int32) (S1 : pq_S) (k4 : Nat → Int32 → Int32 → pq_S → Option (Int32 × pq_S)) (hk4 : ∀ (a0 : Nat) (x1 : Int32) (x2 : Int32) (S : pq_S) (H : Heap) (locs : List Loc) (ls : Array Slot), PW C X S (pq_F C X S0 s.heap.size) H locs s → Ext S0 S → TY S a0 7 → lv_has ls 3 [(0, .ref a0), (1, .int x1), (2, .int x2)] → k4 a0 x1 x2 S = some (r, S1) → W p l e rm_X7_dearestWant s m args below meth c H locs 0 0 (MQ below (QcI C X S0 s.heap.size r S1) args s 0 0 (pq_F C X S0 s.heap.size)) (F0 m 4 ls [])) : ∀ (a0 : Nat) (x2 : Int32) (S : pq_S) (H : Heap) (locs : List Loc) (ls : Array Slot), PW C X S (pq_F C X S0 s.heap.size) H locs s → Ext S0 S → TY S a0 7 → lv_has ls 3 [(0, .ref a0), (2, .int x2)] → b_X7_dearestWant_48 n k4 a0 x2 S = some (r, S1) → W p l e rm_X7_dearestWant s m args below meth c H locs 0 0 (MQ below (QcI C X S0 s.heap.size r S1) args s 0 0 (pq_F C X S0 s.heap.size)) (F0 m 48 ls []) := by
  obtain ⟨hx, hb, hml, hown, hU, hr, hlk⟩ := id cx
  intro a0 x2 S H locs ls hw hE Ta0 hl hm
  rw [b_X7_dearestWant_48] at hm
  refine lv_iload_n hx hb dX7_dearestWant_48 rfl (lv_at hl 1 rfl) ?_
  refine lv_istore_n (lv' := [(1, .int x2), (0, .ref a0), (2, .int x2)]) hx hb dX7_dearestWant_49 rfl hl (by decide) rfl (fun ls hl => ?_)
  exact wb_X7_dearestWant_50 cx C X S0 n r S1 _ hk4 a0 x2 x2 S _ _ _ hw hE Ta0 (lv_sub hl [1, 0, 2] rfl) hm
def b_X7_dearestWant_4 (n : Nat) : Nat → Nat → Int32 → Int32 → pq_S → Option (Int32 × pq_S)
  | 0, _, _, _, _ => none
  | f + 1, a0, x1, x2, S => Option.bind (pR S 700 a0) fun q1 => Option.bind (pR S 101 q1) fun q2 => if (pI S 902 q2) ≤ x2 then some (x1, S) else Option.bind (pR S 701 a0) fun q4 => Option.bind (pR S 801 q4) fun q5 => cb (m_X9_at n q5 x2 0 S) fun r8 S_6 => if r8 = 1 then if x1 = (-1) then b_X7_dearestWant_48 n (b_X7_dearestWant_4 n f) a0 x2 S_6 else cb (m_X7_isDearer n a0 x2 x1 S_6) fun r14 S_12 => if r14 = 0 then b_X7_dearestWant_50 n (b_X7_dearestWant_4 n f) a0 x1 x2 S_12 else b_X7_dearestWant_48 n (b_X7_dearestWant_4 n f) a0 x2 S_12 else b_X7_dearestWant_50 n (b_X7_dearestWant_4 n f) a0 x1 x2 S_6
set_option maxHeartbeats 4000000 in
set_option maxRecDepth 100000 in
theorem wb_X7_dearestWant_4 {p : Program} {l : Launch} {e : Env} {s : State} {m : MethodId} {args : Array Value} {below : List Frame} {meth : Method} {c : Code} (cx : Cx p s m args meth c cX7_dearestWant 3 RX7 (some .int)) (C : pq_C) (X : va_W) (S0 : pq_S) (n : Nat) (r : Int32) (S1 : pq_S) : ∀ (f : Nat) (a0 : Nat) (x1 : Int32) (x2 : Int32) (S : pq_S) (H : Heap) (locs : List Loc) (ls : Array Slot), PW C X S (pq_F C X S0 s.heap.size) H locs s → Ext S0 S → TY S a0 7 → lv_has ls 3 [(0, .ref a0), (1, .int x1), (2, .int x2)] → b_X7_dearestWant_4 n f a0 x1 x2 S = some (r, S1) → W p l e rm_X7_dearestWant s m args below meth c H locs 0 0 (MQ below (QcI C X S0 s.heap.size r S1) args s 0 0 (pq_F C X S0 s.heap.size)) (F0 m 4 ls []) := by
  obtain ⟨hx, hb, hml, hown, hU, hr, hlk⟩ := id cx
  intro f
  induction f with
  | zero =>
    intro a0 x1 x2 S H locs ls hw hE Ta0 hl hm
    cases hm
  | succ f ih =>
    intro a0 x1 x2 S H locs ls hw hE Ta0 hl hm
    rw [b_X7_dearestWant_4] at hm
    refine lv_iload_n hx hb dX7_dearestWant_4 rfl (lv_at hl 2 rfl) ?_
    refine lv_aload_n hx hb dX7_dearestWant_5 rfl (lv_at hl 0 rfl) ?_
    obtain ⟨q1, hq1, hm⟩ := bd_some hm
    have Tq1 : TY S q1 1 := hw.wf.ref (k := 7) (j := 0) Ta0 (by decide) (by decide) hq1
    refine pg_rb (k := 7) (j := 0) (f := 700) hx hb hown hU iu7 hw Ta0 (by decide) rfl (hU _ tw205) rfl hq1 dX7_dearestWant_6 ?_
    obtain ⟨q2, hq2, hm⟩ := bd_some hm
    have Tq2 : TY S q2 9 := hw.wf.ref (k := 1) (j := 1) Tq1 (by decide) (by decide) hq2
    refine pgN_rb (k := 1) (j := 1) (f := 101) hx hb hown hU iu1 hw Tq1 (by decide) rfl 31 rfl rfl hq2 dX7_dearestWant_9 ?_
    refine pgN_i (k := 9) (j := 2) (f := 902) hx hb hown hU iu9 hw Tq2 (by decide) rfl 20 rfl rfl dX7_dearestWant_12 ?_
    refine lv_icmp_ge (tgt := 56) hx hb dX7_dearestWant_15 (by decide) (fun h3 => ?_) (fun h3 => ?_)
    · rw [if_pos h3] at hm
      refine lv_iload_n hx hb dX7_dearestWant_56 rfl (lv_at hl 1 rfl) ?_
      cases hm
      exact pw_iret hx hb hr rfl hlk hw hE dX7_dearestWant_57
    · rw [if_neg h3] at hm
      refine lv_aload_n hx hb dX7_dearestWant_18 rfl (lv_at hl 0 rfl) ?_
      obtain ⟨q4, hq4, hm⟩ := bd_some hm
      have Tq4 : TY S q4 8 := hw.wf.ref (k := 7) (j := 1) Ta0 (by decide) (by decide) hq4
      refine pg_rb (k := 7) (j := 1) (f := 701) hx hb hown hU iu7 hw Ta0 (by decide) rfl (hU _ tw209) rfl hq4 dX7_dearestWant_19 ?_
      obtain ⟨q5, hq5, hm⟩ := bd_some hm
      have Tq5 : TY S q5 9 := hw.wf.ref (k := 8) (j := 1) Tq4 (by decide) (by decide) hq5
      refine pgN_rb (k := 8) (j := 1) (f := 801) hx hb hown hU iu8 hw Tq4 (by decide) rfl 45 rfl rfl hq5 dX7_dearestWant_22 ?_
      refine lv_iload_n hx hb dX7_dearestWant_25 rfl (lv_at hl 2 rfl) ?_
      refine lv_iconst (v := 0) hx hb dX7_dearestWant_26 (by decide) ?_
      obtain ⟨r8, S_6, hq7, hm⟩ := cb_some hm
      refine pw_ci (va_runVN (As := [.int x2, .int 0]) (rest := []) ⟨hx, hb, hml, hown, hU⟩ (c_X9_at l C X n S hw.wf _ q5 x2 0 (Tq5) r8 S_6 hq7) ⟨va_cnB (host := "WickNights") 2 hU (pq_g1 tc_X9_at) rfl rfl rfl (hw.nw 135 rfl) (hU _ tw5) cd_X9_at.2 ⟨Nat.le_of_ble_eq_true rfl, Nat.le_of_ble_eq_true rfl⟩, hU _ tw719, hU _ ts32⟩ (pw_preV hw Tq5 (by decide) rfl) rfl rfl hl.1 rfl (lv_room (Nat.le_of_ble_eq_true rfl)) dX7_dearestWant_27 ⟨Nat.zero_le _, Nat.zero_le _⟩) hw (fun H locs hw hx9 => ?_)
      have Ta0 : TY S_6 a0 7 := ty_ext hx9 Ta0
      have hE : Ext S0 S_6 := Ext.tr hE hx9
      refine lv_iconst (v := 1) hx hb dX7_dearestWant_30 (by decide) ?_
      refine lv_icmp_ne (tgt := 50) hx hb dX7_dearestWant_31 (by decide) (fun h10 => ?_) (fun h10 => ?_)
      · rw [if_neg h10] at hm
        exact wb_X7_dearestWant_50 cx C X S0 n r S1 _ ih a0 x1 x2 S_6 _ _ _ hw hE Ta0 (lv_sub hl [0, 1, 2] rfl) hm
      · rw [if_pos h10] at hm
        refine lv_iload_n hx hb dX7_dearestWant_34 rfl (lv_at hl 1 rfl) ?_
        refine lv_iconst (v := (-1)) hx hb dX7_dearestWant_35 (by decide) ?_
        refine lv_icmp_eq (tgt := 48) hx hb dX7_dearestWant_36 (by decide) (fun h11 => ?_) (fun h11 => ?_)
        · rw [if_pos h11] at hm
          exact wb_X7_dearestWant_48 cx C X S0 n r S1 _ ih a0 x2 S_6 _ _ _ hw hE Ta0 (lv_sub hl [0, 2] rfl) hm
        · rw [if_neg h11] at hm
          refine lv_aload_n hx hb dX7_dearestWant_39 rfl (lv_at hl 0 rfl) ?_
          refine lv_iload_n hx hb dX7_dearestWant_40 rfl (lv_at hl 2 rfl) ?_
          refine lv_iload_n hx hb dX7_dearestWant_41 rfl (lv_at hl 1 rfl) ?_
          obtain ⟨r14, S_12, hq13, hm⟩ := cb_some hm
          refine pw_cz (va_runV (As := [.int x2, .int x1]) (rest := []) ⟨hx, hb, hml, hown, hU⟩ (c_X7_isDearer l C X n S_6 hw.wf _ a0 x2 x1 (Ta0) r14 S_12 hq13) (cwV 2 hU (pq_gV tw1445 tw1447 ts119 tw3 tc_X7_isDearer) rfl rfl rfl cd_X7_isDearer ⟨Nat.le_of_ble_eq_true rfl, Nat.le_of_ble_eq_true rfl⟩) (pw_preV hw Ta0 (by decide) rfl) rfl rfl hl.1 rfl (lv_room (Nat.le_of_ble_eq_true rfl)) dX7_dearestWant_42 ⟨Nat.zero_le _, Nat.zero_le _⟩) hw (fun H locs hw hx15 hz16 => ?_)
          have Ta0 : TY S_12 a0 7 := ty_ext hx15 Ta0
          have hE : Ext S0 S_12 := Ext.tr hE hx15
          refine lv_if_eq (tgt := 50) hx hb dX7_dearestWant_45 (by decide) (fun h17 => ?_) (fun h17 => ?_)
          · rw [if_pos h17] at hm
            exact wb_X7_dearestWant_50 cx C X S0 n r S1 _ ih a0 x1 x2 S_12 _ _ _ hw hE Ta0 (lv_sub hl [0, 1, 2] rfl) hm
          · rw [if_neg h17] at hm
            exact wb_X7_dearestWant_48 cx C X S0 n r S1 _ ih a0 x2 S_12 _ _ _ hw hE Ta0 (lv_sub hl [0, 2] rfl) hm
def m_X7_dearestWant (n : Nat) (a0 : Nat) (S0 : pq_S) : Option (Int32 × pq_S) := b_X7_dearestWant_4 n n a0 (-1) 0 S0
theorem tc_X7_dearestWant : Cond.code yX7_dearestWant cX7_dearestWant 3 (some .int) ∈ pq_U := tw1444
theorem cd_X7_dearestWant : yX7_dearestWant.cls = RX7 ∧ yX7_dearestWant.cls ≠ "java/lang/invoke/MethodHandle" ∧ yX7_dearestWant.cls ≠ "java/lang/invoke/VarHandle" ∧ (parseMethodDescriptor yX7_dearestWant.desc).map (fun d => d.parameters.length) = some 0 := by decide +kernel
set_option maxHeartbeats 4000000 in
set_option maxRecDepth 100000 in
theorem c_X7_dearestWant (l : Launch) (C : pq_C) (X : va_W) (n : Nat) (S0 : pq_S) (hF : WF S0) (sz : Nat) (a0 : Nat) (Ta0 : TY S0 a0 7) (r : Int32) (S1 : pq_S) (hm : m_X7_dearestWant n a0 S0 = some (r, S1)) : MI l yX7_dearestWant (.code yX7_dearestWant cX7_dearestWant 3 (some .int) :: pq_U) rm_X7_dearestWant C X S0 sz [.ref a0] r S1 0 0 := by
  refine Met.ofW (cc := cX7_dearestWant) (maxL := 3) (ret := (some .int)) (by decide) rfl ?_
  intro p e s m args below meth c s₁ B hml hv
  obtain ⟨rfl, hv⟩ := hv
  have hsz := hv.1
  subst hsz
  have hw := pw_entry hF hv
  have hts := atoms_spec (ws := .code yX7_dearestWant cX7_dearestWant 3 (some .int) :: pq_U) B.pre
  have hU : ∀ w ∈ pq_U, w.before _ s = true := fun w h => hts w (List.mem_cons_of_mem _ h)
  have hx := B.exec
  have hb := B.bytes
  have hr := B.returns
  have hown : s.vm.findClass RX7 = some m.cls := findClass_of_methodNamed B.named
  have hlk := B.notSynchronized
  have hl := lv_entry ([.ref a0]) (n := 3) (Nat.le_of_ble_eq_true rfl)
  rw [lg_entry_eq]
  generalize (lg_sl ([.ref a0]) ++ List.replicate (3 - (lg_sl ([.ref a0])).length) Slot.unset).toArray = ls at hl ⊢
  have hl : lv_has ls 3 [(0, .ref a0)] := hl
  have hE : Ext S0 S0 := Ext.rf _
  have cx : Cx p s m _ meth c cX7_dearestWant 3 RX7 (some .int) := ⟨hx, hb, hml, hown, hU, hr, hlk⟩
  rw [m_X7_dearestWant] at hm
  refine lv_iconst (v := (-1)) hx hb dX7_dearestWant_0 (by decide) ?_
  refine lv_istore_n (lv' := [(1, .int (-1)), (0, .ref a0)]) hx hb dX7_dearestWant_1 rfl hl (by decide) rfl (fun ls hl => ?_)
  refine lv_iconst (v := 0) hx hb dX7_dearestWant_2 (by decide) ?_
  refine lv_istore_n (lv' := [(2, .int 0), (1, .int (-1)), (0, .ref a0)]) hx hb dX7_dearestWant_3 rfl hl (by decide) rfl (fun ls hl => ?_)
  exact wb_X7_dearestWant_4 cx C X S0 n r S1 n a0 (-1) 0 S0 _ _ _ hw hE Ta0 (lv_sub hl [2, 1, 0] rfl) hm
abbrev rm_X8_begin : Room := { frames := 2, cells := 0, slots := 0, locals := 45 }
def b_X8_begin_155 (n : Nat) (a0 : Nat) (S : pq_S) : Option pq_S := Option.bind (m_X8_openWants n a0 S) fun S_51 => some (sI (sI S_51 803 a0 0) 804 a0 0)
set_option maxHeartbeats 4000000 in
set_option maxRecDepth 100000 in
theorem wb_X8_begin_155 {p : Program} {l : Launch} {e : Env} {s : State} {m : MethodId} {args : Array Value} {below : List Frame} {meth : Method} {c : Code} (cx : Cx p s m args meth c cX8_begin 3 RX8 none) (C : pq_C) (X : va_W) (S0 : pq_S) (n : Nat) (S1 : pq_S) : ∀ (a0 : Nat) (S : pq_S) (H : Heap) (locs : List Loc) (ls : Array Slot), PW C X S (pq_F C X S0 s.heap.size) H locs s → Ext S0 S → TY S a0 8 → lv_has ls 3 [(0, .ref a0)] → b_X8_begin_155 n a0 S = some S1 → W p l e rm_X8_begin s m args below meth c H locs 0 0 (MQ below (QcV C X S0 s.heap.size S1) args s 0 0 (pq_F C X S0 s.heap.size)) (F0 m 155 ls []) := by
  obtain ⟨hx, hb, hml, hown, hU, hr, hlk⟩ := id cx
  intro a0 S H locs ls hw hE Ta0 hl hm
  rw [b_X8_begin_155] at hm
  refine lv_aload_n hx hb dX8_begin_155 rfl (lv_at hl 0 rfl) ?_
  obtain ⟨S_51, hq52, hm⟩ := bd_some hm
  refine pw_cv (va_runV (As := []) (rest := []) ⟨hx, hb, hml, hown, hU⟩ (c_X8_openWants l C X n S hw.wf _ a0 (Ta0) S_51 hq52) (cwV 0 hU (pq_gV tw722 tw724 ts33 tw6 tc_X8_openWants) rfl rfl rfl cd_X8_openWants ⟨Nat.le_of_ble_eq_true rfl, Nat.le_of_ble_eq_true rfl⟩) (pw_preV hw Ta0 (by decide) rfl) rfl rfl hl.1 rfl (lv_room (Nat.le_of_ble_eq_true rfl)) dX8_begin_156 ⟨Nat.zero_le _, Nat.zero_le _⟩) hw (fun H locs hw hx53 => ?_)
  have Ta0 : TY S_51 a0 8 := ty_ext hx53 Ta0
  have hE : Ext S0 S_51 := Ext.tr hE hx53
  refine lv_aload_n hx hb dX8_begin_159 rfl (lv_at hl 0 rfl) ?_
  refine lv_iconst (v := 0) hx hb dX8_begin_160 (by decide) ?_
  refine pp_i (k := 8) (j := 3) (f := 803) hx hb hown hU iu8 tyX8_ok nmX8 hw Ta0 (by decide) rfl (hU _ tw165) rfl rfl rfl dX8_begin_161 (fun H locs hw => ?_)
  refine lv_aload_n hx hb dX8_begin_164 rfl (lv_at hl 0 rfl) ?_
  refine lv_iconst (v := 0) hx hb dX8_begin_165 (by decide) ?_
  refine pp_i (k := 8) (j := 4) (f := 804) hx hb hown hU iu8 tyX8_ok nmX8 hw Ta0 (by decide) rfl (hU _ tw168) rfl rfl rfl dX8_begin_166 (fun H locs hw => ?_)
  cases hm
  exact pw_vret hx hb hr hlk hw hE dX8_begin_169
def b_X8_begin_120 (n : Nat) : Nat → Nat → Nat → Int32 → pq_S → Option pq_S
  | 0, _, _, _, _ => none
  | f + 1, a0, a1, x2, S => Option.bind (pR S 802 a0) fun q40 => if (pI S 902 q40) ≤ x2 then b_X8_begin_155 n a0 S else Option.bind (pR S 802 a0) fun q42 => Option.bind (pR S 102 a1) fun q43 => cb (m_X9_at n q43 x2 1 S) fun r46 S_44 => Option.bind (m_X9_put n q42 x2 0 r46 S_44) fun S_48 => b_X8_begin_120 n f a0 a1 (x2 + 1) S_48
set_option maxHeartbeats 4000000 in
set_option maxRecDepth 100000 in
theorem wb_X8_begin_120 {p : Program} {l : Launch} {e : Env} {s : State} {m : MethodId} {args : Array Value} {below : List Frame} {meth : Method} {c : Code} (cx : Cx p s m args meth c cX8_begin 3 RX8 none) (C : pq_C) (X : va_W) (S0 : pq_S) (n : Nat) (S1 : pq_S) : ∀ (f : Nat) (a0 : Nat) (a1 : Nat) (x2 : Int32) (S : pq_S) (H : Heap) (locs : List Loc) (ls : Array Slot), PW C X S (pq_F C X S0 s.heap.size) H locs s → Ext S0 S → TY S a0 8 → TY S a1 1 → lv_has ls 3 [(0, .ref a0), (1, .ref a1), (2, .int x2)] → b_X8_begin_120 n f a0 a1 x2 S = some S1 → W p l e rm_X8_begin s m args below meth c H locs 0 0 (MQ below (QcV C X S0 s.heap.size S1) args s 0 0 (pq_F C X S0 s.heap.size)) (F0 m 120 ls []) := by
  obtain ⟨hx, hb, hml, hown, hU, hr, hlk⟩ := id cx
  intro f
  induction f with
  | zero =>
    intro a0 a1 x2 S H locs ls hw hE Ta0 Ta1 hl hm
    cases hm
  | succ f ih =>
    intro a0 a1 x2 S H locs ls hw hE Ta0 Ta1 hl hm
    rw [b_X8_begin_120] at hm
    refine lv_iload_n hx hb dX8_begin_120 rfl (lv_at hl 2 rfl) ?_
    refine lv_aload_n hx hb dX8_begin_121 rfl (lv_at hl 0 rfl) ?_
    obtain ⟨q40, hq40, hm⟩ := bd_some hm
    have Tq40 : TY S q40 9 := hw.wf.ref (k := 8) (j := 2) Ta0 (by decide) (by decide) hq40
    refine pg_rb (k := 8) (j := 2) (f := 802) hx hb hown hU iu8 hw Ta0 (by decide) rfl (hU _ tw162) rfl hq40 dX8_begin_122 ?_
    refine pgN_i (k := 9) (j := 2) (f := 902) hx hb hown hU iu9 hw Tq40 (by decide) rfl 13 rfl rfl dX8_begin_125 ?_
    refine lv_icmp_ge (tgt := 155) hx hb dX8_begin_128 (by decide) (fun h41 => ?_) (fun h41 => ?_)
    · rw [if_pos h41] at hm
      exact wb_X8_begin_155 cx C X S0 n S1 a0 S _ _ _ hw hE Ta0 (lv_sub hl [0] rfl) hm
    · rw [if_neg h41] at hm
      refine lv_aload_n hx hb dX8_begin_131 rfl (lv_at hl 0 rfl) ?_
      obtain ⟨q42, hq42, hm⟩ := bd_some hm
      have Tq42 : TY S q42 9 := hw.wf.ref (k := 8) (j := 2) Ta0 (by decide) (by decide) hq42
      refine pg_rb (k := 8) (j := 2) (f := 802) hx hb hown hU iu8 hw Ta0 (by decide) rfl (hU _ tw162) rfl hq42 dX8_begin_132 ?_
      refine lv_iload_n hx hb dX8_begin_135 rfl (lv_at hl 2 rfl) ?_
      refine lv_iconst (v := 0) hx hb dX8_begin_136 (by decide) ?_
      refine lv_aload_n hx hb dX8_begin_137 rfl (lv_at hl 1 rfl) ?_
      obtain ⟨q43, hq43, hm⟩ := bd_some hm
      have Tq43 : TY S q43 9 := hw.wf.ref (k := 1) (j := 2) Ta1 (by decide) (by decide) hq43
      refine pgN_rb (k := 1) (j := 2) (f := 102) hx hb hown hU iu1 hw Ta1 (by decide) rfl 33 rfl rfl hq43 dX8_begin_138 ?_
      refine lv_iload_n hx hb dX8_begin_141 rfl (lv_at hl 2 rfl) ?_
      refine lv_iconst (v := 1) hx hb dX8_begin_142 (by decide) ?_
      obtain ⟨r46, S_44, hq45, hm⟩ := cb_some hm
      refine pw_ci (va_runVN (As := [.int x2, .int 1]) (rest := [.int 0, .int x2, .ref q42]) ⟨hx, hb, hml, hown, hU⟩ (c_X9_at l C X n S hw.wf _ q43 x2 1 (Tq43) r46 S_44 hq45) ⟨va_cnB (host := "WickNights") 2 hU (pq_g1 tc_X9_at) rfl rfl rfl (hw.nw 109 rfl) (hU _ tw5) cd_X9_at.2 ⟨Nat.le_of_ble_eq_true rfl, Nat.le_of_ble_eq_true rfl⟩, hU _ tw719, hU _ ts32⟩ (pw_preV hw Tq43 (by decide) rfl) rfl rfl hl.1 rfl (lv_room (Nat.le_of_ble_eq_true rfl)) dX8_begin_143 ⟨Nat.zero_le _, Nat.zero_le _⟩) hw (fun H locs hw hx47 => ?_)
      have Tq42 : TY S_44 q42 9 := ty_ext hx47 Tq42
      have Ta0 : TY S_44 a0 8 := ty_ext hx47 Ta0
      have Ta1 : TY S_44 a1 1 := ty_ext hx47 Ta1
      have hE : Ext S0 S_44 := Ext.tr hE hx47
      obtain ⟨S_48, hq49, hm⟩ := bd_some hm
      refine pw_cv (va_runVN (As := [.int x2, .int 0, .int r46]) (rest := []) ⟨hx, hb, hml, hown, hU⟩ (c_X9_put l C X n S_44 hw.wf _ q42 x2 0 r46 (Tq42) S_48 hq49) ⟨va_cnB (host := "WickNights") 3 hU (pq_g1 tc_X9_put) rfl rfl rfl (hw.nw 110 rfl) (hU _ tw5) cd_X9_put.2 ⟨Nat.le_of_ble_eq_true rfl, Nat.le_of_ble_eq_true rfl⟩, hU _ tw673, hU _ ts23⟩ (pw_preV hw Tq42 (by decide) rfl) rfl rfl hl.1 rfl (lv_room (Nat.le_of_ble_eq_true rfl)) dX8_begin_146 ⟨Nat.zero_le _, Nat.zero_le _⟩) hw (fun H locs hw hx50 => ?_)
      have Ta0 : TY S_48 a0 8 := ty_ext hx50 Ta0
      have Ta1 : TY S_48 a1 1 := ty_ext hx50 Ta1
      have hE : Ext S0 S_48 := Ext.tr hE hx50
      refine lv_iinc (v := (x2 + 1)) (lv' := [(2, .int (x2 + 1)), (0, .ref a0), (1, .ref a1)]) hx hb dX8_begin_149 hl (k := 2) rfl rfl (by decide) rfl (fun ls hl => ?_)
      refine lv_goto (tgt := 120) hx hb dX8_begin_152 (by decide) ?_
      exact ih a0 a1 (x2 + 1) S_48 _ _ _ hw hE Ta0 Ta1 (lv_sub hl [1, 2, 0] rfl) hm
def b_X8_begin_118 (n : Nat) (a0 : Nat) (a1 : Nat) (S : pq_S) : Option pq_S := b_X8_begin_120 n n a0 a1 0 S
set_option maxHeartbeats 4000000 in
set_option maxRecDepth 100000 in
theorem wb_X8_begin_118 {p : Program} {l : Launch} {e : Env} {s : State} {m : MethodId} {args : Array Value} {below : List Frame} {meth : Method} {c : Code} (cx : Cx p s m args meth c cX8_begin 3 RX8 none) (C : pq_C) (X : va_W) (S0 : pq_S) (n : Nat) (S1 : pq_S) : ∀ (a0 : Nat) (a1 : Nat) (S : pq_S) (H : Heap) (locs : List Loc) (ls : Array Slot), PW C X S (pq_F C X S0 s.heap.size) H locs s → Ext S0 S → TY S a0 8 → TY S a1 1 → lv_has ls 3 [(0, .ref a0), (1, .ref a1)] → b_X8_begin_118 n a0 a1 S = some S1 → W p l e rm_X8_begin s m args below meth c H locs 0 0 (MQ below (QcV C X S0 s.heap.size S1) args s 0 0 (pq_F C X S0 s.heap.size)) (F0 m 118 ls []) := by
  obtain ⟨hx, hb, hml, hown, hU, hr, hlk⟩ := id cx
  intro a0 a1 S H locs ls hw hE Ta0 Ta1 hl hm
  rw [b_X8_begin_118] at hm
  refine lv_iconst (v := 0) hx hb dX8_begin_118 (by decide) ?_
  refine lv_istore_n (lv' := [(2, .int 0), (0, .ref a0), (1, .ref a1)]) hx hb dX8_begin_119 rfl hl (by decide) rfl (fun ls hl => ?_)
  exact wb_X8_begin_120 cx C X S0 n S1 n a0 a1 0 S _ _ _ hw hE Ta0 Ta1 (lv_sub hl [1, 2, 0] rfl) hm
def b_X8_begin_65 (n : Nat) : Nat → Nat → Nat → Int32 → pq_S → Option pq_S
  | 0, _, _, _, _ => none
  | f + 1, a0, a1, x2, S => Option.bind (pR S 800 a0) fun q20 => if (pI S 902 q20) ≤ x2 then b_X8_begin_118 n a0 a1 S else Option.bind (pR S 800 a0) fun q22 => Option.bind (pR S 100 a1) fun q23 => cb (m_X9_at n q23 x2 1 S) fun r26 S_24 => Option.bind (m_X9_put n q22 x2 0 r26 S_24) fun S_28 => Option.bind (pR S_28 800 a0) fun q31 => Option.bind (pR S_28 100 a1) fun q32 => cb (m_X9_at n q32 x2 2 S_28) fun r35 S_33 => Option.bind (m_X9_put n q31 x2 1 r35 S_33) fun S_37 => b_X8_begin_65 n f a0 a1 (x2 + 1) S_37
set_option maxHeartbeats 4000000 in
set_option maxRecDepth 100000 in
theorem wb_X8_begin_65 {p : Program} {l : Launch} {e : Env} {s : State} {m : MethodId} {args : Array Value} {below : List Frame} {meth : Method} {c : Code} (cx : Cx p s m args meth c cX8_begin 3 RX8 none) (C : pq_C) (X : va_W) (S0 : pq_S) (n : Nat) (S1 : pq_S) : ∀ (f : Nat) (a0 : Nat) (a1 : Nat) (x2 : Int32) (S : pq_S) (H : Heap) (locs : List Loc) (ls : Array Slot), PW C X S (pq_F C X S0 s.heap.size) H locs s → Ext S0 S → TY S a0 8 → TY S a1 1 → lv_has ls 3 [(0, .ref a0), (1, .ref a1), (2, .int x2)] → b_X8_begin_65 n f a0 a1 x2 S = some S1 → W p l e rm_X8_begin s m args below meth c H locs 0 0 (MQ below (QcV C X S0 s.heap.size S1) args s 0 0 (pq_F C X S0 s.heap.size)) (F0 m 65 ls []) := by
  obtain ⟨hx, hb, hml, hown, hU, hr, hlk⟩ := id cx
  intro f
  induction f with
  | zero =>
    intro a0 a1 x2 S H locs ls hw hE Ta0 Ta1 hl hm
    cases hm
  | succ f ih =>
    intro a0 a1 x2 S H locs ls hw hE Ta0 Ta1 hl hm
    rw [b_X8_begin_65] at hm
    refine lv_iload_n hx hb dX8_begin_65 rfl (lv_at hl 2 rfl) ?_
    refine lv_aload_n hx hb dX8_begin_66 rfl (lv_at hl 0 rfl) ?_
    obtain ⟨q20, hq20, hm⟩ := bd_some hm
    have Tq20 : TY S q20 9 := hw.wf.ref (k := 8) (j := 0) Ta0 (by decide) (by decide) hq20
    refine pg_rb (k := 8) (j := 0) (f := 800) hx hb hown hU iu8 hw Ta0 (by decide) rfl (hU _ tw155) rfl hq20 dX8_begin_67 ?_
    refine pgN_i (k := 9) (j := 2) (f := 902) hx hb hown hU iu9 hw Tq20 (by decide) rfl 13 rfl rfl dX8_begin_70 ?_
    refine lv_icmp_ge (tgt := 118) hx hb dX8_begin_73 (by decide) (fun h21 => ?_) (fun h21 => ?_)
    · rw [if_pos h21] at hm
      exact wb_X8_begin_118 cx C X S0 n S1 a0 a1 S _ _ _ hw hE Ta0 Ta1 (lv_sub hl [0, 1] rfl) hm
    · rw [if_neg h21] at hm
      refine lv_aload_n hx hb dX8_begin_76 rfl (lv_at hl 0 rfl) ?_
      obtain ⟨q22, hq22, hm⟩ := bd_some hm
      have Tq22 : TY S q22 9 := hw.wf.ref (k := 8) (j := 0) Ta0 (by decide) (by decide) hq22
      refine pg_rb (k := 8) (j := 0) (f := 800) hx hb hown hU iu8 hw Ta0 (by decide) rfl (hU _ tw155) rfl hq22 dX8_begin_77 ?_
      refine lv_iload_n hx hb dX8_begin_80 rfl (lv_at hl 2 rfl) ?_
      refine lv_iconst (v := 0) hx hb dX8_begin_81 (by decide) ?_
      refine lv_aload_n hx hb dX8_begin_82 rfl (lv_at hl 1 rfl) ?_
      obtain ⟨q23, hq23, hm⟩ := bd_some hm
      have Tq23 : TY S q23 9 := hw.wf.ref (k := 1) (j := 0) Ta1 (by decide) (by decide) hq23
      refine pgN_rb (k := 1) (j := 0) (f := 100) hx hb hown hU iu1 hw Ta1 (by decide) rfl 21 rfl rfl hq23 dX8_begin_83 ?_
      refine lv_iload_n hx hb dX8_begin_86 rfl (lv_at hl 2 rfl) ?_
      refine lv_iconst (v := 1) hx hb dX8_begin_87 (by decide) ?_
      obtain ⟨r26, S_24, hq25, hm⟩ := cb_some hm
      refine pw_ci (va_runVN (As := [.int x2, .int 1]) (rest := [.int 0, .int x2, .ref q22]) ⟨hx, hb, hml, hown, hU⟩ (c_X9_at l C X n S hw.wf _ q23 x2 1 (Tq23) r26 S_24 hq25) ⟨va_cnB (host := "WickNights") 2 hU (pq_g1 tc_X9_at) rfl rfl rfl (hw.nw 109 rfl) (hU _ tw5) cd_X9_at.2 ⟨Nat.le_of_ble_eq_true rfl, Nat.le_of_ble_eq_true rfl⟩, hU _ tw719, hU _ ts32⟩ (pw_preV hw Tq23 (by decide) rfl) rfl rfl hl.1 rfl (lv_room (Nat.le_of_ble_eq_true rfl)) dX8_begin_88 ⟨Nat.zero_le _, Nat.zero_le _⟩) hw (fun H locs hw hx27 => ?_)
      have Tq22 : TY S_24 q22 9 := ty_ext hx27 Tq22
      have Ta0 : TY S_24 a0 8 := ty_ext hx27 Ta0
      have Ta1 : TY S_24 a1 1 := ty_ext hx27 Ta1
      have hE : Ext S0 S_24 := Ext.tr hE hx27
      obtain ⟨S_28, hq29, hm⟩ := bd_some hm
      refine pw_cv (va_runVN (As := [.int x2, .int 0, .int r26]) (rest := []) ⟨hx, hb, hml, hown, hU⟩ (c_X9_put l C X n S_24 hw.wf _ q22 x2 0 r26 (Tq22) S_28 hq29) ⟨va_cnB (host := "WickNights") 3 hU (pq_g1 tc_X9_put) rfl rfl rfl (hw.nw 110 rfl) (hU _ tw5) cd_X9_put.2 ⟨Nat.le_of_ble_eq_true rfl, Nat.le_of_ble_eq_true rfl⟩, hU _ tw673, hU _ ts23⟩ (pw_preV hw Tq22 (by decide) rfl) rfl rfl hl.1 rfl (lv_room (Nat.le_of_ble_eq_true rfl)) dX8_begin_91 ⟨Nat.zero_le _, Nat.zero_le _⟩) hw (fun H locs hw hx30 => ?_)
      have Ta0 : TY S_28 a0 8 := ty_ext hx30 Ta0
      have Ta1 : TY S_28 a1 1 := ty_ext hx30 Ta1
      have hE : Ext S0 S_28 := Ext.tr hE hx30
      refine lv_aload_n hx hb dX8_begin_94 rfl (lv_at hl 0 rfl) ?_
      obtain ⟨q31, hq31, hm⟩ := bd_some hm
      have Tq31 : TY S_28 q31 9 := hw.wf.ref (k := 8) (j := 0) Ta0 (by decide) (by decide) hq31
      refine pg_rb (k := 8) (j := 0) (f := 800) hx hb hown hU iu8 hw Ta0 (by decide) rfl (hU _ tw155) rfl hq31 dX8_begin_95 ?_
      refine lv_iload_n hx hb dX8_begin_98 rfl (lv_at hl 2 rfl) ?_
      refine lv_iconst (v := 1) hx hb dX8_begin_99 (by decide) ?_
      refine lv_aload_n hx hb dX8_begin_100 rfl (lv_at hl 1 rfl) ?_
      obtain ⟨q32, hq32, hm⟩ := bd_some hm
      have Tq32 : TY S_28 q32 9 := hw.wf.ref (k := 1) (j := 0) Ta1 (by decide) (by decide) hq32
      refine pgN_rb (k := 1) (j := 0) (f := 100) hx hb hown hU iu1 hw Ta1 (by decide) rfl 21 rfl rfl hq32 dX8_begin_101 ?_
      refine lv_iload_n hx hb dX8_begin_104 rfl (lv_at hl 2 rfl) ?_
      refine lv_iconst (v := 2) hx hb dX8_begin_105 (by decide) ?_
      obtain ⟨r35, S_33, hq34, hm⟩ := cb_some hm
      refine pw_ci (va_runVN (As := [.int x2, .int 2]) (rest := [.int 1, .int x2, .ref q31]) ⟨hx, hb, hml, hown, hU⟩ (c_X9_at l C X n S_28 hw.wf _ q32 x2 2 (Tq32) r35 S_33 hq34) ⟨va_cnB (host := "WickNights") 2 hU (pq_g1 tc_X9_at) rfl rfl rfl (hw.nw 109 rfl) (hU _ tw5) cd_X9_at.2 ⟨Nat.le_of_ble_eq_true rfl, Nat.le_of_ble_eq_true rfl⟩, hU _ tw719, hU _ ts32⟩ (pw_preV hw Tq32 (by decide) rfl) rfl rfl hl.1 rfl (lv_room (Nat.le_of_ble_eq_true rfl)) dX8_begin_106 ⟨Nat.zero_le _, Nat.zero_le _⟩) hw (fun H locs hw hx36 => ?_)
      have Tq31 : TY S_33 q31 9 := ty_ext hx36 Tq31
      have Ta0 : TY S_33 a0 8 := ty_ext hx36 Ta0
      have Ta1 : TY S_33 a1 1 := ty_ext hx36 Ta1
      have hE : Ext S0 S_33 := Ext.tr hE hx36
      obtain ⟨S_37, hq38, hm⟩ := bd_some hm
      refine pw_cv (va_runVN (As := [.int x2, .int 1, .int r35]) (rest := []) ⟨hx, hb, hml, hown, hU⟩ (c_X9_put l C X n S_33 hw.wf _ q31 x2 1 r35 (Tq31) S_37 hq38) ⟨va_cnB (host := "WickNights") 3 hU (pq_g1 tc_X9_put) rfl rfl rfl (hw.nw 110 rfl) (hU _ tw5) cd_X9_put.2 ⟨Nat.le_of_ble_eq_true rfl, Nat.le_of_ble_eq_true rfl⟩, hU _ tw673, hU _ ts23⟩ (pw_preV hw Tq31 (by decide) rfl) rfl rfl hl.1 rfl (lv_room (Nat.le_of_ble_eq_true rfl)) dX8_begin_109 ⟨Nat.zero_le _, Nat.zero_le _⟩) hw (fun H locs hw hx39 => ?_)
      have Ta0 : TY S_37 a0 8 := ty_ext hx39 Ta0
      have Ta1 : TY S_37 a1 1 := ty_ext hx39 Ta1
      have hE : Ext S0 S_37 := Ext.tr hE hx39
      refine lv_iinc (v := (x2 + 1)) (lv' := [(2, .int (x2 + 1)), (0, .ref a0), (1, .ref a1)]) hx hb dX8_begin_112 hl (k := 2) rfl rfl (by decide) rfl (fun ls hl => ?_)
      refine lv_goto (tgt := 65) hx hb dX8_begin_115 (by decide) ?_
      exact ih a0 a1 (x2 + 1) S_37 _ _ _ hw hE Ta0 Ta1 (lv_sub hl [1, 2, 0] rfl) hm
def m_X8_begin (n : Nat) (a0 : Nat) (a1 : Nat) (S0 : pq_S) : Option pq_S := Option.bind (pR S0 800 a0) fun q1 => Option.bind (m_X9_clear n q1 S0) fun S_2 => Option.bind (pR S_2 801 a0) fun q5 => Option.bind (m_X9_clear n q5 S_2) fun S_6 => Option.bind (pR S_6 802 a0) fun q9 => Option.bind (m_X9_clear n q9 S_6) fun S_10 => Option.bind (pR S_10 800 a0) fun q13 => Option.bind (pR S_10 100 a1) fun q14 => Option.bind (pR (sI S_10 902 q13 (pI S_10 902 q14)) 801 a0) fun q15 => Option.bind (pR (sI S_10 902 q13 (pI S_10 902 q14)) 101 a1) fun q16 => lt_ (sI (sI S_10 902 q13 (pI S_10 902 q14)) 902 q15 (pI (sI S_10 902 q13 (pI S_10 902 q14)) 902 q16)) fun S_17 => Option.bind (pR S_17 802 a0) fun q18 => Option.bind (pR S_17 102 a1) fun q19 => b_X8_begin_65 n n a0 a1 0 (sI S_17 902 q18 (pI S_17 902 q19))
theorem tc_X8_begin : Cond.code yX8_begin cX8_begin 3 none ∈ pq_U := tw715
theorem cd_X8_begin : yX8_begin.cls = RX8 ∧ yX8_begin.cls ≠ "java/lang/invoke/MethodHandle" ∧ yX8_begin.cls ≠ "java/lang/invoke/VarHandle" ∧ (parseMethodDescriptor yX8_begin.desc).map (fun d => d.parameters.length) = some 1 := by decide +kernel
set_option maxHeartbeats 4000000 in
set_option maxRecDepth 100000 in
theorem c_X8_begin (l : Launch) (C : pq_C) (X : va_W) (n : Nat) (S0 : pq_S) (hF : WF S0) (sz : Nat) (a0 : Nat) (a1 : Nat) (Ta0 : TY S0 a0 8) (Ta1 : TY S0 a1 1) (S1 : pq_S) (hm : m_X8_begin n a0 a1 S0 = some S1) : MV l yX8_begin (.code yX8_begin cX8_begin 3 none :: pq_U) rm_X8_begin C X S0 sz [.ref a0, .ref a1] S1 0 0 := by
  refine Met.ofW (cc := cX8_begin) (maxL := 3) (ret := none) (by decide) rfl ?_
  intro p e s m args below meth c s₁ B hml hv
  obtain ⟨rfl, hv⟩ := hv
  have hsz := hv.1
  subst hsz
  have hw := pw_entry hF hv
  have hts := atoms_spec (ws := .code yX8_begin cX8_begin 3 none :: pq_U) B.pre
  have hU : ∀ w ∈ pq_U, w.before _ s = true := fun w h => hts w (List.mem_cons_of_mem _ h)
  have hx := B.exec
  have hb := B.bytes
  have hr := B.returns
  have hown : s.vm.findClass RX8 = some m.cls := findClass_of_methodNamed B.named
  have hlk := B.notSynchronized
  have hl := lv_entry ([.ref a0, .ref a1]) (n := 3) (Nat.le_of_ble_eq_true rfl)
  rw [lg_entry_eq]
  generalize (lg_sl ([.ref a0, .ref a1]) ++ List.replicate (3 - (lg_sl ([.ref a0, .ref a1])).length) Slot.unset).toArray = ls at hl ⊢
  have hl : lv_has ls 3 [(0, .ref a0), (1, .ref a1)] := hl
  have hE : Ext S0 S0 := Ext.rf _
  have cx : Cx p s m _ meth c cX8_begin 3 RX8 none := ⟨hx, hb, hml, hown, hU, hr, hlk⟩
  rw [m_X8_begin] at hm
  refine lv_aload_n hx hb dX8_begin_0 rfl (lv_at hl 0 rfl) ?_
  obtain ⟨q1, hq1, hm⟩ := bd_some hm
  have Tq1 : TY S0 q1 9 := hw.wf.ref (k := 8) (j := 0) Ta0 (by decide) (by decide) hq1
  refine pg_rb (k := 8) (j := 0) (f := 800) hx hb hown hU iu8 hw Ta0 (by decide) rfl (hU _ tw155) rfl hq1 dX8_begin_1 ?_
  obtain ⟨S_2, hq3, hm⟩ := bd_some hm
  refine pw_cv (va_runVN (As := []) (rest := []) ⟨hx, hb, hml, hown, hU⟩ (c_X9_clear l C X n S0 hw.wf _ q1 (Tq1) S_2 hq3) ⟨va_cnB (host := "WickNights") 0 hU (pq_g1 tc_X9_clear) rfl rfl rfl (hw.nw 108 rfl) (hU _ tw5) cd_X9_clear.2 ⟨Nat.le_of_ble_eq_true rfl, Nat.le_of_ble_eq_true rfl⟩, hU _ tw567, hU _ ts11⟩ (pw_preV hw Tq1 (by decide) rfl) rfl rfl hl.1 rfl (lv_room (Nat.le_of_ble_eq_true rfl)) dX8_begin_4 ⟨Nat.zero_le _, Nat.zero_le _⟩) hw (fun H locs hw hx4 => ?_)
  have Ta0 : TY S_2 a0 8 := ty_ext hx4 Ta0
  have Ta1 : TY S_2 a1 1 := ty_ext hx4 Ta1
  have hE : Ext S0 S_2 := Ext.tr hE hx4
  refine lv_aload_n hx hb dX8_begin_7 rfl (lv_at hl 0 rfl) ?_
  obtain ⟨q5, hq5, hm⟩ := bd_some hm
  have Tq5 : TY S_2 q5 9 := hw.wf.ref (k := 8) (j := 1) Ta0 (by decide) (by decide) hq5
  refine pg_rb (k := 8) (j := 1) (f := 801) hx hb hown hU iu8 hw Ta0 (by decide) rfl (hU _ tw159) rfl hq5 dX8_begin_8 ?_
  obtain ⟨S_6, hq7, hm⟩ := bd_some hm
  refine pw_cv (va_runVN (As := []) (rest := []) ⟨hx, hb, hml, hown, hU⟩ (c_X9_clear l C X n S_2 hw.wf _ q5 (Tq5) S_6 hq7) ⟨va_cnB (host := "WickNights") 0 hU (pq_g1 tc_X9_clear) rfl rfl rfl (hw.nw 108 rfl) (hU _ tw5) cd_X9_clear.2 ⟨Nat.le_of_ble_eq_true rfl, Nat.le_of_ble_eq_true rfl⟩, hU _ tw567, hU _ ts11⟩ (pw_preV hw Tq5 (by decide) rfl) rfl rfl hl.1 rfl (lv_room (Nat.le_of_ble_eq_true rfl)) dX8_begin_11 ⟨Nat.zero_le _, Nat.zero_le _⟩) hw (fun H locs hw hx8 => ?_)
  have Ta0 : TY S_6 a0 8 := ty_ext hx8 Ta0
  have Ta1 : TY S_6 a1 1 := ty_ext hx8 Ta1
  have hE : Ext S0 S_6 := Ext.tr hE hx8
  refine lv_aload_n hx hb dX8_begin_14 rfl (lv_at hl 0 rfl) ?_
  obtain ⟨q9, hq9, hm⟩ := bd_some hm
  have Tq9 : TY S_6 q9 9 := hw.wf.ref (k := 8) (j := 2) Ta0 (by decide) (by decide) hq9
  refine pg_rb (k := 8) (j := 2) (f := 802) hx hb hown hU iu8 hw Ta0 (by decide) rfl (hU _ tw162) rfl hq9 dX8_begin_15 ?_
  obtain ⟨S_10, hq11, hm⟩ := bd_some hm
  refine pw_cv (va_runVN (As := []) (rest := []) ⟨hx, hb, hml, hown, hU⟩ (c_X9_clear l C X n S_6 hw.wf _ q9 (Tq9) S_10 hq11) ⟨va_cnB (host := "WickNights") 0 hU (pq_g1 tc_X9_clear) rfl rfl rfl (hw.nw 108 rfl) (hU _ tw5) cd_X9_clear.2 ⟨Nat.le_of_ble_eq_true rfl, Nat.le_of_ble_eq_true rfl⟩, hU _ tw567, hU _ ts11⟩ (pw_preV hw Tq9 (by decide) rfl) rfl rfl hl.1 rfl (lv_room (Nat.le_of_ble_eq_true rfl)) dX8_begin_18 ⟨Nat.zero_le _, Nat.zero_le _⟩) hw (fun H locs hw hx12 => ?_)
  have Ta0 : TY S_10 a0 8 := ty_ext hx12 Ta0
  have Ta1 : TY S_10 a1 1 := ty_ext hx12 Ta1
  have hE : Ext S0 S_10 := Ext.tr hE hx12
  refine lv_aload_n hx hb dX8_begin_21 rfl (lv_at hl 0 rfl) ?_
  obtain ⟨q13, hq13, hm⟩ := bd_some hm
  have Tq13 : TY S_10 q13 9 := hw.wf.ref (k := 8) (j := 0) Ta0 (by decide) (by decide) hq13
  refine pg_rb (k := 8) (j := 0) (f := 800) hx hb hown hU iu8 hw Ta0 (by decide) rfl (hU _ tw155) rfl hq13 dX8_begin_22 ?_
  refine lv_aload_n hx hb dX8_begin_25 rfl (lv_at hl 1 rfl) ?_
  obtain ⟨q14, hq14, hm⟩ := bd_some hm
  have Tq14 : TY S_10 q14 9 := hw.wf.ref (k := 1) (j := 0) Ta1 (by decide) (by decide) hq14
  refine pgN_rb (k := 1) (j := 0) (f := 100) hx hb hown hU iu1 hw Ta1 (by decide) rfl 21 rfl rfl hq14 dX8_begin_26 ?_
  refine pgN_i (k := 9) (j := 2) (f := 902) hx hb hown hU iu9 hw Tq14 (by decide) rfl 13 rfl rfl dX8_begin_29 ?_
  refine ppN_i (k := 9) (j := 2) (f := 902) hx hb hown hU iu9 tyX9_ok nmX9 hw Tq13 (by decide) rfl 13 rfl rfl rfl rfl dX8_begin_32 (fun H locs hw => ?_)
  refine lv_aload_n hx hb dX8_begin_35 rfl (lv_at hl 0 rfl) ?_
  obtain ⟨q15, hq15, hm⟩ := bd_some hm
  have Tq15 : TY (sI S_10 902 q13 (pI S_10 902 q14)) q15 9 := hw.wf.ref (k := 8) (j := 1) Ta0 (by decide) (by decide) hq15
  refine pg_rb (k := 8) (j := 1) (f := 801) hx hb hown hU iu8 hw Ta0 (by decide) rfl (hU _ tw159) rfl hq15 dX8_begin_36 ?_
  refine lv_aload_n hx hb dX8_begin_39 rfl (lv_at hl 1 rfl) ?_
  obtain ⟨q16, hq16, hm⟩ := bd_some hm
  have Tq16 : TY (sI S_10 902 q13 (pI S_10 902 q14)) q16 9 := hw.wf.ref (k := 1) (j := 1) Ta1 (by decide) (by decide) hq16
  refine pgN_rb (k := 1) (j := 1) (f := 101) hx hb hown hU iu1 hw Ta1 (by decide) rfl 27 rfl rfl hq16 dX8_begin_40 ?_
  refine pgN_i (k := 9) (j := 2) (f := 902) hx hb hown hU iu9 hw Tq16 (by decide) rfl 13 rfl rfl dX8_begin_43 ?_
  refine ppN_i (k := 9) (j := 2) (f := 902) hx hb hown hU iu9 tyX9_ok nmX9 hw Tq15 (by decide) rfl 13 rfl rfl rfl rfl dX8_begin_46 (fun H locs hw => ?_)
  obtain ⟨S_17, eS_17, hm⟩ := lt_some hm
  rw [← eS_17] at hw
  have Ta0 : TY S_17 a0 8 := by rw [eS_17]; exact Ta0
  have Ta1 : TY S_17 a1 1 := by rw [eS_17]; exact Ta1
  have hE : Ext S0 S_17 := by rw [eS_17]; exact hE
  refine lv_aload_n hx hb dX8_begin_49 rfl (lv_at hl 0 rfl) ?_
  obtain ⟨q18, hq18, hm⟩ := bd_some hm
  have Tq18 : TY S_17 q18 9 := hw.wf.ref (k := 8) (j := 2) Ta0 (by decide) (by decide) hq18
  refine pg_rb (k := 8) (j := 2) (f := 802) hx hb hown hU iu8 hw Ta0 (by decide) rfl (hU _ tw162) rfl hq18 dX8_begin_50 ?_
  refine lv_aload_n hx hb dX8_begin_53 rfl (lv_at hl 1 rfl) ?_
  obtain ⟨q19, hq19, hm⟩ := bd_some hm
  have Tq19 : TY S_17 q19 9 := hw.wf.ref (k := 1) (j := 2) Ta1 (by decide) (by decide) hq19
  refine pgN_rb (k := 1) (j := 2) (f := 102) hx hb hown hU iu1 hw Ta1 (by decide) rfl 33 rfl rfl hq19 dX8_begin_54 ?_
  refine pgN_i (k := 9) (j := 2) (f := 902) hx hb hown hU iu9 hw Tq19 (by decide) rfl 13 rfl rfl dX8_begin_57 ?_
  refine ppN_i (k := 9) (j := 2) (f := 902) hx hb hown hU iu9 tyX9_ok nmX9 hw Tq18 (by decide) rfl 13 rfl rfl rfl rfl dX8_begin_60 (fun H locs hw => ?_)
  refine lv_iconst (v := 0) hx hb dX8_begin_63 (by decide) ?_
  refine lv_istore_n (lv' := [(2, .int 0), (0, .ref a0), (1, .ref a1)]) hx hb dX8_begin_64 rfl hl (by decide) rfl (fun ls hl => ?_)
  exact wb_X8_begin_65 cx C X S0 n S1 n a0 a1 0 (sI S_17 902 q18 (pI S_17 902 q19)) _ _ _ hw hE Ta0 Ta1 (lv_sub hl [1, 2, 0] rfl) hm
abbrev rm_X11_undo : Room := { frames := 4, cells := 0, slots := 0, locals := 143 }
def m_X11_undo (n : Nat) (a0 : Nat) (S0 : pq_S) : Option (Int32 × pq_S) := Option.bind (pR S0 1109 a0) fun q1 => if (pI S0 501 q1) = 0 then some ((-1), S0) else Option.bind (pR S0 1109 a0) fun q3 => Option.bind (pR S0 1101 a0) fun q4 => Option.bind (pR S0 701 q4) fun q5 => Option.bind (m_X5_pop n q3 q5 S0) fun S_6 => Option.bind (pR (sI S_6 1114 a0 0) 1109 a0) fun q9 => some ((pI (sI S_6 1114 a0 0) 501 q9), (sI S_6 1114 a0 0))
theorem tc_X11_undo : Cond.code yX11_undo cX11_undo 1 (some .int) ∈ pq_U := tw430
theorem cd_X11_undo : yX11_undo.cls = RX11 ∧ yX11_undo.cls ≠ "java/lang/invoke/MethodHandle" ∧ yX11_undo.cls ≠ "java/lang/invoke/VarHandle" ∧ (parseMethodDescriptor yX11_undo.desc).map (fun d => d.parameters.length) = some 0 := by decide +kernel
set_option maxHeartbeats 4000000 in
set_option maxRecDepth 100000 in
theorem c_X11_undo (l : Launch) (C : pq_C) (X : va_W) (n : Nat) (S0 : pq_S) (hF : WF S0) (sz : Nat) (a0 : Nat) (Ta0 : TY S0 a0 11) (r : Int32) (S1 : pq_S) (hm : m_X11_undo n a0 S0 = some (r, S1)) : MI l yX11_undo (.code yX11_undo cX11_undo 1 (some .int) :: pq_U) rm_X11_undo C X S0 sz [.ref a0] r S1 0 0 := by
  refine Met.ofW (cc := cX11_undo) (maxL := 1) (ret := (some .int)) (by decide) rfl ?_
  intro p e s m args below meth c s₁ B hml hv
  obtain ⟨rfl, hv⟩ := hv
  have hsz := hv.1
  subst hsz
  have hw := pw_entry hF hv
  have hts := atoms_spec (ws := .code yX11_undo cX11_undo 1 (some .int) :: pq_U) B.pre
  have hU : ∀ w ∈ pq_U, w.before _ s = true := fun w h => hts w (List.mem_cons_of_mem _ h)
  have hx := B.exec
  have hb := B.bytes
  have hr := B.returns
  have hown : s.vm.findClass RX11 = some m.cls := findClass_of_methodNamed B.named
  have hlk := B.notSynchronized
  have hl := lv_entry ([.ref a0]) (n := 1) (Nat.le_of_ble_eq_true rfl)
  rw [lg_entry_eq]
  generalize (lg_sl ([.ref a0]) ++ List.replicate (1 - (lg_sl ([.ref a0])).length) Slot.unset).toArray = ls at hl ⊢
  have hl : lv_has ls 1 [(0, .ref a0)] := hl
  have hE : Ext S0 S0 := Ext.rf _
  have cx : Cx p s m _ meth c cX11_undo 1 RX11 (some .int) := ⟨hx, hb, hml, hown, hU, hr, hlk⟩
  rw [m_X11_undo] at hm
  refine lv_aload_n hx hb dX11_undo_0 rfl (lv_at hl 0 rfl) ?_
  obtain ⟨q1, hq1, hm⟩ := bd_some hm
  have Tq1 : TY S0 q1 5 := hw.wf.ref (k := 11) (j := 9) Ta0 (by decide) (by decide) hq1
  refine pg_rb (k := 11) (j := 9) (f := 1109) hx hb hown hU iu11 hw Ta0 (by decide) rfl (hU _ tw372) rfl hq1 dX11_undo_1 ?_
  refine pgN_i (k := 5) (j := 1) (f := 501) hx hb hown hU iu5 hw Tq1 (by decide) rfl 82 rfl rfl dX11_undo_4 ?_
  refine lv_if_ne (tgt := 12) hx hb dX11_undo_7 (by decide) (fun h2 => ?_) (fun h2 => ?_)
  · rw [if_neg h2] at hm
    refine lv_aload_n hx hb dX11_undo_12 rfl (lv_at hl 0 rfl) ?_
    obtain ⟨q3, hq3, hm⟩ := bd_some hm
    have Tq3 : TY S0 q3 5 := hw.wf.ref (k := 11) (j := 9) Ta0 (by decide) (by decide) hq3
    refine pg_rb (k := 11) (j := 9) (f := 1109) hx hb hown hU iu11 hw Ta0 (by decide) rfl (hU _ tw372) rfl hq3 dX11_undo_13 ?_
    refine lv_aload_n hx hb dX11_undo_16 rfl (lv_at hl 0 rfl) ?_
    obtain ⟨q4, hq4, hm⟩ := bd_some hm
    have Tq4 : TY S0 q4 7 := hw.wf.ref (k := 11) (j := 1) Ta0 (by decide) (by decide) hq4
    refine pg_rb (k := 11) (j := 1) (f := 1101) hx hb hown hU iu11 hw Ta0 (by decide) rfl (hU _ tw364) rfl hq4 dX11_undo_17 ?_
    obtain ⟨q5, hq5, hm⟩ := bd_some hm
    have Tq5 : TY S0 q5 8 := hw.wf.ref (k := 7) (j := 1) Tq4 (by decide) (by decide) hq5
    refine pgN_rb (k := 7) (j := 1) (f := 701) hx hb hown hU iu7 hw Tq4 (by decide) rfl 59 rfl rfl hq5 dX11_undo_20 ?_
    obtain ⟨S_6, hq7, hm⟩ := bd_some hm
    refine pw_cv (va_runVN (As := [.ref q5]) (rest := []) ⟨hx, hb, hml, hown, hU⟩ (c_X5_pop l C X n S0 hw.wf _ q3 q5 (Tq3) (Tq5) S_6 hq7) ⟨va_cnB (host := "WickNights") 1 hU (pq_g1 tc_X5_pop) rfl rfl rfl (hw.nw 84 rfl) (hU _ tw13) cd_X5_pop.2 ⟨Nat.le_of_ble_eq_true rfl, Nat.le_of_ble_eq_true rfl⟩, hU _ tw433, hU _ ts1⟩ (pw_preV hw Tq3 (by decide) rfl) rfl rfl hl.1 rfl (lv_room (Nat.le_of_ble_eq_true rfl)) dX11_undo_23 ⟨Nat.zero_le _, Nat.zero_le _⟩) hw (fun H locs hw hx8 => ?_)
    have Ta0 : TY S_6 a0 11 := ty_ext hx8 Ta0
    have hE : Ext S0 S_6 := Ext.tr hE hx8
    refine lv_aload_n hx hb dX11_undo_26 rfl (lv_at hl 0 rfl) ?_
    refine lv_iconst (v := 0) hx hb dX11_undo_27 (by decide) ?_
    refine pp_i (k := 11) (j := 14) (f := 1114) hx hb hown hU iu11 tyX11_ok nmX11 hw Ta0 (by decide) rfl (hU _ tw377) rfl rfl rfl dX11_undo_28 (fun H locs hw => ?_)
    refine lv_aload_n hx hb dX11_undo_31 rfl (lv_at hl 0 rfl) ?_
    obtain ⟨q9, hq9, hm⟩ := bd_some hm
    have Tq9 : TY (sI S_6 1114 a0 0) q9 5 := hw.wf.ref (k := 11) (j := 9) Ta0 (by decide) (by decide) hq9
    refine pg_rb (k := 11) (j := 9) (f := 1109) hx hb hown hU iu11 hw Ta0 (by decide) rfl (hU _ tw372) rfl hq9 dX11_undo_32 ?_
    refine pgN_i (k := 5) (j := 1) (f := 501) hx hb hown hU iu5 hw Tq9 (by decide) rfl 82 rfl rfl dX11_undo_35 ?_
    cases hm
    exact pw_iret hx hb hr rfl hlk hw hE dX11_undo_38
  · rw [if_pos h2] at hm
    refine lv_iconst (v := (-1)) hx hb dX11_undo_10 (by decide) ?_
    cases hm
    exact pw_iret hx hb hr rfl hlk hw hE dX11_undo_11
abbrev rm_X1_readClause : Room := { frames := 5, cells := 0, slots := 0, locals := 107 }
def m_X1_readClause (n : Nat) (a0 : Nat) (a1 : Nat) (x2 : Int32) (S0 : pq_S) : Option pq_S := Option.bind (m_X10_takeWord n a1 S0) fun S_1 => cb (m_X10_isWell n a1 S_1) fun r6 S_4 => if r6 = 0 then some S_4 else cb (m_X10_isWord n a1 0 S_4) fun r12 S_10 => if r12 = 0 then cb (m_X10_isWord n a1 1 S_10) fun r18 S_16 => if r18 = 0 then cb (m_X10_isWord n a1 2 S_16) fun r24 S_22 => if r24 = 0 then cb (m_X10_isWord n a1 3 S_22) fun r30 S_28 => if r30 = 0 then cb (m_X10_isWord n a1 4 S_28) fun r36 S_34 => if r36 = 0 then cb (m_X10_isWord n a1 5 S_34) fun r42 S_40 => if r42 = 0 then Option.bind (m_X10_refuse n a1 1 (pI S_40 1004 a1) S_40) fun S_46 => some S_46 else cb (m_X1_readSetting n a1 x2 99 S_40) fun r51 S_49 => some (sI S_49 105 a0 r51) else cb (m_X1_readSetting n a1 x2 8 S_34) fun r55 S_53 => some (sI S_53 104 a0 r55) else Option.bind (m_X1_readMoon n a0 a1 x2 S_28) fun S_57 => some S_57 else Option.bind (m_X1_readMine n a0 a1 x2 S_22) fun S_60 => some S_60 else Option.bind (m_X1_readWant n a0 a1 x2 S_16) fun S_63 => some S_63 else Option.bind (m_X1_readPlace n a0 a1 x2 S_10) fun S_66 => some S_66
theorem tc_X1_readClause : Cond.code yX1_readClause cX1_readClause 3 none ∈ pq_U := tw577
theorem cd_X1_readClause : yX1_readClause.cls = RX1 ∧ yX1_readClause.cls ≠ "java/lang/invoke/MethodHandle" ∧ yX1_readClause.cls ≠ "java/lang/invoke/VarHandle" ∧ (parseMethodDescriptor yX1_readClause.desc).map (fun d => d.parameters.length) = some 2 := by decide +kernel
set_option maxHeartbeats 4000000 in
set_option maxRecDepth 100000 in
theorem c_X1_readClause (l : Launch) (C : pq_C) (X : va_W) (n : Nat) (S0 : pq_S) (hF : WF S0) (sz : Nat) (a0 : Nat) (a1 : Nat) (x2 : Int32) (Ta0 : TY S0 a0 1) (Ta1 : TY S0 a1 10) (S1 : pq_S) (hm : m_X1_readClause n a0 a1 x2 S0 = some S1) : MV l yX1_readClause (.code yX1_readClause cX1_readClause 3 none :: pq_U) rm_X1_readClause C X S0 sz [.ref a0, .ref a1, .int x2] S1 0 0 := by
  refine Met.ofW (cc := cX1_readClause) (maxL := 3) (ret := none) (by decide) rfl ?_
  intro p e s m args below meth c s₁ B hml hv
  obtain ⟨rfl, hv⟩ := hv
  have hsz := hv.1
  subst hsz
  have hw := pw_entry hF hv
  have hts := atoms_spec (ws := .code yX1_readClause cX1_readClause 3 none :: pq_U) B.pre
  have hU : ∀ w ∈ pq_U, w.before _ s = true := fun w h => hts w (List.mem_cons_of_mem _ h)
  have hx := B.exec
  have hb := B.bytes
  have hr := B.returns
  have hown : s.vm.findClass RX1 = some m.cls := findClass_of_methodNamed B.named
  have hlk := B.notSynchronized
  have hl := lv_entry ([.ref a0, .ref a1, .int x2]) (n := 3) (Nat.le_of_ble_eq_true rfl)
  rw [lg_entry_eq]
  generalize (lg_sl ([.ref a0, .ref a1, .int x2]) ++ List.replicate (3 - (lg_sl ([.ref a0, .ref a1, .int x2])).length) Slot.unset).toArray = ls at hl ⊢
  have hl : lv_has ls 3 [(0, .ref a0), (1, .ref a1), (2, .int x2)] := hl
  have hE : Ext S0 S0 := Ext.rf _
  have cx : Cx p s m _ meth c cX1_readClause 3 RX1 none := ⟨hx, hb, hml, hown, hU, hr, hlk⟩
  rw [m_X1_readClause] at hm
  refine lv_aload_n hx hb dX1_readClause_0 rfl (lv_at hl 1 rfl) ?_
  obtain ⟨S_1, hq2, hm⟩ := bd_some hm
  refine pw_cv (va_runVN (As := []) (rest := []) ⟨hx, hb, hml, hown, hU⟩ (c_X10_takeWord l C X n S0 hw.wf _ a1 (Ta1) S_1 hq2) ⟨va_cnB (host := "WickNights") 0 hU (pq_g1 tc_X10_takeWord) rfl rfl rfl (hw.nw 94 rfl) (hU _ tw2) cd_X10_takeWord.2 ⟨Nat.le_of_ble_eq_true rfl, Nat.le_of_ble_eq_true rfl⟩, hU _ tw580, hU _ ts14⟩ (pw_preV hw Ta1 (by decide) rfl) rfl rfl hl.1 rfl (lv_room (Nat.le_of_ble_eq_true rfl)) dX1_readClause_1 ⟨Nat.zero_le _, Nat.zero_le _⟩) hw (fun H locs hw hx3 => ?_)
  have Ta0 : TY S_1 a0 1 := ty_ext hx3 Ta0
  have Ta1 : TY S_1 a1 10 := ty_ext hx3 Ta1
  have hE : Ext S0 S_1 := Ext.tr hE hx3
  refine lv_aload_n hx hb dX1_readClause_4 rfl (lv_at hl 1 rfl) ?_
  obtain ⟨r6, S_4, hq5, hm⟩ := cb_some hm
  refine pw_cz (va_runVN (As := []) (rest := []) ⟨hx, hb, hml, hown, hU⟩ (c_X10_isWell l C X n S_1 hw.wf _ a1 (Ta1) r6 S_4 hq5) ⟨va_cnB (host := "WickNights") 0 hU (pq_g1 tc_X10_isWell) rfl rfl rfl (hw.nw 96 rfl) (hU _ tw2) cd_X10_isWell.2 ⟨Nat.le_of_ble_eq_true rfl, Nat.le_of_ble_eq_true rfl⟩, hU _ tw594, hU _ ts17⟩ (pw_preV hw Ta1 (by decide) rfl) rfl rfl hl.1 rfl (lv_room (Nat.le_of_ble_eq_true rfl)) dX1_readClause_5 ⟨Nat.zero_le _, Nat.zero_le _⟩) hw (fun H locs hw hx7 hz8 => ?_)
  have Ta0 : TY S_4 a0 1 := ty_ext hx7 Ta0
  have Ta1 : TY S_4 a1 10 := ty_ext hx7 Ta1
  have hE : Ext S0 S_4 := Ext.tr hE hx7
  refine lv_if_ne (tgt := 12) hx hb dX1_readClause_8 (by decide) (fun h9 => ?_) (fun h9 => ?_)
  · rw [if_neg h9] at hm
    refine lv_aload_n hx hb dX1_readClause_12 rfl (lv_at hl 1 rfl) ?_
    refine va_ldcS hx hb hown (hw.str 0 rfl) dX1_readClause_13 ?_
    obtain ⟨r12, S_10, hq11, hm⟩ := cb_some hm
    refine pw_cz (va_runVN (As := [.ref (C.2.2.2.2.2.2.1 0)]) (rest := []) ⟨hx, hb, hml, hown, hU⟩ (c_X10_isWord l C X n S_4 hw.wf _ a1 0 (Ta1) ((by decide)) r12 S_10 hq11) ⟨va_cnB (host := "WickNights") 1 hU (pq_g1 tc_X10_isWord) rfl rfl rfl (hw.nw 97 rfl) (hU _ tw2) cd_X10_isWord.2 ⟨Nat.le_of_ble_eq_true rfl, Nat.le_of_ble_eq_true rfl⟩, hU _ tw599, hU _ ts18⟩ (pw_preV hw Ta1 (by decide) rfl) rfl rfl hl.1 rfl (lv_room (Nat.le_of_ble_eq_true rfl)) dX1_readClause_15 ⟨Nat.zero_le _, Nat.zero_le _⟩) hw (fun H locs hw hx13 hz14 => ?_)
    have Ta0 : TY S_10 a0 1 := ty_ext hx13 Ta0
    have Ta1 : TY S_10 a1 10 := ty_ext hx13 Ta1
    have hE : Ext S0 S_10 := Ext.tr hE hx13
    refine lv_if_eq (tgt := 30) hx hb dX1_readClause_18 (by decide) (fun h15 => ?_) (fun h15 => ?_)
    · rw [if_pos h15] at hm
      refine lv_aload_n hx hb dX1_readClause_30 rfl (lv_at hl 1 rfl) ?_
      refine va_ldcS hx hb hown (hw.str 1 rfl) dX1_readClause_31 ?_
      obtain ⟨r18, S_16, hq17, hm⟩ := cb_some hm
      refine pw_cz (va_runVN (As := [.ref (C.2.2.2.2.2.2.1 1)]) (rest := []) ⟨hx, hb, hml, hown, hU⟩ (c_X10_isWord l C X n S_10 hw.wf _ a1 1 (Ta1) ((by decide)) r18 S_16 hq17) ⟨va_cnB (host := "WickNights") 1 hU (pq_g1 tc_X10_isWord) rfl rfl rfl (hw.nw 97 rfl) (hU _ tw2) cd_X10_isWord.2 ⟨Nat.le_of_ble_eq_true rfl, Nat.le_of_ble_eq_true rfl⟩, hU _ tw599, hU _ ts18⟩ (pw_preV hw Ta1 (by decide) rfl) rfl rfl hl.1 rfl (lv_room (Nat.le_of_ble_eq_true rfl)) dX1_readClause_33 ⟨Nat.zero_le _, Nat.zero_le _⟩) hw (fun H locs hw hx19 hz20 => ?_)
      have Ta0 : TY S_16 a0 1 := ty_ext hx19 Ta0
      have Ta1 : TY S_16 a1 10 := ty_ext hx19 Ta1
      have hE : Ext S0 S_16 := Ext.tr hE hx19
      refine lv_if_eq (tgt := 48) hx hb dX1_readClause_36 (by decide) (fun h21 => ?_) (fun h21 => ?_)
      · rw [if_pos h21] at hm
        refine lv_aload_n hx hb dX1_readClause_48 rfl (lv_at hl 1 rfl) ?_
        refine va_ldcS hx hb hown (hw.str 2 rfl) dX1_readClause_49 ?_
        obtain ⟨r24, S_22, hq23, hm⟩ := cb_some hm
        refine pw_cz (va_runVN (As := [.ref (C.2.2.2.2.2.2.1 2)]) (rest := []) ⟨hx, hb, hml, hown, hU⟩ (c_X10_isWord l C X n S_16 hw.wf _ a1 2 (Ta1) ((by decide)) r24 S_22 hq23) ⟨va_cnB (host := "WickNights") 1 hU (pq_g1 tc_X10_isWord) rfl rfl rfl (hw.nw 97 rfl) (hU _ tw2) cd_X10_isWord.2 ⟨Nat.le_of_ble_eq_true rfl, Nat.le_of_ble_eq_true rfl⟩, hU _ tw599, hU _ ts18⟩ (pw_preV hw Ta1 (by decide) rfl) rfl rfl hl.1 rfl (lv_room (Nat.le_of_ble_eq_true rfl)) dX1_readClause_51 ⟨Nat.zero_le _, Nat.zero_le _⟩) hw (fun H locs hw hx25 hz26 => ?_)
        have Ta0 : TY S_22 a0 1 := ty_ext hx25 Ta0
        have Ta1 : TY S_22 a1 10 := ty_ext hx25 Ta1
        have hE : Ext S0 S_22 := Ext.tr hE hx25
        refine lv_if_eq (tgt := 66) hx hb dX1_readClause_54 (by decide) (fun h27 => ?_) (fun h27 => ?_)
        · rw [if_pos h27] at hm
          refine lv_aload_n hx hb dX1_readClause_66 rfl (lv_at hl 1 rfl) ?_
          refine va_ldcS hx hb hown (hw.str 3 rfl) dX1_readClause_67 ?_
          obtain ⟨r30, S_28, hq29, hm⟩ := cb_some hm
          refine pw_cz (va_runVN (As := [.ref (C.2.2.2.2.2.2.1 3)]) (rest := []) ⟨hx, hb, hml, hown, hU⟩ (c_X10_isWord l C X n S_22 hw.wf _ a1 3 (Ta1) ((by decide)) r30 S_28 hq29) ⟨va_cnB (host := "WickNights") 1 hU (pq_g1 tc_X10_isWord) rfl rfl rfl (hw.nw 97 rfl) (hU _ tw2) cd_X10_isWord.2 ⟨Nat.le_of_ble_eq_true rfl, Nat.le_of_ble_eq_true rfl⟩, hU _ tw599, hU _ ts18⟩ (pw_preV hw Ta1 (by decide) rfl) rfl rfl hl.1 rfl (lv_room (Nat.le_of_ble_eq_true rfl)) dX1_readClause_69 ⟨Nat.zero_le _, Nat.zero_le _⟩) hw (fun H locs hw hx31 hz32 => ?_)
          have Ta0 : TY S_28 a0 1 := ty_ext hx31 Ta0
          have Ta1 : TY S_28 a1 10 := ty_ext hx31 Ta1
          have hE : Ext S0 S_28 := Ext.tr hE hx31
          refine lv_if_eq (tgt := 84) hx hb dX1_readClause_72 (by decide) (fun h33 => ?_) (fun h33 => ?_)
          · rw [if_pos h33] at hm
            refine lv_aload_n hx hb dX1_readClause_84 rfl (lv_at hl 1 rfl) ?_
            refine va_ldcS hx hb hown (hw.str 4 rfl) dX1_readClause_85 ?_
            obtain ⟨r36, S_34, hq35, hm⟩ := cb_some hm
            refine pw_cz (va_runVN (As := [.ref (C.2.2.2.2.2.2.1 4)]) (rest := []) ⟨hx, hb, hml, hown, hU⟩ (c_X10_isWord l C X n S_28 hw.wf _ a1 4 (Ta1) ((by decide)) r36 S_34 hq35) ⟨va_cnB (host := "WickNights") 1 hU (pq_g1 tc_X10_isWord) rfl rfl rfl (hw.nw 97 rfl) (hU _ tw2) cd_X10_isWord.2 ⟨Nat.le_of_ble_eq_true rfl, Nat.le_of_ble_eq_true rfl⟩, hU _ tw599, hU _ ts18⟩ (pw_preV hw Ta1 (by decide) rfl) rfl rfl hl.1 rfl (lv_room (Nat.le_of_ble_eq_true rfl)) dX1_readClause_87 ⟨Nat.zero_le _, Nat.zero_le _⟩) hw (fun H locs hw hx37 hz38 => ?_)
            have Ta0 : TY S_34 a0 1 := ty_ext hx37 Ta0
            have Ta1 : TY S_34 a1 10 := ty_ext hx37 Ta1
            have hE : Ext S0 S_34 := Ext.tr hE hx37
            refine lv_if_eq (tgt := 107) hx hb dX1_readClause_90 (by decide) (fun h39 => ?_) (fun h39 => ?_)
            · rw [if_pos h39] at hm
              refine lv_aload_n hx hb dX1_readClause_107 rfl (lv_at hl 1 rfl) ?_
              refine va_ldcS hx hb hown (hw.str 5 rfl) dX1_readClause_108 ?_
              obtain ⟨r42, S_40, hq41, hm⟩ := cb_some hm
              refine pw_cz (va_runVN (As := [.ref (C.2.2.2.2.2.2.1 5)]) (rest := []) ⟨hx, hb, hml, hown, hU⟩ (c_X10_isWord l C X n S_34 hw.wf _ a1 5 (Ta1) ((by decide)) r42 S_40 hq41) ⟨va_cnB (host := "WickNights") 1 hU (pq_g1 tc_X10_isWord) rfl rfl rfl (hw.nw 97 rfl) (hU _ tw2) cd_X10_isWord.2 ⟨Nat.le_of_ble_eq_true rfl, Nat.le_of_ble_eq_true rfl⟩, hU _ tw599, hU _ ts18⟩ (pw_preV hw Ta1 (by decide) rfl) rfl rfl hl.1 rfl (lv_room (Nat.le_of_ble_eq_true rfl)) dX1_readClause_110 ⟨Nat.zero_le _, Nat.zero_le _⟩) hw (fun H locs hw hx43 hz44 => ?_)
              have Ta0 : TY S_40 a0 1 := ty_ext hx43 Ta0
              have Ta1 : TY S_40 a1 10 := ty_ext hx43 Ta1
              have hE : Ext S0 S_40 := Ext.tr hE hx43
              refine lv_if_eq (tgt := 130) hx hb dX1_readClause_113 (by decide) (fun h45 => ?_) (fun h45 => ?_)
              · rw [if_pos h45] at hm
                refine lv_aload_n hx hb dX1_readClause_130 rfl (lv_at hl 1 rfl) ?_
                refine lv_iconst (v := 1) hx hb dX1_readClause_131 (by decide) ?_
                refine lv_aload_n hx hb dX1_readClause_132 rfl (lv_at hl 1 rfl) ?_
                refine pgN_i (k := 10) (j := 4) (f := 1004) hx hb hown hU iu10 hw Ta1 (by decide) rfl 5 rfl rfl dX1_readClause_133 ?_
                obtain ⟨S_46, hq47, hm⟩ := bd_some hm
                refine pw_cv (va_runVN (As := [.int 1, .int (pI S_40 1004 a1)]) (rest := []) ⟨hx, hb, hml, hown, hU⟩ (c_X10_refuse l C X n S_40 hw.wf _ a1 1 (pI S_40 1004 a1) (Ta1) S_46 hq47) ⟨va_cnB (host := "WickNights") 2 hU (pq_g1 tc_X10_refuse) rfl rfl rfl (hw.nw 99 rfl) (hU _ tw2) cd_X10_refuse.2 ⟨Nat.le_of_ble_eq_true rfl, Nat.le_of_ble_eq_true rfl⟩, hU _ tw586, hU _ ts15⟩ (pw_preV hw Ta1 (by decide) rfl) rfl rfl hl.1 rfl (lv_room (Nat.le_of_ble_eq_true rfl)) dX1_readClause_136 ⟨Nat.zero_le _, Nat.zero_le _⟩) hw (fun H locs hw hx48 => ?_)
                have Ta0 : TY S_46 a0 1 := ty_ext hx48 Ta0
                have Ta1 : TY S_46 a1 10 := ty_ext hx48 Ta1
                have hE : Ext S0 S_46 := Ext.tr hE hx48
                cases hm
                exact pw_vret hx hb hr hlk hw hE dX1_readClause_139
              · rw [if_neg h45] at hm
                refine lv_aload_n hx hb dX1_readClause_116 rfl (lv_at hl 0 rfl) ?_
                refine lv_aload_n hx hb dX1_readClause_117 rfl (lv_at hl 1 rfl) ?_
                refine lv_iload_n hx hb dX1_readClause_118 rfl (lv_at hl 2 rfl) ?_
                refine lv_bipush (v := 99) hx hb dX1_readClause_119 (by decide) ?_
                obtain ⟨r51, S_49, hq50, hm⟩ := cb_some hm
                refine pw_ci (va_runS (As := [.ref a1, .int x2, .int 99]) (rest := [.ref a0]) ⟨hx, hb, hml, hown, hU⟩ (c_X1_readSetting l C X n S_40 hw.wf _ a1 x2 99 (Ta1) r51 S_49 hq50) ⟨callB_of 3 hU (pq_g1 tc_X1_readSetting) rfl rfl rfl (hU _ tw4) (hU _ tw691) cd_X1_readSetting.2 ⟨Nat.le_of_ble_eq_true rfl, Nat.le_of_ble_eq_true rfl⟩, hU _ tw692⟩ (pw_preS hw) rfl rfl hl.1 rfl (lv_room (Nat.le_of_ble_eq_true rfl)) dX1_readClause_121 ⟨Nat.zero_le _, Nat.zero_le _⟩) hw (fun H locs hw hx52 => ?_)
                have Ta0 : TY S_49 a0 1 := ty_ext hx52 Ta0
                have Ta1 : TY S_49 a1 10 := ty_ext hx52 Ta1
                have hE : Ext S0 S_49 := Ext.tr hE hx52
                refine pp_i (k := 1) (j := 5) (f := 105) hx hb hown hU iu1 tyX1_ok nmX1 hw Ta0 (by decide) rfl (hU _ tw132) rfl rfl rfl dX1_readClause_124 (fun H locs hw => ?_)
                refine lv_goto (tgt := 139) hx hb dX1_readClause_127 (by decide) ?_
                cases hm
                exact pw_vret hx hb hr hlk hw hE dX1_readClause_139
            · rw [if_neg h39] at hm
              refine lv_aload_n hx hb dX1_readClause_93 rfl (lv_at hl 0 rfl) ?_
              refine lv_aload_n hx hb dX1_readClause_94 rfl (lv_at hl 1 rfl) ?_
              refine lv_iload_n hx hb dX1_readClause_95 rfl (lv_at hl 2 rfl) ?_
              refine lv_bipush (v := 8) hx hb dX1_readClause_96 (by decide) ?_
              obtain ⟨r55, S_53, hq54, hm⟩ := cb_some hm
              refine pw_ci (va_runS (As := [.ref a1, .int x2, .int 8]) (rest := [.ref a0]) ⟨hx, hb, hml, hown, hU⟩ (c_X1_readSetting l C X n S_34 hw.wf _ a1 x2 8 (Ta1) r55 S_53 hq54) ⟨callB_of 3 hU (pq_g1 tc_X1_readSetting) rfl rfl rfl (hU _ tw4) (hU _ tw691) cd_X1_readSetting.2 ⟨Nat.le_of_ble_eq_true rfl, Nat.le_of_ble_eq_true rfl⟩, hU _ tw692⟩ (pw_preS hw) rfl rfl hl.1 rfl (lv_room (Nat.le_of_ble_eq_true rfl)) dX1_readClause_98 ⟨Nat.zero_le _, Nat.zero_le _⟩) hw (fun H locs hw hx56 => ?_)
              have Ta0 : TY S_53 a0 1 := ty_ext hx56 Ta0
              have Ta1 : TY S_53 a1 10 := ty_ext hx56 Ta1
              have hE : Ext S0 S_53 := Ext.tr hE hx56
              refine pp_i (k := 1) (j := 4) (f := 104) hx hb hown hU iu1 tyX1_ok nmX1 hw Ta0 (by decide) rfl (hU _ tw130) rfl rfl rfl dX1_readClause_101 (fun H locs hw => ?_)
              refine lv_goto (tgt := 139) hx hb dX1_readClause_104 (by decide) ?_
              cases hm
              exact pw_vret hx hb hr hlk hw hE dX1_readClause_139
          · rw [if_neg h33] at hm
            refine lv_aload_n hx hb dX1_readClause_75 rfl (lv_at hl 0 rfl) ?_
            refine lv_aload_n hx hb dX1_readClause_76 rfl (lv_at hl 1 rfl) ?_
            refine lv_iload_n hx hb dX1_readClause_77 rfl (lv_at hl 2 rfl) ?_
            obtain ⟨S_57, hq58, hm⟩ := bd_some hm
            refine pw_cv (va_runV (As := [.ref a1, .int x2]) (rest := []) ⟨hx, hb, hml, hown, hU⟩ (c_X1_readMoon l C X n S_28 hw.wf _ a0 a1 x2 (Ta0) (Ta1) S_57 hq58) (cwV 2 hU (pq_gV tw686 tw688 ts26 tw4 tc_X1_readMoon) rfl rfl rfl cd_X1_readMoon ⟨Nat.le_of_ble_eq_true rfl, Nat.le_of_ble_eq_true rfl⟩) (pw_preV hw Ta0 (by decide) rfl) rfl rfl hl.1 rfl (lv_room (Nat.le_of_ble_eq_true rfl)) dX1_readClause_78 ⟨Nat.zero_le _, Nat.zero_le _⟩) hw (fun H locs hw hx59 => ?_)
            have Ta0 : TY S_57 a0 1 := ty_ext hx59 Ta0
            have Ta1 : TY S_57 a1 10 := ty_ext hx59 Ta1
            have hE : Ext S0 S_57 := Ext.tr hE hx59
            refine lv_goto (tgt := 139) hx hb dX1_readClause_81 (by decide) ?_
            cases hm
            exact pw_vret hx hb hr hlk hw hE dX1_readClause_139
        · rw [if_neg h27] at hm
          refine lv_aload_n hx hb dX1_readClause_57 rfl (lv_at hl 0 rfl) ?_
          refine lv_aload_n hx hb dX1_readClause_58 rfl (lv_at hl 1 rfl) ?_
          refine lv_iload_n hx hb dX1_readClause_59 rfl (lv_at hl 2 rfl) ?_
          obtain ⟨S_60, hq61, hm⟩ := bd_some hm
          refine pw_cv (va_runV (As := [.ref a1, .int x2]) (rest := []) ⟨hx, hb, hml, hown, hU⟩ (c_X1_readMine l C X n S_22 hw.wf _ a0 a1 x2 (Ta0) (Ta1) S_60 hq61) (cwV 2 hU (pq_gV tw681 tw683 ts25 tw4 tc_X1_readMine) rfl rfl rfl cd_X1_readMine ⟨Nat.le_of_ble_eq_true rfl, Nat.le_of_ble_eq_true rfl⟩) (pw_preV hw Ta0 (by decide) rfl) rfl rfl hl.1 rfl (lv_room (Nat.le_of_ble_eq_true rfl)) dX1_readClause_60 ⟨Nat.zero_le _, Nat.zero_le _⟩) hw (fun H locs hw hx62 => ?_)
          have Ta0 : TY S_60 a0 1 := ty_ext hx62 Ta0
          have Ta1 : TY S_60 a1 10 := ty_ext hx62 Ta1
          have hE : Ext S0 S_60 := Ext.tr hE hx62
          refine lv_goto (tgt := 139) hx hb dX1_readClause_63 (by decide) ?_
          cases hm
          exact pw_vret hx hb hr hlk hw hE dX1_readClause_139
      · rw [if_neg h21] at hm
        refine lv_aload_n hx hb dX1_readClause_39 rfl (lv_at hl 0 rfl) ?_
        refine lv_aload_n hx hb dX1_readClause_40 rfl (lv_at hl 1 rfl) ?_
        refine lv_iload_n hx hb dX1_readClause_41 rfl (lv_at hl 2 rfl) ?_
        obtain ⟨S_63, hq64, hm⟩ := bd_some hm
        refine pw_cv (va_runV (As := [.ref a1, .int x2]) (rest := []) ⟨hx, hb, hml, hown, hU⟩ (c_X1_readWant l C X n S_16 hw.wf _ a0 a1 x2 (Ta0) (Ta1) S_63 hq64) (cwV 2 hU (pq_gV tw676 tw678 ts24 tw4 tc_X1_readWant) rfl rfl rfl cd_X1_readWant ⟨Nat.le_of_ble_eq_true rfl, Nat.le_of_ble_eq_true rfl⟩) (pw_preV hw Ta0 (by decide) rfl) rfl rfl hl.1 rfl (lv_room (Nat.le_of_ble_eq_true rfl)) dX1_readClause_42 ⟨Nat.zero_le _, Nat.zero_le _⟩) hw (fun H locs hw hx65 => ?_)
        have Ta0 : TY S_63 a0 1 := ty_ext hx65 Ta0
        have Ta1 : TY S_63 a1 10 := ty_ext hx65 Ta1
        have hE : Ext S0 S_63 := Ext.tr hE hx65
        refine lv_goto (tgt := 139) hx hb dX1_readClause_45 (by decide) ?_
        cases hm
        exact pw_vret hx hb hr hlk hw hE dX1_readClause_139
    · rw [if_neg h15] at hm
      refine lv_aload_n hx hb dX1_readClause_21 rfl (lv_at hl 0 rfl) ?_
      refine lv_aload_n hx hb dX1_readClause_22 rfl (lv_at hl 1 rfl) ?_
      refine lv_iload_n hx hb dX1_readClause_23 rfl (lv_at hl 2 rfl) ?_
      obtain ⟨S_66, hq67, hm⟩ := bd_some hm
      refine pw_cv (va_runV (As := [.ref a1, .int x2]) (rest := []) ⟨hx, hb, hml, hown, hU⟩ (c_X1_readPlace l C X n S_10 hw.wf _ a0 a1 x2 (Ta0) (Ta1) S_66 hq67) (cwV 2 hU (pq_gV tw649 tw651 ts19 tw4 tc_X1_readPlace) rfl rfl rfl cd_X1_readPlace ⟨Nat.le_of_ble_eq_true rfl, Nat.le_of_ble_eq_true rfl⟩) (pw_preV hw Ta0 (by decide) rfl) rfl rfl hl.1 rfl (lv_room (Nat.le_of_ble_eq_true rfl)) dX1_readClause_24 ⟨Nat.zero_le _, Nat.zero_le _⟩) hw (fun H locs hw hx68 => ?_)
      have Ta0 : TY S_66 a0 1 := ty_ext hx68 Ta0
      have Ta1 : TY S_66 a1 10 := ty_ext hx68 Ta1
      have hE : Ext S0 S_66 := Ext.tr hE hx68
      refine lv_goto (tgt := 139) hx hb dX1_readClause_27 (by decide) ?_
      cases hm
      exact pw_vret hx hb hr hlk hw hE dX1_readClause_139
  · rw [if_pos h9] at hm
    cases hm
    exact pw_vret hx hb hr hlk hw hE dX1_readClause_11
abbrev rm_X3_isRest : Room := { frames := 4, cells := 0, slots := 0, locals := 94 }
def m_X3_isRest (n : Nat) (a0 : Nat) (x1 : Int32) (x2 : Int32) (x3 : Int32) (S0 : pq_S) : Option (Int32 × pq_S) := cb (m_X3_isBestAgainst n a0 x1 x2 x3 S0) fun r3 S_1 => if r3 = 0 then some (0, S_1) else cb (m_X3_isBestAgainst n a0 x1 x3 x2 S_1) fun r9 S_7 => if r9 = 0 then some (0, S_7) else some (1, S_7)
theorem tc_X3_isRest : Cond.code yX3_isRest cX3_isRest 4 (some .boolean) ∈ pq_U := tw1341
theorem cd_X3_isRest : yX3_isRest.cls = RX3 ∧ yX3_isRest.cls ≠ "java/lang/invoke/MethodHandle" ∧ yX3_isRest.cls ≠ "java/lang/invoke/VarHandle" ∧ (parseMethodDescriptor yX3_isRest.desc).map (fun d => d.parameters.length) = some 3 := by decide +kernel
set_option maxHeartbeats 4000000 in
set_option maxRecDepth 100000 in
theorem c_X3_isRest (l : Launch) (C : pq_C) (X : va_W) (n : Nat) (S0 : pq_S) (hF : WF S0) (sz : Nat) (a0 : Nat) (x1 : Int32) (x2 : Int32) (x3 : Int32) (Ta0 : TY S0 a0 3) (r : Int32) (S1 : pq_S) (hm : m_X3_isRest n a0 x1 x2 x3 S0 = some (r, S1)) : MZ l yX3_isRest (.code yX3_isRest cX3_isRest 4 (some .boolean) :: pq_U) rm_X3_isRest C X S0 sz [.ref a0, .int x1, .int x2, .int x3] r S1 0 0 := by
  refine Met.ofW (cc := cX3_isRest) (maxL := 4) (ret := (some .boolean)) (by decide) rfl ?_
  intro p e s m args below meth c s₁ B hml hv
  obtain ⟨rfl, hv⟩ := hv
  have hsz := hv.1
  subst hsz
  have hw := pw_entry hF hv
  have hts := atoms_spec (ws := .code yX3_isRest cX3_isRest 4 (some .boolean) :: pq_U) B.pre
  have hU : ∀ w ∈ pq_U, w.before _ s = true := fun w h => hts w (List.mem_cons_of_mem _ h)
  have hx := B.exec
  have hb := B.bytes
  have hr := B.returns
  have hown : s.vm.findClass RX3 = some m.cls := findClass_of_methodNamed B.named
  have hlk := B.notSynchronized
  have hl := lv_entry ([.ref a0, .int x1, .int x2, .int x3]) (n := 4) (Nat.le_of_ble_eq_true rfl)
  rw [lg_entry_eq]
  generalize (lg_sl ([.ref a0, .int x1, .int x2, .int x3]) ++ List.replicate (4 - (lg_sl ([.ref a0, .int x1, .int x2, .int x3])).length) Slot.unset).toArray = ls at hl ⊢
  have hl : lv_has ls 4 [(0, .ref a0), (1, .int x1), (2, .int x2), (3, .int x3)] := hl
  have hE : Ext S0 S0 := Ext.rf _
  have cx : Cx p s m _ meth c cX3_isRest 4 RX3 (some .boolean) := ⟨hx, hb, hml, hown, hU, hr, hlk⟩
  rw [m_X3_isRest] at hm
  refine lv_aload_n hx hb dX3_isRest_0 rfl (lv_at hl 0 rfl) ?_
  refine lv_iload_n hx hb dX3_isRest_1 rfl (lv_at hl 1 rfl) ?_
  refine lv_iload_n hx hb dX3_isRest_2 rfl (lv_at hl 2 rfl) ?_
  refine lv_iload_n hx hb dX3_isRest_3 rfl (lv_at hl 3 rfl) ?_
  obtain ⟨r3, S_1, hq2, hm⟩ := cb_some hm
  refine pw_cz (va_runV (As := [.int x1, .int x2, .int x3]) (rest := []) ⟨hx, hb, hml, hown, hU⟩ (c_X3_isBestAgainst l C X n S0 hw.wf _ a0 x1 x2 x3 (Ta0) r3 S_1 hq2) (cwV 3 hU (pq_gV tw1342 tw1344 ts112 tw8 tc_X3_isBestAgainst) rfl rfl rfl cd_X3_isBestAgainst ⟨Nat.le_of_ble_eq_true rfl, Nat.le_of_ble_eq_true rfl⟩) (pw_preV hw Ta0 (by decide) rfl) rfl rfl hl.1 rfl (lv_room (Nat.le_of_ble_eq_true rfl)) dX3_isRest_4 ⟨Nat.zero_le _, Nat.zero_le _⟩) hw (fun H locs hw hx4 hz5 => ?_)
  have Ta0 : TY S_1 a0 3 := ty_ext hx4 Ta0
  have hE : Ext S0 S_1 := Ext.tr hE hx4
  refine lv_if_eq (tgt := 24) hx hb dX3_isRest_7 (by decide) (fun h6 => ?_) (fun h6 => ?_)
  · rw [if_pos h6] at hm
    refine lv_iconst (v := 0) hx hb dX3_isRest_24 (by decide) ?_
    cases hm
    exact pw_zret hx hb hr bz_0 hlk hw hE dX3_isRest_25
  · rw [if_neg h6] at hm
    refine lv_aload_n hx hb dX3_isRest_10 rfl (lv_at hl 0 rfl) ?_
    refine lv_iload_n hx hb dX3_isRest_11 rfl (lv_at hl 1 rfl) ?_
    refine lv_iload_n hx hb dX3_isRest_12 rfl (lv_at hl 3 rfl) ?_
    refine lv_iload_n hx hb dX3_isRest_13 rfl (lv_at hl 2 rfl) ?_
    obtain ⟨r9, S_7, hq8, hm⟩ := cb_some hm
    refine pw_cz (va_runV (As := [.int x1, .int x3, .int x2]) (rest := []) ⟨hx, hb, hml, hown, hU⟩ (c_X3_isBestAgainst l C X n S_1 hw.wf _ a0 x1 x3 x2 (Ta0) r9 S_7 hq8) (cwV 3 hU (pq_gV tw1342 tw1344 ts112 tw8 tc_X3_isBestAgainst) rfl rfl rfl cd_X3_isBestAgainst ⟨Nat.le_of_ble_eq_true rfl, Nat.le_of_ble_eq_true rfl⟩) (pw_preV hw Ta0 (by decide) rfl) rfl rfl hl.1 rfl (lv_room (Nat.le_of_ble_eq_true rfl)) dX3_isRest_14 ⟨Nat.zero_le _, Nat.zero_le _⟩) hw (fun H locs hw hx10 hz11 => ?_)
    have Ta0 : TY S_7 a0 3 := ty_ext hx10 Ta0
    have hE : Ext S0 S_7 := Ext.tr hE hx10
    refine lv_if_eq (tgt := 24) hx hb dX3_isRest_17 (by decide) (fun h12 => ?_) (fun h12 => ?_)
    · rw [if_pos h12] at hm
      refine lv_iconst (v := 0) hx hb dX3_isRest_24 (by decide) ?_
      cases hm
      exact pw_zret hx hb hr bz_0 hlk hw hE dX3_isRest_25
    · rw [if_neg h12] at hm
      refine lv_iconst (v := 1) hx hb dX3_isRest_20 (by decide) ?_
      refine lv_goto (tgt := 25) hx hb dX3_isRest_21 (by decide) ?_
      cases hm
      exact pw_zret hx hb hr bz_1 hlk hw hE dX3_isRest_25
abbrev rm_X6_doStep : Room := { frames := 5, cells := 0, slots := 0, locals := 141 }
def m_X6_doStep (n : Nat) (a0 : Nat) (a1 : Nat) (x2 : Int32) (S0 : pq_S) : Option (Int32 × pq_S) := Option.bind (pR S0 600 a0) fun q1 => cb (m_X9_at n q1 x2 1 S0) fun r4 S_2 => Option.bind (pR S_2 600 a0) fun q6 => cb (m_X9_at n q6 x2 2 S_2) fun r9 S_7 => Option.bind (pR S_7 600 a0) fun q11 => cb (m_X9_at n q11 x2 0 S_7) fun r14 S_12 => if r14 = 0 then Option.bind (pR S_12 600 a0) fun q17 => cb (m_X9_at n q17 x2 3 S_12) fun r20 S_18 => Option.bind (pR S_18 600 a0) fun q22 => cb (m_X9_at n q22 x2 4 S_18) fun r25 S_23 => cb (m_X7_carryHours n a1 r4 r9 r20 r25 S_23) fun r29 S_27 => some (r29, S_27) else if r14 = 1 then cb (m_X7_sellWant n a1 r4 S_12) fun r35 S_33 => some (r35, S_33) else if r14 = 2 then cb (m_X7_waterHours n a1 r4 r9 S_12) fun r41 S_39 => some (r41, S_39) else if r14 = 3 then cb (m_X7_digShafts n a1 r4 r9 S_12) fun r47 S_45 => some (r47, S_45) else Option.bind (m_X7_passMonth n a1 S_12) fun S_50 => some (1, S_50)
theorem tc_X6_doStep : Cond.code yX6_doStep cX6_doStep 5 (some .boolean) ∈ pq_U := tw849
theorem cd_X6_doStep : yX6_doStep.cls = RX6 ∧ yX6_doStep.cls ≠ "java/lang/invoke/MethodHandle" ∧ yX6_doStep.cls ≠ "java/lang/invoke/VarHandle" ∧ (parseMethodDescriptor yX6_doStep.desc).map (fun d => d.parameters.length) = some 2 := by decide +kernel
set_option maxHeartbeats 4000000 in
set_option maxRecDepth 100000 in
theorem c_X6_doStep (l : Launch) (C : pq_C) (X : va_W) (n : Nat) (S0 : pq_S) (hF : WF S0) (sz : Nat) (a0 : Nat) (a1 : Nat) (x2 : Int32) (Ta0 : TY S0 a0 6) (Ta1 : TY S0 a1 7) (r : Int32) (S1 : pq_S) (hm : m_X6_doStep n a0 a1 x2 S0 = some (r, S1)) : MZ l yX6_doStep (.code yX6_doStep cX6_doStep 5 (some .boolean) :: pq_U) rm_X6_doStep C X S0 sz [.ref a0, .ref a1, .int x2] r S1 0 0 := by
  refine Met.ofW (cc := cX6_doStep) (maxL := 5) (ret := (some .boolean)) (by decide) rfl ?_
  intro p e s m args below meth c s₁ B hml hv
  obtain ⟨rfl, hv⟩ := hv
  have hsz := hv.1
  subst hsz
  have hw := pw_entry hF hv
  have hts := atoms_spec (ws := .code yX6_doStep cX6_doStep 5 (some .boolean) :: pq_U) B.pre
  have hU : ∀ w ∈ pq_U, w.before _ s = true := fun w h => hts w (List.mem_cons_of_mem _ h)
  have hx := B.exec
  have hb := B.bytes
  have hr := B.returns
  have hown : s.vm.findClass RX6 = some m.cls := findClass_of_methodNamed B.named
  have hlk := B.notSynchronized
  have hl := lv_entry ([.ref a0, .ref a1, .int x2]) (n := 5) (Nat.le_of_ble_eq_true rfl)
  rw [lg_entry_eq]
  generalize (lg_sl ([.ref a0, .ref a1, .int x2]) ++ List.replicate (5 - (lg_sl ([.ref a0, .ref a1, .int x2])).length) Slot.unset).toArray = ls at hl ⊢
  have hl : lv_has ls 5 [(0, .ref a0), (1, .ref a1), (2, .int x2)] := hl
  have hE : Ext S0 S0 := Ext.rf _
  have cx : Cx p s m _ meth c cX6_doStep 5 RX6 (some .boolean) := ⟨hx, hb, hml, hown, hU, hr, hlk⟩
  rw [m_X6_doStep] at hm
  refine lv_aload_n hx hb dX6_doStep_0 rfl (lv_at hl 0 rfl) ?_
  obtain ⟨q1, hq1, hm⟩ := bd_some hm
  have Tq1 : TY S0 q1 9 := hw.wf.ref (k := 6) (j := 0) Ta0 (by decide) (by decide) hq1
  refine pg_rb (k := 6) (j := 0) (f := 600) hx hb hown hU iu6 hw Ta0 (by decide) rfl (hU _ tw309) rfl hq1 dX6_doStep_1 ?_
  refine lv_iload_n hx hb dX6_doStep_4 rfl (lv_at hl 2 rfl) ?_
  refine lv_iconst (v := 1) hx hb dX6_doStep_5 (by decide) ?_
  obtain ⟨r4, S_2, hq3, hm⟩ := cb_some hm
  refine pw_ci (va_runVN (As := [.int x2, .int 1]) (rest := []) ⟨hx, hb, hml, hown, hU⟩ (c_X9_at l C X n S0 hw.wf _ q1 x2 1 (Tq1) r4 S_2 hq3) ⟨va_cnB (host := "WickNights") 2 hU (pq_g1 tc_X9_at) rfl rfl rfl (hw.nw 133 rfl) (hU _ tw5) cd_X9_at.2 ⟨Nat.le_of_ble_eq_true rfl, Nat.le_of_ble_eq_true rfl⟩, hU _ tw719, hU _ ts32⟩ (pw_preV hw Tq1 (by decide) rfl) rfl rfl hl.1 rfl (lv_room (Nat.le_of_ble_eq_true rfl)) dX6_doStep_6 ⟨Nat.zero_le _, Nat.zero_le _⟩) hw (fun H locs hw hx5 => ?_)
  have Ta0 : TY S_2 a0 6 := ty_ext hx5 Ta0
  have Ta1 : TY S_2 a1 7 := ty_ext hx5 Ta1
  have hE : Ext S0 S_2 := Ext.tr hE hx5
  refine lv_istore_n (lv' := [(3, .int r4), (0, .ref a0), (1, .ref a1), (2, .int x2)]) hx hb dX6_doStep_9 rfl hl (by decide) rfl (fun ls hl => ?_)
  refine lv_aload_n hx hb dX6_doStep_10 rfl (lv_at hl 1 rfl) ?_
  obtain ⟨q6, hq6, hm⟩ := bd_some hm
  have Tq6 : TY S_2 q6 9 := hw.wf.ref (k := 6) (j := 0) Ta0 (by decide) (by decide) hq6
  refine pg_rb (k := 6) (j := 0) (f := 600) hx hb hown hU iu6 hw Ta0 (by decide) rfl (hU _ tw309) rfl hq6 dX6_doStep_11 ?_
  refine lv_iload_n hx hb dX6_doStep_14 rfl (lv_at hl 3 rfl) ?_
  refine lv_iconst (v := 2) hx hb dX6_doStep_15 (by decide) ?_
  obtain ⟨r9, S_7, hq8, hm⟩ := cb_some hm
  refine pw_ci (va_runVN (As := [.int x2, .int 2]) (rest := []) ⟨hx, hb, hml, hown, hU⟩ (c_X9_at l C X n S_2 hw.wf _ q6 x2 2 (Tq6) r9 S_7 hq8) ⟨va_cnB (host := "WickNights") 2 hU (pq_g1 tc_X9_at) rfl rfl rfl (hw.nw 133 rfl) (hU _ tw5) cd_X9_at.2 ⟨Nat.le_of_ble_eq_true rfl, Nat.le_of_ble_eq_true rfl⟩, hU _ tw719, hU _ ts32⟩ (pw_preV hw Tq6 (by decide) rfl) rfl rfl hl.1 rfl (lv_room (Nat.le_of_ble_eq_true rfl)) dX6_doStep_16 ⟨Nat.zero_le _, Nat.zero_le _⟩) hw (fun H locs hw hx10 => ?_)
  have Ta0 : TY S_7 a0 6 := ty_ext hx10 Ta0
  have Ta1 : TY S_7 a1 7 := ty_ext hx10 Ta1
  have hE : Ext S0 S_7 := Ext.tr hE hx10
  refine lv_istore (lv' := [(4, .int r9), (3, .int r4), (0, .ref a0), (1, .ref a1), (2, .int x2)]) hx hb dX6_doStep_19 hl (by decide) rfl (fun ls hl => ?_)
  refine lv_aload_n hx hb dX6_doStep_21 rfl (lv_at hl 2 rfl) ?_
  obtain ⟨q11, hq11, hm⟩ := bd_some hm
  have Tq11 : TY S_7 q11 9 := hw.wf.ref (k := 6) (j := 0) Ta0 (by decide) (by decide) hq11
  refine pg_rb (k := 6) (j := 0) (f := 600) hx hb hown hU iu6 hw Ta0 (by decide) rfl (hU _ tw309) rfl hq11 dX6_doStep_22 ?_
  refine lv_iload_n hx hb dX6_doStep_25 rfl (lv_at hl 4 rfl) ?_
  refine lv_iconst (v := 0) hx hb dX6_doStep_26 (by decide) ?_
  obtain ⟨r14, S_12, hq13, hm⟩ := cb_some hm
  refine pw_ci (va_runVN (As := [.int x2, .int 0]) (rest := []) ⟨hx, hb, hml, hown, hU⟩ (c_X9_at l C X n S_7 hw.wf _ q11 x2 0 (Tq11) r14 S_12 hq13) ⟨va_cnB (host := "WickNights") 2 hU (pq_g1 tc_X9_at) rfl rfl rfl (hw.nw 133 rfl) (hU _ tw5) cd_X9_at.2 ⟨Nat.le_of_ble_eq_true rfl, Nat.le_of_ble_eq_true rfl⟩, hU _ tw719, hU _ ts32⟩ (pw_preV hw Tq11 (by decide) rfl) rfl rfl hl.1 rfl (lv_room (Nat.le_of_ble_eq_true rfl)) dX6_doStep_27 ⟨Nat.zero_le _, Nat.zero_le _⟩) hw (fun H locs hw hx15 => ?_)
  have Ta0 : TY S_12 a0 6 := ty_ext hx15 Ta0
  have Ta1 : TY S_12 a1 7 := ty_ext hx15 Ta1
  have hE : Ext S0 S_12 := Ext.tr hE hx15
  by_cases h16 : r14 = 0
  · rw [if_pos h16] at hm
    refine lv_tsIn (v := 0) h16 ?_
    refine lv_tableIn (tgt := 60) hx hb dX6_doStep_30 (by decide) (by decide) rfl (by decide) ?_
    refine lv_aload_n hx hb dX6_doStep_60 rfl (lv_at hl 3 rfl) ?_
    refine lv_iload_n hx hb dX6_doStep_61 rfl (lv_at hl 1 rfl) ?_
    refine lv_iload hx hb dX6_doStep_62 (lv_at hl 0 rfl) ?_
    refine lv_aload_n hx hb dX6_doStep_64 rfl (lv_at hl 2 rfl) ?_
    obtain ⟨q17, hq17, hm⟩ := bd_some hm
    have Tq17 : TY S_12 q17 9 := hw.wf.ref (k := 6) (j := 0) Ta0 (by decide) (by decide) hq17
    refine pg_rb (k := 6) (j := 0) (f := 600) hx hb hown hU iu6 hw Ta0 (by decide) rfl (hU _ tw309) rfl hq17 dX6_doStep_65 ?_
    refine lv_iload_n hx hb dX6_doStep_68 rfl (lv_at hl 4 rfl) ?_
    refine lv_iconst (v := 3) hx hb dX6_doStep_69 (by decide) ?_
    obtain ⟨r20, S_18, hq19, hm⟩ := cb_some hm
    refine pw_ci (va_runVN (As := [.int x2, .int 3]) (rest := [.int r9, .int r4, .ref a1]) ⟨hx, hb, hml, hown, hU⟩ (c_X9_at l C X n S_12 hw.wf _ q17 x2 3 (Tq17) r20 S_18 hq19) ⟨va_cnB (host := "WickNights") 2 hU (pq_g1 tc_X9_at) rfl rfl rfl (hw.nw 133 rfl) (hU _ tw5) cd_X9_at.2 ⟨Nat.le_of_ble_eq_true rfl, Nat.le_of_ble_eq_true rfl⟩, hU _ tw719, hU _ ts32⟩ (pw_preV hw Tq17 (by decide) rfl) rfl rfl hl.1 rfl (lv_room (Nat.le_of_ble_eq_true rfl)) dX6_doStep_70 ⟨Nat.zero_le _, Nat.zero_le _⟩) hw (fun H locs hw hx21 => ?_)
    have Ta1 : TY S_18 a1 7 := ty_ext hx21 Ta1
    have Ta0 : TY S_18 a0 6 := ty_ext hx21 Ta0
    have hE : Ext S0 S_18 := Ext.tr hE hx21
    refine lv_aload_n hx hb dX6_doStep_73 rfl (lv_at hl 2 rfl) ?_
    obtain ⟨q22, hq22, hm⟩ := bd_some hm
    have Tq22 : TY S_18 q22 9 := hw.wf.ref (k := 6) (j := 0) Ta0 (by decide) (by decide) hq22
    refine pg_rb (k := 6) (j := 0) (f := 600) hx hb hown hU iu6 hw Ta0 (by decide) rfl (hU _ tw309) rfl hq22 dX6_doStep_74 ?_
    refine lv_iload_n hx hb dX6_doStep_77 rfl (lv_at hl 4 rfl) ?_
    refine lv_iconst (v := 4) hx hb dX6_doStep_78 (by decide) ?_
    obtain ⟨r25, S_23, hq24, hm⟩ := cb_some hm
    refine pw_ci (va_runVN (As := [.int x2, .int 4]) (rest := [.int r20, .int r9, .int r4, .ref a1]) ⟨hx, hb, hml, hown, hU⟩ (c_X9_at l C X n S_18 hw.wf _ q22 x2 4 (Tq22) r25 S_23 hq24) ⟨va_cnB (host := "WickNights") 2 hU (pq_g1 tc_X9_at) rfl rfl rfl (hw.nw 133 rfl) (hU _ tw5) cd_X9_at.2 ⟨Nat.le_of_ble_eq_true rfl, Nat.le_of_ble_eq_true rfl⟩, hU _ tw719, hU _ ts32⟩ (pw_preV hw Tq22 (by decide) rfl) rfl rfl hl.1 rfl (lv_room (Nat.le_of_ble_eq_true rfl)) dX6_doStep_79 ⟨Nat.zero_le _, Nat.zero_le _⟩) hw (fun H locs hw hx26 => ?_)
    have Ta1 : TY S_23 a1 7 := ty_ext hx26 Ta1
    have Ta0 : TY S_23 a0 6 := ty_ext hx26 Ta0
    have hE : Ext S0 S_23 := Ext.tr hE hx26
    obtain ⟨r29, S_27, hq28, hm⟩ := cb_some hm
    refine pw_cz (va_runVN (As := [.int r4, .int r9, .int r20, .int r25]) (rest := []) ⟨hx, hb, hml, hown, hU⟩ (c_X7_carryHours l C X n S_23 hw.wf _ a1 r4 r9 r20 r25 (Ta1) r29 S_27 hq28) ⟨va_cnB (host := "WickNights") 4 hU (pq_g1 tc_X7_carryHours) rfl rfl rfl (hw.nw 134 rfl) (hU _ tw3) cd_X7_carryHours.2 ⟨Nat.le_of_ble_eq_true rfl, Nat.le_of_ble_eq_true rfl⟩, hU _ tw852, hU _ ts51⟩ (pw_preV hw Ta1 (by decide) rfl) rfl rfl hl.1 rfl (lv_room (Nat.le_of_ble_eq_true rfl)) dX6_doStep_82 ⟨Nat.zero_le _, Nat.zero_le _⟩) hw (fun H locs hw hx30 hz31 => ?_)
    have Ta0 : TY S_27 a0 6 := ty_ext hx30 Ta0
    have Ta1 : TY S_27 a1 7 := ty_ext hx30 Ta1
    have hE : Ext S0 S_27 := Ext.tr hE hx30
    cases hm
    exact pw_zret hx hb hr hz31 hlk hw hE dX6_doStep_85
  · rw [if_neg h16] at hm
    by_cases h32 : r14 = 1
    · rw [if_pos h32] at hm
      refine lv_tsIn (v := 1) h32 ?_
      refine lv_tableIn (tgt := 86) hx hb dX6_doStep_30 (by decide) (by decide) rfl (by decide) ?_
      refine lv_aload_n hx hb dX6_doStep_86 rfl (lv_at hl 3 rfl) ?_
      refine lv_iload_n hx hb dX6_doStep_87 rfl (lv_at hl 1 rfl) ?_
      obtain ⟨r35, S_33, hq34, hm⟩ := cb_some hm
      refine pw_cz (va_runVN (As := [.int r4]) (rest := []) ⟨hx, hb, hml, hown, hU⟩ (c_X7_sellWant l C X n S_12 hw.wf _ a1 r4 (Ta1) r35 S_33 hq34) ⟨va_cnB (host := "WickNights") 1 hU (pq_g1 tc_X7_sellWant) rfl rfl rfl (hw.nw 142 rfl) (hU _ tw3) cd_X7_sellWant.2 ⟨Nat.le_of_ble_eq_true rfl, Nat.le_of_ble_eq_true rfl⟩, hU _ tw902, hU _ ts60⟩ (pw_preV hw Ta1 (by decide) rfl) rfl rfl hl.1 rfl (lv_room (Nat.le_of_ble_eq_true rfl)) dX6_doStep_88 ⟨Nat.zero_le _, Nat.zero_le _⟩) hw (fun H locs hw hx36 hz37 => ?_)
      have Ta0 : TY S_33 a0 6 := ty_ext hx36 Ta0
      have Ta1 : TY S_33 a1 7 := ty_ext hx36 Ta1
      have hE : Ext S0 S_33 := Ext.tr hE hx36
      cases hm
      exact pw_zret hx hb hr hz37 hlk hw hE dX6_doStep_91
    · rw [if_neg h32] at hm
      by_cases h38 : r14 = 2
      · rw [if_pos h38] at hm
        refine lv_tsIn (v := 2) h38 ?_
        refine lv_tableIn (tgt := 92) hx hb dX6_doStep_30 (by decide) (by decide) rfl (by decide) ?_
        refine lv_aload_n hx hb dX6_doStep_92 rfl (lv_at hl 3 rfl) ?_
        refine lv_iload_n hx hb dX6_doStep_93 rfl (lv_at hl 1 rfl) ?_
        refine lv_iload hx hb dX6_doStep_94 (lv_at hl 0 rfl) ?_
        obtain ⟨r41, S_39, hq40, hm⟩ := cb_some hm
        refine pw_cz (va_runVN (As := [.int r4, .int r9]) (rest := []) ⟨hx, hb, hml, hown, hU⟩ (c_X7_waterHours l C X n S_12 hw.wf _ a1 r4 r9 (Ta1) r41 S_39 hq40) ⟨va_cnB (host := "WickNights") 2 hU (pq_g1 tc_X7_waterHours) rfl rfl rfl (hw.nw 144 rfl) (hU _ tw3) cd_X7_waterHours.2 ⟨Nat.le_of_ble_eq_true rfl, Nat.le_of_ble_eq_true rfl⟩, hU _ tw915, hU _ ts63⟩ (pw_preV hw Ta1 (by decide) rfl) rfl rfl hl.1 rfl (lv_room (Nat.le_of_ble_eq_true rfl)) dX6_doStep_96 ⟨Nat.zero_le _, Nat.zero_le _⟩) hw (fun H locs hw hx42 hz43 => ?_)
        have Ta0 : TY S_39 a0 6 := ty_ext hx42 Ta0
        have Ta1 : TY S_39 a1 7 := ty_ext hx42 Ta1
        have hE : Ext S0 S_39 := Ext.tr hE hx42
        cases hm
        exact pw_zret hx hb hr hz43 hlk hw hE dX6_doStep_99
      · rw [if_neg h38] at hm
        by_cases h44 : r14 = 3
        · rw [if_pos h44] at hm
          refine lv_tsIn (v := 3) h44 ?_
          refine lv_tableIn (tgt := 100) hx hb dX6_doStep_30 (by decide) (by decide) rfl (by decide) ?_
          refine lv_aload_n hx hb dX6_doStep_100 rfl (lv_at hl 3 rfl) ?_
          refine lv_iload_n hx hb dX6_doStep_101 rfl (lv_at hl 1 rfl) ?_
          refine lv_iload hx hb dX6_doStep_102 (lv_at hl 0 rfl) ?_
          obtain ⟨r47, S_45, hq46, hm⟩ := cb_some hm
          refine pw_cz (va_runVN (As := [.int r4, .int r9]) (rest := []) ⟨hx, hb, hml, hown, hU⟩ (c_X7_digShafts l C X n S_12 hw.wf _ a1 r4 r9 (Ta1) r47 S_45 hq46) ⟨va_cnB (host := "WickNights") 2 hU (pq_g1 tc_X7_digShafts) rfl rfl rfl (hw.nw 145 rfl) (hU _ tw3) cd_X7_digShafts.2 ⟨Nat.le_of_ble_eq_true rfl, Nat.le_of_ble_eq_true rfl⟩, hU _ tw919, hU _ ts64⟩ (pw_preV hw Ta1 (by decide) rfl) rfl rfl hl.1 rfl (lv_room (Nat.le_of_ble_eq_true rfl)) dX6_doStep_104 ⟨Nat.zero_le _, Nat.zero_le _⟩) hw (fun H locs hw hx48 hz49 => ?_)
          have Ta0 : TY S_45 a0 6 := ty_ext hx48 Ta0
          have Ta1 : TY S_45 a1 7 := ty_ext hx48 Ta1
          have hE : Ext S0 S_45 := Ext.tr hE hx48
          cases hm
          exact pw_zret hx hb hr hz49 hlk hw hE dX6_doStep_107
        · rw [if_neg h44] at hm
          refine lv_tableOut (tgt := 108) hx hb dX6_doStep_30 (ts_out (lo := 0) (hi := 3) (fun j hj1 hj2 => ?_)) (by decide) ?_
          · have hj : j = 0 ∨ j = 1 ∨ j = 2 ∨ j = 3 := by clear hm; omega
            rcases hj with rfl | rfl | rfl | rfl
            · exact h16
            · exact h32
            · exact h38
            · exact h44
          refine lv_aload_n hx hb dX6_doStep_108 rfl (lv_at hl 3 rfl) ?_
          obtain ⟨S_50, hq51, hm⟩ := bd_some hm
          refine pw_cv (va_runVN (As := []) (rest := []) ⟨hx, hb, hml, hown, hU⟩ (c_X7_passMonth l C X n S_12 hw.wf _ a1 (Ta1) S_50 hq51) ⟨va_cnB (host := "WickNights") 0 hU (pq_g1 tc_X7_passMonth) rfl rfl rfl (hw.nw 146 rfl) (hU _ tw3) cd_X7_passMonth.2 ⟨Nat.le_of_ble_eq_true rfl, Nat.le_of_ble_eq_true rfl⟩, hU _ tw931, hU _ ts67⟩ (pw_preV hw Ta1 (by decide) rfl) rfl rfl hl.1 rfl (lv_room (Nat.le_of_ble_eq_true rfl)) dX6_doStep_109 ⟨Nat.zero_le _, Nat.zero_le _⟩) hw (fun H locs hw hx52 => ?_)
          have Ta0 : TY S_50 a0 6 := ty_ext hx52 Ta0
          have Ta1 : TY S_50 a1 7 := ty_ext hx52 Ta1
          have hE : Ext S0 S_50 := Ext.tr hE hx52
          refine lv_iconst (v := 1) hx hb dX6_doStep_112 (by decide) ?_
          cases hm
          exact pw_zret hx hb hr bz_1 hlk hw hE dX6_doStep_113
abbrev rm_X7_begin : Room := { frames := 3, cells := 0, slots := 0, locals := 122 }
def m_X7_begin (n : Nat) (a0 : Nat) (a1 : Nat) (S0 : pq_S) : Option pq_S := Option.bind (pR S0 700 a0) fun q1 => Option.bind (m_X1_copyFrom n q1 a1 S0) fun S_2 => Option.bind (pR S_2 701 a0) fun q5 => Option.bind (pR S_2 700 a0) fun q6 => Option.bind (m_X8_begin n q5 q6 S_2) fun S_7 => Option.bind (pR S_7 702 a0) fun q10 => Option.bind (pR (sI S_7 203 q10 0) 703 a0) fun q11 => some (sI (sI S_7 203 q10 0) 203 q11 0)
theorem tc_X7_begin : Cond.code yX7_begin cX7_begin 2 none ∈ pq_U := tw706
theorem cd_X7_begin : yX7_begin.cls = RX7 ∧ yX7_begin.cls ≠ "java/lang/invoke/MethodHandle" ∧ yX7_begin.cls ≠ "java/lang/invoke/VarHandle" ∧ (parseMethodDescriptor yX7_begin.desc).map (fun d => d.parameters.length) = some 1 := by decide +kernel
set_option maxHeartbeats 4000000 in
set_option maxRecDepth 100000 in
theorem c_X7_begin (l : Launch) (C : pq_C) (X : va_W) (n : Nat) (S0 : pq_S) (hF : WF S0) (sz : Nat) (a0 : Nat) (a1 : Nat) (Ta0 : TY S0 a0 7) (Ta1 : TY S0 a1 1) (S1 : pq_S) (hm : m_X7_begin n a0 a1 S0 = some S1) : MV l yX7_begin (.code yX7_begin cX7_begin 2 none :: pq_U) rm_X7_begin C X S0 sz [.ref a0, .ref a1] S1 0 0 := by
  refine Met.ofW (cc := cX7_begin) (maxL := 2) (ret := none) (by decide) rfl ?_
  intro p e s m args below meth c s₁ B hml hv
  obtain ⟨rfl, hv⟩ := hv
  have hsz := hv.1
  subst hsz
  have hw := pw_entry hF hv
  have hts := atoms_spec (ws := .code yX7_begin cX7_begin 2 none :: pq_U) B.pre
  have hU : ∀ w ∈ pq_U, w.before _ s = true := fun w h => hts w (List.mem_cons_of_mem _ h)
  have hx := B.exec
  have hb := B.bytes
  have hr := B.returns
  have hown : s.vm.findClass RX7 = some m.cls := findClass_of_methodNamed B.named
  have hlk := B.notSynchronized
  have hl := lv_entry ([.ref a0, .ref a1]) (n := 2) (Nat.le_of_ble_eq_true rfl)
  rw [lg_entry_eq]
  generalize (lg_sl ([.ref a0, .ref a1]) ++ List.replicate (2 - (lg_sl ([.ref a0, .ref a1])).length) Slot.unset).toArray = ls at hl ⊢
  have hl : lv_has ls 2 [(0, .ref a0), (1, .ref a1)] := hl
  have hE : Ext S0 S0 := Ext.rf _
  have cx : Cx p s m _ meth c cX7_begin 2 RX7 none := ⟨hx, hb, hml, hown, hU, hr, hlk⟩
  rw [m_X7_begin] at hm
  refine lv_aload_n hx hb dX7_begin_0 rfl (lv_at hl 0 rfl) ?_
  obtain ⟨q1, hq1, hm⟩ := bd_some hm
  have Tq1 : TY S0 q1 1 := hw.wf.ref (k := 7) (j := 0) Ta0 (by decide) (by decide) hq1
  refine pg_rb (k := 7) (j := 0) (f := 700) hx hb hown hU iu7 hw Ta0 (by decide) rfl (hU _ tw205) rfl hq1 dX7_begin_1 ?_
  refine lv_aload_n hx hb dX7_begin_4 rfl (lv_at hl 1 rfl) ?_
  obtain ⟨S_2, hq3, hm⟩ := bd_some hm
  refine pw_cv (va_runVN (As := [.ref a1]) (rest := []) ⟨hx, hb, hml, hown, hU⟩ (c_X1_copyFrom l C X n S0 hw.wf _ q1 a1 (Tq1) (Ta1) S_2 hq3) ⟨va_cnB (host := "WickNights") 1 hU (pq_g1 tc_X1_copyFrom) rfl rfl rfl (hw.nw 105 rfl) (hU _ tw4) cd_X1_copyFrom.2 ⟨Nat.le_of_ble_eq_true rfl, Nat.le_of_ble_eq_true rfl⟩, hU _ tw709, hU _ ts30⟩ (pw_preV hw Tq1 (by decide) rfl) rfl rfl hl.1 rfl (lv_room (Nat.le_of_ble_eq_true rfl)) dX7_begin_5 ⟨Nat.zero_le _, Nat.zero_le _⟩) hw (fun H locs hw hx4 => ?_)
  have Ta0 : TY S_2 a0 7 := ty_ext hx4 Ta0
  have Ta1 : TY S_2 a1 1 := ty_ext hx4 Ta1
  have hE : Ext S0 S_2 := Ext.tr hE hx4
  refine lv_aload_n hx hb dX7_begin_8 rfl (lv_at hl 0 rfl) ?_
  obtain ⟨q5, hq5, hm⟩ := bd_some hm
  have Tq5 : TY S_2 q5 8 := hw.wf.ref (k := 7) (j := 1) Ta0 (by decide) (by decide) hq5
  refine pg_rb (k := 7) (j := 1) (f := 701) hx hb hown hU iu7 hw Ta0 (by decide) rfl (hU _ tw209) rfl hq5 dX7_begin_9 ?_
  refine lv_aload_n hx hb dX7_begin_12 rfl (lv_at hl 0 rfl) ?_
  obtain ⟨q6, hq6, hm⟩ := bd_some hm
  have Tq6 : TY S_2 q6 1 := hw.wf.ref (k := 7) (j := 0) Ta0 (by decide) (by decide) hq6
  refine pg_rb (k := 7) (j := 0) (f := 700) hx hb hown hU iu7 hw Ta0 (by decide) rfl (hU _ tw205) rfl hq6 dX7_begin_13 ?_
  obtain ⟨S_7, hq8, hm⟩ := bd_some hm
  refine pw_cv (va_runVN (As := [.ref q6]) (rest := []) ⟨hx, hb, hml, hown, hU⟩ (c_X8_begin l C X n S_2 hw.wf _ q5 q6 (Tq5) (Tq6) S_7 hq8) ⟨va_cnB (host := "WickNights") 1 hU (pq_g1 tc_X8_begin) rfl rfl rfl (hw.nw 107 rfl) (hU _ tw6) cd_X8_begin.2 ⟨Nat.le_of_ble_eq_true rfl, Nat.le_of_ble_eq_true rfl⟩, hU _ tw714, hU _ ts31⟩ (pw_preV hw Tq5 (by decide) rfl) rfl rfl hl.1 rfl (lv_room (Nat.le_of_ble_eq_true rfl)) dX7_begin_16 ⟨Nat.zero_le _, Nat.zero_le _⟩) hw (fun H locs hw hx9 => ?_)
  have Ta0 : TY S_7 a0 7 := ty_ext hx9 Ta0
  have Ta1 : TY S_7 a1 1 := ty_ext hx9 Ta1
  have hE : Ext S0 S_7 := Ext.tr hE hx9
  refine lv_aload_n hx hb dX7_begin_19 rfl (lv_at hl 0 rfl) ?_
  obtain ⟨q10, hq10, hm⟩ := bd_some hm
  have Tq10 : TY S_7 q10 2 := hw.wf.ref (k := 7) (j := 2) Ta0 (by decide) (by decide) hq10
  refine pg_rb (k := 7) (j := 2) (f := 702) hx hb hown hU iu7 hw Ta0 (by decide) rfl (hU _ tw212) rfl hq10 dX7_begin_20 ?_
  refine lv_iconst (v := 0) hx hb dX7_begin_23 (by decide) ?_
  refine ppN_i (k := 2) (j := 3) (f := 203) hx hb hown hU iu2 tyX2_ok nmX2 hw Tq10 (by decide) rfl 54 rfl rfl rfl rfl dX7_begin_24 (fun H locs hw => ?_)
  refine lv_aload_n hx hb dX7_begin_27 rfl (lv_at hl 0 rfl) ?_
  obtain ⟨q11, hq11, hm⟩ := bd_some hm
  have Tq11 : TY (sI S_7 203 q10 0) q11 2 := hw.wf.ref (k := 7) (j := 3) Ta0 (by decide) (by decide) hq11
  refine pg_rb (k := 7) (j := 3) (f := 703) hx hb hown hU iu7 hw Ta0 (by decide) rfl (hU _ tw214) rfl hq11 dX7_begin_28 ?_
  refine lv_iconst (v := 0) hx hb dX7_begin_31 (by decide) ?_
  refine ppN_i (k := 2) (j := 3) (f := 203) hx hb hown hU iu2 tyX2_ok nmX2 hw Tq11 (by decide) rfl 54 rfl rfl rfl rfl dX7_begin_32 (fun H locs hw => ?_)
  cases hm
  exact pw_vret hx hb hr hlk hw hE dX7_begin_35
abbrev rmg_runS (d : Nat) : Room := { frames := 6 + d, cells := 0, slots := 0, locals := 165 + d * 27 }
theorem rmg_runS_l (d : Nat) {q : Nat} (h : q ≤ 8) : 8 + (q + 11) + (rmg_runS d).locals ≤ (rmg_runS (d + 1)).locals := by show 8 + (q + 11) + (165 + d * 27) ≤ 165 + (d + 1) * 27; omega
theorem tc_X6_runSteps : Cond.code yX6_runSteps cX6_runSteps 8 none ∈ pq_U := tw840
theorem cd_X6_runSteps : yX6_runSteps.cls = RX6 ∧ yX6_runSteps.cls ≠ "java/lang/invoke/MethodHandle" ∧ yX6_runSteps.cls ≠ "java/lang/invoke/VarHandle" ∧ (parseMethodDescriptor yX6_runSteps.desc).map (fun d => d.parameters.length) = some 4 := by decide +kernel
def HG_runS (n d : Nat) (rec : (Nat → Nat → Int32 → Int32 → Int32 → pq_S → Option pq_S)) : Prop := (∀ (l : Launch) (C : pq_C) (X : va_W) (S0 : pq_S) (_ : WF S0) (sz : Nat) (a0 : Nat) (a1 : Nat) (x2 : Int32) (x3 : Int32) (x4 : Int32) (_Ta0 : TY S0 a0 6) (_Ta1 : TY S0 a1 7) (S1 : pq_S), rec a0 a1 x2 x3 x4 S0 = some S1 → MV l yX6_runSteps (.code yX6_runSteps cX6_runSteps 8 none :: pq_U) (rmg_runS d) C X S0 sz [.ref a0, .ref a1, .int x2, .int x3, .int x4] S1 0 0)
def b_X6_runSteps_108 (n : Nat) (rec : (Nat → Nat → Int32 → Int32 → Int32 → pq_S → Option pq_S)) (k2 : Nat → Nat → Int32 → Int32 → Int32 → pq_S → Option pq_S) (a0 : Nat) (a1 : Nat) (x3 : Int32) (x4 : Int32) (x6 : Int32) (S : pq_S) : Option pq_S := k2 a0 a1 x3 x4 x6 S
set_option maxHeartbeats 4000000 in
set_option maxRecDepth 100000 in
theorem wb_X6_runSteps_108 {p : Program} {l : Launch} {e : Env} {s : State} {m : MethodId} {args : Array Value} {below : List Frame} {meth : Method} {c : Code} (cx : Cx p s m args meth c cX6_runSteps 8 RX6 none) (C : pq_C) (X : va_W) (S0 : pq_S) (n : Nat) (d : Nat) (rec : (Nat → Nat → Int32 → Int32 → Int32 → pq_S → Option pq_S)) (hrec : HG_runS n d rec) (S1 : pq_S) (k2 : Nat → Nat → Int32 → Int32 → Int32 → pq_S → Option pq_S) (hk2 : ∀ (a0 : Nat) (a1 : Nat) (x3 : Int32) (x4 : Int32) (x5 : Int32) (S : pq_S) (H : Heap) (locs : List Loc) (ls : Array Slot), PW C X S (pq_F C X S0 s.heap.size) H locs s → Ext S0 S → TY S a0 6 → TY S a1 7 → lv_has ls 8 [(0, .ref a0), (1, .ref a1), (3, .int x3), (4, .int x4), (5, .int x5)] → k2 a0 a1 x3 x4 x5 S = some S1 → W p l e (rmg_runS (d + 1)) s m args below meth c H locs 0 0 (MQ below (QcV C X S0 s.heap.size S1) args s 0 0 (pq_F C X S0 s.heap.size)) (F0 m 3 ls [])) : ∀ (a0 : Nat) (a1 : Nat) (x3 : Int32) (x4 : Int32) (x6 : Int32) (S : pq_S) (H : Heap) (locs : List Loc) (ls : Array Slot), PW C X S (pq_F C X S0 s.heap.size) H locs s → Ext S0 S → TY S a0 6 → TY S a1 7 → lv_has ls 8 [(0, .ref a0), (1, .ref a1), (3, .int x3), (4, .int x4), (6, .int x6)] → b_X6_runSteps_108 n rec k2 a0 a1 x3 x4 x6 S = some S1 → W p l e (rmg_runS (d + 1)) s m args below meth c H locs 0 0 (MQ below (QcV C X S0 s.heap.size S1) args s 0 0 (pq_F C X S0 s.heap.size)) (F0 m 108 ls []) := by
  obtain ⟨hx, hb, hml, hown, hU, hr, hlk⟩ := id cx
  intro a0 a1 x3 x4 x6 S H locs ls hw hE Ta0 Ta1 hl hm
  rw [b_X6_runSteps_108] at hm
  refine lv_iload hx hb dX6_runSteps_108 (lv_at hl 4 rfl) ?_
  refine lv_istore (lv' := [(5, .int x6), (0, .ref a0), (1, .ref a1), (3, .int x3), (4, .int x4), (6, .int x6)]) hx hb dX6_runSteps_110 hl (by decide) rfl (fun ls hl => ?_)
  refine lv_goto (tgt := 3) hx hb dX6_runSteps_112 (by decide) ?_
  exact hk2 a0 a1 x3 x4 x6 S _ _ _ hw hE Ta0 Ta1 (lv_sub hl [1, 2, 3, 4, 0] rfl) hm
def b_X6_runSteps_65 (n : Nat) (rec : (Nat → Nat → Int32 → Int32 → Int32 → pq_S → Option pq_S)) (k2 : Nat → Nat → Int32 → Int32 → Int32 → pq_S → Option pq_S) : Nat → Nat → Nat → Int32 → Int32 → Int32 → Int32 → Int32 → pq_S → Option pq_S
  | 0, _, _, _, _, _, _, _, _ => none
  | f + 1, a0, a1, x3, x4, x5, x6, x7, S => Option.bind (pR S 600 a0) fun q23 => cb (m_X9_at n q23 x5 1 S) fun r26 S_24 => if r26 ≤ x7 then b_X6_runSteps_108 n rec k2 a0 a1 x3 x4 x6 S_24 else if 6 ≤ x4 then b_X6_runSteps_108 n rec k2 a0 a1 x3 x4 x6 S_24 else Option.bind (rec a0 a1 (x5 + (1 : Int32)) x6 (x4 + (1 : Int32)) S_24) fun S_30 => b_X6_runSteps_65 n rec k2 f a0 a1 x3 x4 x5 x6 (x7 + 1) S_30
set_option maxHeartbeats 4000000 in
set_option maxRecDepth 100000 in
theorem wb_X6_runSteps_65 {p : Program} {l : Launch} {e : Env} {s : State} {m : MethodId} {args : Array Value} {below : List Frame} {meth : Method} {c : Code} (cx : Cx p s m args meth c cX6_runSteps 8 RX6 none) (C : pq_C) (X : va_W) (S0 : pq_S) (n : Nat) (d : Nat) (rec : (Nat → Nat → Int32 → Int32 → Int32 → pq_S → Option pq_S)) (hrec : HG_runS n d rec) (S1 : pq_S) (k2 : Nat → Nat → Int32 → Int32 → Int32 → pq_S → Option pq_S) (hk2 : ∀ (a0 : Nat) (a1 : Nat) (x3 : Int32) (x4 : Int32) (x5 : Int32) (S : pq_S) (H : Heap) (locs : List Loc) (ls : Array Slot), PW C X S (pq_F C X S0 s.heap.size) H locs s → Ext S0 S → TY S a0 6 → TY S a1 7 → lv_has ls 8 [(0, .ref a0), (1, .ref a1), (3, .int x3), (4, .int x4), (5, .int x5)] → k2 a0 a1 x3 x4 x5 S = some S1 → W p l e (rmg_runS (d + 1)) s m args below meth c H locs 0 0 (MQ below (QcV C X S0 s.heap.size S1) args s 0 0 (pq_F C X S0 s.heap.size)) (F0 m 3 ls [])) : ∀ (f : Nat) (a0 : Nat) (a1 : Nat) (x3 : Int32) (x4 : Int32) (x5 : Int32) (x6 : Int32) (x7 : Int32) (S : pq_S) (H : Heap) (locs : List Loc) (ls : Array Slot), PW C X S (pq_F C X S0 s.heap.size) H locs s → Ext S0 S → TY S a0 6 → TY S a1 7 → lv_has ls 8 [(0, .ref a0), (1, .ref a1), (3, .int x3), (4, .int x4), (5, .int x5), (6, .int x6), (7, .int x7)] → b_X6_runSteps_65 n rec k2 f a0 a1 x3 x4 x5 x6 x7 S = some S1 → W p l e (rmg_runS (d + 1)) s m args below meth c H locs 0 0 (MQ below (QcV C X S0 s.heap.size S1) args s 0 0 (pq_F C X S0 s.heap.size)) (F0 m 65 ls []) := by
  obtain ⟨hx, hb, hml, hown, hU, hr, hlk⟩ := id cx
  intro f
  induction f with
  | zero =>
    intro a0 a1 x3 x4 x5 x6 x7 S H locs ls hw hE Ta0 Ta1 hl hm
    cases hm
  | succ f ih =>
    intro a0 a1 x3 x4 x5 x6 x7 S H locs ls hw hE Ta0 Ta1 hl hm
    rw [b_X6_runSteps_65] at hm
    refine lv_iload hx hb dX6_runSteps_65 (lv_at hl 6 rfl) ?_
    refine lv_aload_n hx hb dX6_runSteps_67 rfl (lv_at hl 0 rfl) ?_
    obtain ⟨q23, hq23, hm⟩ := bd_some hm
    have Tq23 : TY S q23 9 := hw.wf.ref (k := 6) (j := 0) Ta0 (by decide) (by decide) hq23
    refine pg_rb (k := 6) (j := 0) (f := 600) hx hb hown hU iu6 hw Ta0 (by decide) rfl (hU _ tw309) rfl hq23 dX6_runSteps_68 ?_
    refine lv_iload hx hb dX6_runSteps_71 (lv_at hl 4 rfl) ?_
    refine lv_iconst (v := 1) hx hb dX6_runSteps_73 (by decide) ?_
    obtain ⟨r26, S_24, hq25, hm⟩ := cb_some hm
    refine pw_ci (va_runVN (As := [.int x5, .int 1]) (rest := [.int x7]) ⟨hx, hb, hml, hown, hU⟩ (c_X9_at l C X n S hw.wf _ q23 x5 1 (Tq23) r26 S_24 hq25) ⟨va_cnB (host := "WickNights") 2 hU (pq_g1 tc_X9_at) rfl rfl rfl (hw.nw 133 rfl) (hU _ tw5) cd_X9_at.2 ⟨Nat.le_trans (Nat.le_of_ble_eq_true rfl) (Nat.le_add_right _ _), Nat.le_trans (Nat.le_of_ble_eq_true rfl) (Nat.le_add_right _ _)⟩, hU _ tw719, hU _ ts32⟩ (pw_preV hw Tq23 (by decide) rfl) rfl rfl hl.1 rfl (lv_room (Nat.le_of_ble_eq_true rfl)) dX6_runSteps_74 ⟨Nat.zero_le _, Nat.zero_le _⟩) hw (fun H locs hw hx27 => ?_)
    have Ta0 : TY S_24 a0 6 := ty_ext hx27 Ta0
    have Ta1 : TY S_24 a1 7 := ty_ext hx27 Ta1
    have hE : Ext S0 S_24 := Ext.tr hE hx27
    refine lv_icmp_ge (tgt := 108) hx hb dX6_runSteps_77 (by decide) (fun h28 => ?_) (fun h28 => ?_)
    · rw [if_pos h28] at hm
      exact wb_X6_runSteps_108 cx C X S0 n d rec hrec S1 _ hk2 a0 a1 x3 x4 x6 S_24 _ _ _ hw hE Ta0 Ta1 (lv_sub hl [0, 1, 2, 3, 5] rfl) hm
    · rw [if_neg h28] at hm
      refine lv_iload hx hb dX6_runSteps_80 (lv_at hl 3 rfl) ?_
      refine lv_bipush (v := 6) hx hb dX6_runSteps_82 (by decide) ?_
      refine lv_icmp_ge (tgt := 108) hx hb dX6_runSteps_84 (by decide) (fun h29 => ?_) (fun h29 => ?_)
      · rw [if_pos h29] at hm
        exact wb_X6_runSteps_108 cx C X S0 n d rec hrec S1 _ hk2 a0 a1 x3 x4 x6 S_24 _ _ _ hw hE Ta0 Ta1 (lv_sub hl [0, 1, 2, 3, 5] rfl) hm
      · rw [if_neg h29] at hm
        refine lv_aload_n hx hb dX6_runSteps_87 rfl (lv_at hl 0 rfl) ?_
        refine lv_aload_n hx hb dX6_runSteps_88 rfl (lv_at hl 1 rfl) ?_
        refine lv_iload hx hb dX6_runSteps_89 (lv_at hl 4 rfl) ?_
        refine lv_iconst (v := 1) hx hb dX6_runSteps_91 (by decide) ?_
        refine lv_iadd hx hb dX6_runSteps_92 ?_
        refine lv_iload hx hb dX6_runSteps_93 (lv_at hl 5 rfl) ?_
        refine lv_iload hx hb dX6_runSteps_95 (lv_at hl 3 rfl) ?_
        refine lv_iconst (v := 1) hx hb dX6_runSteps_97 (by decide) ?_
        refine lv_iadd hx hb dX6_runSteps_98 ?_
        obtain ⟨S_30, hq31, hm⟩ := bd_some hm
        refine pw_cv (va_runV (As := [.ref a1, .int (x5 + (1 : Int32)), .int x6, .int (x4 + (1 : Int32))]) (rest := []) ⟨hx, hb, hml, hown, hU⟩ (hrec l C X S_24 hw.wf _ a0 a1 (x5 + (1 : Int32)) x6 (x4 + (1 : Int32)) (Ta0) (Ta1) S_30 hq31) (cwV 4 hU (pq_gV tw845 tw839 ts49 tw10 tc_X6_runSteps) rfl rfl rfl cd_X6_runSteps ⟨Nat.le_refl _, rmg_runS_l d (by decide)⟩) (pw_preV hw Ta0 (by decide) rfl) rfl rfl hl.1 rfl (lv_room (Nat.le_of_ble_eq_true rfl)) dX6_runSteps_99 ⟨Nat.zero_le _, Nat.zero_le _⟩) hw (fun H locs hw hx32 => ?_)
        have Ta0 : TY S_30 a0 6 := ty_ext hx32 Ta0
        have Ta1 : TY S_30 a1 7 := ty_ext hx32 Ta1
        have hE : Ext S0 S_30 := Ext.tr hE hx32
        refine lv_iinc (v := (x7 + 1)) (lv' := [(7, .int (x7 + 1)), (0, .ref a0), (1, .ref a1), (3, .int x3), (4, .int x4), (5, .int x5), (6, .int x6)]) hx hb dX6_runSteps_102 hl (k := 6) rfl rfl (by decide) rfl (fun ls hl => ?_)
        refine lv_goto (tgt := 65) hx hb dX6_runSteps_105 (by decide) ?_
        exact ih a0 a1 x3 x4 x5 x6 (x7 + 1) S_30 _ _ _ hw hE Ta0 Ta1 (lv_sub hl [1, 2, 3, 4, 5, 6, 0] rfl) hm
def b_X6_runSteps_3 (n : Nat) (rec : (Nat → Nat → Int32 → Int32 → Int32 → pq_S → Option pq_S)) : Nat → Nat → Nat → Int32 → Int32 → Int32 → pq_S → Option pq_S
  | 0, _, _, _, _, _, _ => none
  | f + 1, a0, a1, x3, x4, x5, S => if x3 ≤ x5 then some S else if 200 ≤ (pI S 601 a0) then some S else Option.bind (pR (sI S 601 a0 ((pI S 601 a0) + (1 : Int32))) 600 a0) fun q3 => cb (m_X9_at n q3 x5 0 (sI S 601 a0 ((pI S 601 a0) + (1 : Int32)))) fun r6 S_4 => if r6 = 5 then Option.bind (pR S_4 600 a0) fun q17 => cb (m_X9_at n q17 x5 2 S_4) fun r20 S_18 => lt_ (if r20 < (x5 + (1 : Int32)) then (x5 + (1 : Int32)) else r20) fun v22 => b_X6_runSteps_65 n rec (b_X6_runSteps_3 n rec f) n a0 a1 x3 x4 x5 v22 0 S_18 else cb (m_X6_doStep n a0 a1 x5 S_4) fun r11 S_9 => Option.bind (m_X6_keepAnswer n a0 r11 S_9) fun S_14 => b_X6_runSteps_3 n rec f a0 a1 x3 x4 (x5 + 1) S_14
set_option maxHeartbeats 4000000 in
set_option maxRecDepth 100000 in
theorem wb_X6_runSteps_3 {p : Program} {l : Launch} {e : Env} {s : State} {m : MethodId} {args : Array Value} {below : List Frame} {meth : Method} {c : Code} (cx : Cx p s m args meth c cX6_runSteps 8 RX6 none) (C : pq_C) (X : va_W) (S0 : pq_S) (n : Nat) (d : Nat) (rec : (Nat → Nat → Int32 → Int32 → Int32 → pq_S → Option pq_S)) (hrec : HG_runS n d rec) (S1 : pq_S) : ∀ (f : Nat) (a0 : Nat) (a1 : Nat) (x3 : Int32) (x4 : Int32) (x5 : Int32) (S : pq_S) (H : Heap) (locs : List Loc) (ls : Array Slot), PW C X S (pq_F C X S0 s.heap.size) H locs s → Ext S0 S → TY S a0 6 → TY S a1 7 → lv_has ls 8 [(0, .ref a0), (1, .ref a1), (3, .int x3), (4, .int x4), (5, .int x5)] → b_X6_runSteps_3 n rec f a0 a1 x3 x4 x5 S = some S1 → W p l e (rmg_runS (d + 1)) s m args below meth c H locs 0 0 (MQ below (QcV C X S0 s.heap.size S1) args s 0 0 (pq_F C X S0 s.heap.size)) (F0 m 3 ls []) := by
  obtain ⟨hx, hb, hml, hown, hU, hr, hlk⟩ := id cx
  intro f
  induction f with
  | zero =>
    intro a0 a1 x3 x4 x5 S H locs ls hw hE Ta0 Ta1 hl hm
    cases hm
  | succ f ih =>
    intro a0 a1 x3 x4 x5 S H locs ls hw hE Ta0 Ta1 hl hm
    rw [b_X6_runSteps_3] at hm
    refine lv_iload hx hb dX6_runSteps_3 (lv_at hl 4 rfl) ?_
    refine lv_iload_n hx hb dX6_runSteps_5 rfl (lv_at hl 2 rfl) ?_
    refine lv_icmp_ge (tgt := 132) hx hb dX6_runSteps_6 (by decide) (fun h1 => ?_) (fun h1 => ?_)
    · rw [if_pos h1] at hm
      cases hm
      exact pw_vret hx hb hr hlk hw hE dX6_runSteps_132
    · rw [if_neg h1] at hm
      refine lv_aload_n hx hb dX6_runSteps_9 rfl (lv_at hl 0 rfl) ?_
      refine pg_i (k := 6) (j := 1) (f := 601) hx hb hown hU iu6 hw Ta0 (by decide) rfl (hU _ tw311) rfl dX6_runSteps_10 ?_
      refine lv_sipush (v := 200) hx hb dX6_runSteps_13 (by decide) ?_
      refine lv_icmp_ge (tgt := 132) hx hb dX6_runSteps_16 (by decide) (fun h2 => ?_) (fun h2 => ?_)
      · rw [if_pos h2] at hm
        cases hm
        exact pw_vret hx hb hr hlk hw hE dX6_runSteps_132
      · rw [if_neg h2] at hm
        refine lv_aload_n hx hb dX6_runSteps_19 rfl (lv_at hl 0 rfl) ?_
        refine lv_dup hx hb dX6_runSteps_20 rfl ?_
        refine pg_i (k := 6) (j := 1) (f := 601) hx hb hown hU iu6 hw Ta0 (by decide) rfl (hU _ tw311) rfl dX6_runSteps_21 ?_
        refine lv_iconst (v := 1) hx hb dX6_runSteps_24 (by decide) ?_
        refine lv_iadd hx hb dX6_runSteps_25 ?_
        refine pp_i (k := 6) (j := 1) (f := 601) hx hb hown hU iu6 tyX6_ok nmX6 hw Ta0 (by decide) rfl (hU _ tw311) rfl rfl rfl dX6_runSteps_26 (fun H locs hw => ?_)
        refine lv_aload_n hx hb dX6_runSteps_29 rfl (lv_at hl 0 rfl) ?_
        obtain ⟨q3, hq3, hm⟩ := bd_some hm
        have Tq3 : TY (sI S 601 a0 ((pI S 601 a0) + (1 : Int32))) q3 9 := hw.wf.ref (k := 6) (j := 0) Ta0 (by decide) (by decide) hq3
        refine pg_rb (k := 6) (j := 0) (f := 600) hx hb hown hU iu6 hw Ta0 (by decide) rfl (hU _ tw309) rfl hq3 dX6_runSteps_30 ?_
        refine lv_iload hx hb dX6_runSteps_33 (lv_at hl 4 rfl) ?_
        refine lv_iconst (v := 0) hx hb dX6_runSteps_35 (by decide) ?_
        obtain ⟨r6, S_4, hq5, hm⟩ := cb_some hm
        refine pw_ci (va_runVN (As := [.int x5, .int 0]) (rest := []) ⟨hx, hb, hml, hown, hU⟩ (c_X9_at l C X n (sI S 601 a0 ((pI S 601 a0) + (1 : Int32))) hw.wf _ q3 x5 0 (Tq3) r6 S_4 hq5) ⟨va_cnB (host := "WickNights") 2 hU (pq_g1 tc_X9_at) rfl rfl rfl (hw.nw 133 rfl) (hU _ tw5) cd_X9_at.2 ⟨Nat.le_trans (Nat.le_of_ble_eq_true rfl) (Nat.le_add_right _ _), Nat.le_trans (Nat.le_of_ble_eq_true rfl) (Nat.le_add_right _ _)⟩, hU _ tw719, hU _ ts32⟩ (pw_preV hw Tq3 (by decide) rfl) rfl rfl hl.1 rfl (lv_room (Nat.le_of_ble_eq_true rfl)) dX6_runSteps_36 ⟨Nat.zero_le _, Nat.zero_le _⟩) hw (fun H locs hw hx7 => ?_)
        have Ta0 : TY S_4 a0 6 := ty_ext hx7 Ta0
        have Ta1 : TY S_4 a1 7 := ty_ext hx7 Ta1
        have hE : Ext S0 S_4 := Ext.tr hE hx7
        refine lv_iconst (v := 5) hx hb dX6_runSteps_39 (by decide) ?_
        refine lv_icmp_ne (tgt := 115) hx hb dX6_runSteps_40 (by decide) (fun h8 => ?_) (fun h8 => ?_)
        · rw [if_neg h8] at hm
          refine lv_aload_n hx hb dX6_runSteps_115 rfl (lv_at hl 0 rfl) ?_
          refine lv_aload_n hx hb dX6_runSteps_116 rfl (lv_at hl 0 rfl) ?_
          refine lv_aload_n hx hb dX6_runSteps_117 rfl (lv_at hl 1 rfl) ?_
          refine lv_iload hx hb dX6_runSteps_118 (lv_at hl 4 rfl) ?_
          obtain ⟨r11, S_9, hq10, hm⟩ := cb_some hm
          refine pw_cz (va_runV (As := [.ref a1, .int x5]) (rest := [.ref a0]) ⟨hx, hb, hml, hown, hU⟩ (c_X6_doStep l C X n S_4 hw.wf _ a0 a1 x5 (Ta0) (Ta1) r11 S_9 hq10) (cwV 2 hU (pq_gV tw846 tw848 ts50 tw10 tc_X6_doStep) rfl rfl rfl cd_X6_doStep ⟨Nat.le_trans (Nat.le_of_ble_eq_true rfl) (Nat.le_add_right _ _), Nat.le_trans (Nat.le_of_ble_eq_true rfl) (Nat.le_add_right _ _)⟩) (pw_preV hw Ta0 (by decide) rfl) rfl rfl hl.1 rfl (lv_room (Nat.le_of_ble_eq_true rfl)) dX6_runSteps_120 ⟨Nat.zero_le _, Nat.zero_le _⟩) hw (fun H locs hw hx12 hz13 => ?_)
          have Ta0 : TY S_9 a0 6 := ty_ext hx12 Ta0
          have Ta1 : TY S_9 a1 7 := ty_ext hx12 Ta1
          have hE : Ext S0 S_9 := Ext.tr hE hx12
          obtain ⟨S_14, hq15, hm⟩ := bd_some hm
          refine pw_cv (va_runV (As := [.int r11]) (rest := []) ⟨hx, hb, hml, hown, hU⟩ (c_X6_keepAnswer l C X n S_9 hw.wf _ a0 r11 (Ta0) S_14 hq15) (cwV 1 hU (pq_gV tw946 tw948 ts71 tw10 tc_X6_keepAnswer) rfl rfl rfl cd_X6_keepAnswer ⟨Nat.le_trans (Nat.le_of_ble_eq_true rfl) (Nat.le_add_right _ _), Nat.le_trans (Nat.le_of_ble_eq_true rfl) (Nat.le_add_right _ _)⟩) (pw_preV hw Ta0 (by decide) rfl) rfl rfl hl.1 rfl (lv_room (Nat.le_of_ble_eq_true rfl)) dX6_runSteps_123 ⟨Nat.zero_le _, Nat.zero_le _⟩) hw (fun H locs hw hx16 => ?_)
          have Ta0 : TY S_14 a0 6 := ty_ext hx16 Ta0
          have Ta1 : TY S_14 a1 7 := ty_ext hx16 Ta1
          have hE : Ext S0 S_14 := Ext.tr hE hx16
          refine lv_iinc (v := (x5 + 1)) (lv' := [(5, .int (x5 + 1)), (0, .ref a0), (1, .ref a1), (3, .int x3), (4, .int x4)]) hx hb dX6_runSteps_126 hl (k := 4) rfl rfl (by decide) rfl (fun ls hl => ?_)
          refine lv_goto (tgt := 3) hx hb dX6_runSteps_129 (by decide) ?_
          exact ih a0 a1 x3 x4 (x5 + 1) S_14 _ _ _ hw hE Ta0 Ta1 (lv_sub hl [1, 2, 3, 4, 0] rfl) hm
        · rw [if_pos h8] at hm
          refine lv_aload_n hx hb dX6_runSteps_43 rfl (lv_at hl 0 rfl) ?_
          obtain ⟨q17, hq17, hm⟩ := bd_some hm
          have Tq17 : TY S_4 q17 9 := hw.wf.ref (k := 6) (j := 0) Ta0 (by decide) (by decide) hq17
          refine pg_rb (k := 6) (j := 0) (f := 600) hx hb hown hU iu6 hw Ta0 (by decide) rfl (hU _ tw309) rfl hq17 dX6_runSteps_44 ?_
          refine lv_iload hx hb dX6_runSteps_47 (lv_at hl 4 rfl) ?_
          refine lv_iconst (v := 2) hx hb dX6_runSteps_49 (by decide) ?_
          obtain ⟨r20, S_18, hq19, hm⟩ := cb_some hm
          refine pw_ci (va_runVN (As := [.int x5, .int 2]) (rest := []) ⟨hx, hb, hml, hown, hU⟩ (c_X9_at l C X n S_4 hw.wf _ q17 x5 2 (Tq17) r20 S_18 hq19) ⟨va_cnB (host := "WickNights") 2 hU (pq_g1 tc_X9_at) rfl rfl rfl (hw.nw 133 rfl) (hU _ tw5) cd_X9_at.2 ⟨Nat.le_trans (Nat.le_of_ble_eq_true rfl) (Nat.le_add_right _ _), Nat.le_trans (Nat.le_of_ble_eq_true rfl) (Nat.le_add_right _ _)⟩, hU _ tw719, hU _ ts32⟩ (pw_preV hw Tq17 (by decide) rfl) rfl rfl hl.1 rfl (lv_room (Nat.le_of_ble_eq_true rfl)) dX6_runSteps_50 ⟨Nat.zero_le _, Nat.zero_le _⟩) hw (fun H locs hw hx21 => ?_)
          have Ta0 : TY S_18 a0 6 := ty_ext hx21 Ta0
          have Ta1 : TY S_18 a1 7 := ty_ext hx21 Ta1
          have hE : Ext S0 S_18 := Ext.tr hE hx21
          refine lv_iload hx hb dX6_runSteps_53 (lv_at hl 4 rfl) ?_
          refine lv_iconst (v := 1) hx hb dX6_runSteps_55 (by decide) ?_
          refine lv_iadd hx hb dX6_runSteps_56 ?_
          refine va_mmax hx hb (by rw [hml]; exact hl.1.symm) hown (hU _ tw842) (hU _ twm_max_s) (hU _ twm_i) (hU _ twm_max_c) (Nat.le_trans (Nat.le_of_ble_eq_true rfl) (Nat.le_add_right _ _)) (Nat.le_trans (Nat.le_of_ble_eq_true rfl) (Nat.le_add_right _ _)) (Nat.zero_le _) (Nat.zero_le _) dX6_runSteps_57 ?_
          obtain ⟨v22, ev22, hm⟩ := lt_some hm
          refine lv_nmI ev22 ?_
          refine lv_istore (lv' := [(6, .int v22), (0, .ref a0), (1, .ref a1), (3, .int x3), (4, .int x4), (5, .int x5)]) hx hb dX6_runSteps_60 hl (by decide) rfl (fun ls hl => ?_)
          refine lv_iconst (v := 0) hx hb dX6_runSteps_62 (by decide) ?_
          refine lv_istore (lv' := [(7, .int 0), (6, .int v22), (0, .ref a0), (1, .ref a1), (3, .int x3), (4, .int x4), (5, .int x5)]) hx hb dX6_runSteps_63 hl (by decide) rfl (fun ls hl => ?_)
          exact wb_X6_runSteps_65 cx C X S0 n d rec hrec S1 _ ih n a0 a1 x3 x4 x5 v22 0 S_18 _ _ _ hw hE Ta0 Ta1 (lv_sub hl [2, 3, 4, 5, 6, 1, 0] rfl) hm
def g_X6_runSteps (n : Nat) (rec : (Nat → Nat → Int32 → Int32 → Int32 → pq_S → Option pq_S)) (a0 : Nat) (a1 : Nat) (x2 : Int32) (x3 : Int32) (x4 : Int32) (S0 : pq_S) : Option pq_S := b_X6_runSteps_3 n rec n a0 a1 x3 x4 x2 S0
set_option maxHeartbeats 4000000 in
set_option maxRecDepth 100000 in
theorem cg_X6_runSteps (n d : Nat) (rec : (Nat → Nat → Int32 → Int32 → Int32 → pq_S → Option pq_S)) (hrec : HG_runS n d rec) (l : Launch) (C : pq_C) (X : va_W) (S0 : pq_S) (hF : WF S0) (sz : Nat) (a0 : Nat) (a1 : Nat) (x2 : Int32) (x3 : Int32) (x4 : Int32) (Ta0 : TY S0 a0 6) (Ta1 : TY S0 a1 7) (S1 : pq_S) (hm : g_X6_runSteps n rec a0 a1 x2 x3 x4 S0 = some S1) : MV l yX6_runSteps (.code yX6_runSteps cX6_runSteps 8 none :: pq_U) (rmg_runS (d + 1)) C X S0 sz [.ref a0, .ref a1, .int x2, .int x3, .int x4] S1 0 0 := by
  refine Met.ofW (cc := cX6_runSteps) (maxL := 8) (ret := none) (by decide) rfl ?_
  intro p e s m args below meth c s₁ B hml hv
  obtain ⟨rfl, hv⟩ := hv
  have hsz := hv.1
  subst hsz
  have hw := pw_entry hF hv
  have hts := atoms_spec (ws := .code yX6_runSteps cX6_runSteps 8 none :: pq_U) B.pre
  have hU : ∀ w ∈ pq_U, w.before _ s = true := fun w h => hts w (List.mem_cons_of_mem _ h)
  have hx := B.exec
  have hb := B.bytes
  have hr := B.returns
  have hown : s.vm.findClass RX6 = some m.cls := findClass_of_methodNamed B.named
  have hlk := B.notSynchronized
  have hl := lv_entry ([.ref a0, .ref a1, .int x2, .int x3, .int x4]) (n := 8) (Nat.le_of_ble_eq_true rfl)
  rw [lg_entry_eq]
  generalize (lg_sl ([.ref a0, .ref a1, .int x2, .int x3, .int x4]) ++ List.replicate (8 - (lg_sl ([.ref a0, .ref a1, .int x2, .int x3, .int x4])).length) Slot.unset).toArray = ls at hl ⊢
  have hl : lv_has ls 8 [(0, .ref a0), (1, .ref a1), (2, .int x2), (3, .int x3), (4, .int x4)] := hl
  have hE : Ext S0 S0 := Ext.rf _
  have cx : Cx p s m _ meth c cX6_runSteps 8 RX6 none := ⟨hx, hb, hml, hown, hU, hr, hlk⟩
  rw [g_X6_runSteps] at hm
  refine lv_iload_n hx hb dX6_runSteps_0 rfl (lv_at hl 2 rfl) ?_
  refine lv_istore (lv' := [(5, .int x2), (0, .ref a0), (1, .ref a1), (2, .int x2), (3, .int x3), (4, .int x4)]) hx hb dX6_runSteps_1 hl (by decide) rfl (fun ls hl => ?_)
  exact wb_X6_runSteps_3 cx C X S0 n d rec hrec S1 n a0 a1 x3 x4 x2 S0 _ _ _ hw hE Ta0 Ta1 (lv_sub hl [1, 2, 4, 5, 0] rfl) hm
def m_runS_d (n : Nat) : Nat → ((Nat → Nat → Int32 → Int32 → Int32 → pq_S → Option pq_S))
  | 0 => (fun _ _ _ _ _ _ => none)
  | d + 1 => (g_X6_runSteps n (m_runS_d n d))
theorem hg_runS (n : Nat) : ∀ d : Nat, HG_runS n d (m_runS_d n d) := by
  intro d
  induction d with
  | zero =>
    exact fun _ _ _ _ _ _ _ _ _ _ _ _ _ _ hm => by cases hm
  | succ d ih =>
    exact (fun q0 q1 q2 q3 q4 q5 q6 q7 q8 q9 q10 q11 q12 q13 hm => cg_X6_runSteps n d _ ih q0 q1 q2 q3 q4 q5 q6 q7 q8 q9 q10 q11 q12 q13 hm)
def m_X6_runSteps (n : Nat) (a0 : Nat) (a1 : Nat) (x2 : Int32) (x3 : Int32) (x4 : Int32) (S : pq_S) : Option pq_S := (m_runS_d n 64) a0 a1 x2 x3 x4 S
abbrev rm_X6_runSteps : Room := { frames := 70, cells := 0, slots := 0, locals := 1893 }
theorem c_X6_runSteps (l : Launch) (C : pq_C) (X : va_W) (n : Nat) (S0 : pq_S) (hF : WF S0) (sz : Nat) (a0 : Nat) (a1 : Nat) (x2 : Int32) (x3 : Int32) (x4 : Int32) (Ta0 : TY S0 a0 6) (Ta1 : TY S0 a1 7) (S1 : pq_S) (hm : m_X6_runSteps n a0 a1 x2 x3 x4 S0 = some S1) : MV l yX6_runSteps (.code yX6_runSteps cX6_runSteps 8 none :: pq_U) rm_X6_runSteps C X S0 sz [.ref a0, .ref a1, .int x2, .int x3, .int x4] S1 0 0 := (hg_runS n 64) l C X S0 hF sz a0 a1 x2 x3 x4 Ta0 Ta1 S1 hm
abbrev rm_X1_read : Room := { frames := 6, cells := 0, slots := 0, locals := 129 }
def b_X1_read_68 (n : Nat) (k20 : Nat → Nat → Int32 → pq_S → Option pq_S) (a0 : Nat) (a1 : Nat) (x2 : Int32) (b0 : Nat) (b1 : Nat) (z2 : Int32) (S : pq_S) : Option pq_S := Option.bind (m_X1_readClause n b0 b1 z2 S) fun S_24 => Option.bind (m_X10_takeSign n a1 59 S_24) fun S_27 => k20 a0 a1 (x2 + 1) S_27
set_option maxHeartbeats 4000000 in
set_option maxRecDepth 100000 in
theorem wb_X1_read_68 {p : Program} {l : Launch} {e : Env} {s : State} {m : MethodId} {args : Array Value} {below : List Frame} {meth : Method} {c : Code} (cx : Cx p s m args meth c cX1_read 3 RX1 none) (C : pq_C) (X : va_W) (S0 : pq_S) (n : Nat) (S1 : pq_S) (k20 : Nat → Nat → Int32 → pq_S → Option pq_S) (hk20 : ∀ (a0 : Nat) (a1 : Nat) (x2 : Int32) (S : pq_S) (H : Heap) (locs : List Loc) (ls : Array Slot), PW C X S (pq_F C X S0 s.heap.size) H locs s → Ext S0 S → TY S a0 1 → TY S a1 10 → lv_has ls 3 [(0, .ref a0), (1, .ref a1), (2, .int x2)] → k20 a0 a1 x2 S = some S1 → W p l e rm_X1_read s m args below meth c H locs 0 0 (MQ below (QcV C X S0 s.heap.size S1) args s 0 0 (pq_F C X S0 s.heap.size)) (F0 m 40 ls [])) : ∀ (a0 : Nat) (a1 : Nat) (x2 : Int32) (b0 : Nat) (b1 : Nat) (z2 : Int32) (S : pq_S) (H : Heap) (locs : List Loc) (ls : Array Slot), PW C X S (pq_F C X S0 s.heap.size) H locs s → Ext S0 S → TY S a0 1 → TY S a1 10 → TY S b0 1 → TY S b1 10 → lv_has ls 3 [(0, .ref a0), (1, .ref a1), (2, .int x2)] → b_X1_read_68 n k20 a0 a1 x2 b0 b1 z2 S = some S1 → W p l e rm_X1_read s m args below meth c H locs 0 0 (MQ below (QcV C X S0 s.heap.size S1) args s 0 0 (pq_F C X S0 s.heap.size)) (F0 m 68 ls [.int z2, .ref b1, .ref b0]) := by
  obtain ⟨hx, hb, hml, hown, hU, hr, hlk⟩ := id cx
  intro a0 a1 x2 b0 b1 z2 S H locs ls hw hE Ta0 Ta1 Tb0 Tb1 hl hm
  rw [b_X1_read_68] at hm
  obtain ⟨S_24, hq25, hm⟩ := bd_some hm
  refine pw_cv (va_runV (As := [.ref b1, .int z2]) (rest := []) ⟨hx, hb, hml, hown, hU⟩ (c_X1_readClause l C X n S hw.wf _ b0 b1 z2 (Tb0) (Tb1) S_24 hq25) (cwV 2 hU (pq_gV tw574 tw576 ts13 tw4 tc_X1_readClause) rfl rfl rfl cd_X1_readClause ⟨Nat.le_of_ble_eq_true rfl, Nat.le_of_ble_eq_true rfl⟩) (pw_preV hw Tb0 (by decide) rfl) rfl rfl hl.1 rfl (lv_room (Nat.le_of_ble_eq_true rfl)) dX1_read_68 ⟨Nat.zero_le _, Nat.zero_le _⟩) hw (fun H locs hw hx26 => ?_)
  have Ta0 : TY S_24 a0 1 := ty_ext hx26 Ta0
  have Ta1 : TY S_24 a1 10 := ty_ext hx26 Ta1
  have hE : Ext S0 S_24 := Ext.tr hE hx26
  refine lv_aload_n hx hb dX1_read_71 rfl (lv_at hl 1 rfl) ?_
  refine lv_bipush (v := 59) hx hb dX1_read_72 (by decide) ?_
  obtain ⟨S_27, hq28, hm⟩ := bd_some hm
  refine pw_cv (va_runVN (As := [.int 59]) (rest := []) ⟨hx, hb, hml, hown, hU⟩ (c_X10_takeSign l C X n S_24 hw.wf _ a1 59 (Ta1) S_27 hq28) ⟨va_cnB (host := "WickNights") 1 hU (pq_g1 tc_X10_takeSign) rfl rfl rfl (hw.nw 103 rfl) (hU _ tw2) cd_X10_takeSign.2 ⟨Nat.le_of_ble_eq_true rfl, Nat.le_of_ble_eq_true rfl⟩, hU _ tw697, hU _ ts27⟩ (pw_preV hw Ta1 (by decide) rfl) rfl rfl hl.1 rfl (lv_room (Nat.le_of_ble_eq_true rfl)) dX1_read_74 ⟨Nat.zero_le _, Nat.zero_le _⟩) hw (fun H locs hw hx29 => ?_)
  have Ta0 : TY S_27 a0 1 := ty_ext hx29 Ta0
  have Ta1 : TY S_27 a1 10 := ty_ext hx29 Ta1
  have hE : Ext S0 S_27 := Ext.tr hE hx29
  refine lv_iinc (v := (x2 + 1)) (lv' := [(2, .int (x2 + 1)), (0, .ref a0), (1, .ref a1)]) hx hb dX1_read_77 hl (k := 2) rfl rfl (by decide) rfl (fun ls hl => ?_)
  refine lv_goto (tgt := 40) hx hb dX1_read_80 (by decide) ?_
  exact hk20 a0 a1 (x2 + 1) S_27 _ _ _ hw hE Ta0 Ta1 (lv_sub hl [1, 2, 0] rfl) hm
def b_X1_read_40 (n : Nat) : Nat → Nat → Nat → Int32 → pq_S → Option pq_S
  | 0, _, _, _, _ => none
  | f + 1, a0, a1, x2, S => if 600 < x2 then some S else cb (m_X10_next n a1 S) fun r20 S_18 => if r20 = (-1) then some S_18 else if x2 < 60 then b_X1_read_68 n (b_X1_read_40 n f) a0 a1 x2 a0 a1 0 S_18 else b_X1_read_68 n (b_X1_read_40 n f) a0 a1 x2 a0 a1 1 S_18
set_option maxHeartbeats 4000000 in
set_option maxRecDepth 100000 in
theorem wb_X1_read_40 {p : Program} {l : Launch} {e : Env} {s : State} {m : MethodId} {args : Array Value} {below : List Frame} {meth : Method} {c : Code} (cx : Cx p s m args meth c cX1_read 3 RX1 none) (C : pq_C) (X : va_W) (S0 : pq_S) (n : Nat) (S1 : pq_S) : ∀ (f : Nat) (a0 : Nat) (a1 : Nat) (x2 : Int32) (S : pq_S) (H : Heap) (locs : List Loc) (ls : Array Slot), PW C X S (pq_F C X S0 s.heap.size) H locs s → Ext S0 S → TY S a0 1 → TY S a1 10 → lv_has ls 3 [(0, .ref a0), (1, .ref a1), (2, .int x2)] → b_X1_read_40 n f a0 a1 x2 S = some S1 → W p l e rm_X1_read s m args below meth c H locs 0 0 (MQ below (QcV C X S0 s.heap.size S1) args s 0 0 (pq_F C X S0 s.heap.size)) (F0 m 40 ls []) := by
  obtain ⟨hx, hb, hml, hown, hU, hr, hlk⟩ := id cx
  intro f
  induction f with
  | zero =>
    intro a0 a1 x2 S H locs ls hw hE Ta0 Ta1 hl hm
    cases hm
  | succ f ih =>
    intro a0 a1 x2 S H locs ls hw hE Ta0 Ta1 hl hm
    rw [b_X1_read_40] at hm
    refine lv_iload_n hx hb dX1_read_40 rfl (lv_at hl 2 rfl) ?_
    refine lv_sipush (v := 600) hx hb dX1_read_41 (by decide) ?_
    refine lv_icmp_gt (tgt := 83) hx hb dX1_read_44 (by decide) (fun h17 => ?_) (fun h17 => ?_)
    · rw [if_pos h17] at hm
      cases hm
      exact pw_vret hx hb hr hlk hw hE dX1_read_83
    · rw [if_neg h17] at hm
      refine lv_aload_n hx hb dX1_read_47 rfl (lv_at hl 1 rfl) ?_
      obtain ⟨r20, S_18, hq19, hm⟩ := cb_some hm
      refine pw_ci (va_runVN (As := []) (rest := []) ⟨hx, hb, hml, hown, hU⟩ (c_X10_next l C X n S hw.wf _ a1 (Ta1) r20 S_18 hq19) ⟨va_cnB (host := "WickNights") 0 hU (pq_g1 tc_X10_next) rfl rfl rfl (hw.nw 93 rfl) (hU _ tw2) cd_X10_next.2 ⟨Nat.le_of_ble_eq_true rfl, Nat.le_of_ble_eq_true rfl⟩, hU _ tw572, hU _ ts12⟩ (pw_preV hw Ta1 (by decide) rfl) rfl rfl hl.1 rfl (lv_room (Nat.le_of_ble_eq_true rfl)) dX1_read_48 ⟨Nat.zero_le _, Nat.zero_le _⟩) hw (fun H locs hw hx21 => ?_)
      have Ta0 : TY S_18 a0 1 := ty_ext hx21 Ta0
      have Ta1 : TY S_18 a1 10 := ty_ext hx21 Ta1
      have hE : Ext S0 S_18 := Ext.tr hE hx21
      refine lv_iconst (v := (-1)) hx hb dX1_read_51 (by decide) ?_
      refine lv_icmp_eq (tgt := 83) hx hb dX1_read_52 (by decide) (fun h22 => ?_) (fun h22 => ?_)
      · rw [if_pos h22] at hm
        cases hm
        exact pw_vret hx hb hr hlk hw hE dX1_read_83
      · rw [if_neg h22] at hm
        refine lv_aload_n hx hb dX1_read_55 rfl (lv_at hl 0 rfl) ?_
        refine lv_aload_n hx hb dX1_read_56 rfl (lv_at hl 1 rfl) ?_
        refine lv_iload_n hx hb dX1_read_57 rfl (lv_at hl 2 rfl) ?_
        refine lv_bipush (v := 60) hx hb dX1_read_58 (by decide) ?_
        refine lv_icmp_lt (tgt := 67) hx hb dX1_read_60 (by decide) (fun h23 => ?_) (fun h23 => ?_)
        · rw [if_pos h23] at hm
          refine lv_iconst (v := 0) hx hb dX1_read_67 (by decide) ?_
          exact wb_X1_read_68 cx C X S0 n S1 _ ih a0 a1 x2 a0 a1 0 S_18 _ _ _ hw hE Ta0 Ta1 Ta0 Ta1 (lv_sub hl [0, 1, 2] rfl) hm
        · rw [if_neg h23] at hm
          refine lv_iconst (v := 1) hx hb dX1_read_63 (by decide) ?_
          refine lv_goto (tgt := 68) hx hb dX1_read_64 (by decide) ?_
          exact wb_X1_read_68 cx C X S0 n S1 _ ih a0 a1 x2 a0 a1 1 S_18 _ _ _ hw hE Ta0 Ta1 Ta0 Ta1 (lv_sub hl [0, 1, 2] rfl) hm
def m_X1_read (n : Nat) (a0 : Nat) (a1 : Nat) (S0 : pq_S) : Option pq_S := Option.bind (pR S0 100 a0) fun q1 => Option.bind (m_X9_clear n q1 S0) fun S_2 => Option.bind (pR S_2 101 a0) fun q5 => Option.bind (m_X9_clear n q5 S_2) fun S_6 => Option.bind (pR S_6 102 a0) fun q9 => Option.bind (m_X9_clear n q9 S_6) fun S_10 => Option.bind (pR S_10 103 a0) fun q13 => Option.bind (m_X9_clear n q13 S_10) fun S_14 => b_X1_read_40 n n a0 a1 0 (sI (sI S_14 104 a0 1) 105 a0 3)
theorem tc_X1_read : Cond.code yX1_read cX1_read 3 none ∈ pq_U := tw564
theorem cd_X1_read : yX1_read.cls = RX1 ∧ yX1_read.cls ≠ "java/lang/invoke/MethodHandle" ∧ yX1_read.cls ≠ "java/lang/invoke/VarHandle" ∧ (parseMethodDescriptor yX1_read.desc).map (fun d => d.parameters.length) = some 1 := by decide +kernel
set_option maxHeartbeats 4000000 in
set_option maxRecDepth 100000 in
theorem c_X1_read (l : Launch) (C : pq_C) (X : va_W) (n : Nat) (S0 : pq_S) (hF : WF S0) (sz : Nat) (a0 : Nat) (a1 : Nat) (Ta0 : TY S0 a0 1) (Ta1 : TY S0 a1 10) (S1 : pq_S) (hm : m_X1_read n a0 a1 S0 = some S1) : MV l yX1_read (.code yX1_read cX1_read 3 none :: pq_U) rm_X1_read C X S0 sz [.ref a0, .ref a1] S1 0 0 := by
  refine Met.ofW (cc := cX1_read) (maxL := 3) (ret := none) (by decide) rfl ?_
  intro p e s m args below meth c s₁ B hml hv
  obtain ⟨rfl, hv⟩ := hv
  have hsz := hv.1
  subst hsz
  have hw := pw_entry hF hv
  have hts := atoms_spec (ws := .code yX1_read cX1_read 3 none :: pq_U) B.pre
  have hU : ∀ w ∈ pq_U, w.before _ s = true := fun w h => hts w (List.mem_cons_of_mem _ h)
  have hx := B.exec
  have hb := B.bytes
  have hr := B.returns
  have hown : s.vm.findClass RX1 = some m.cls := findClass_of_methodNamed B.named
  have hlk := B.notSynchronized
  have hl := lv_entry ([.ref a0, .ref a1]) (n := 3) (Nat.le_of_ble_eq_true rfl)
  rw [lg_entry_eq]
  generalize (lg_sl ([.ref a0, .ref a1]) ++ List.replicate (3 - (lg_sl ([.ref a0, .ref a1])).length) Slot.unset).toArray = ls at hl ⊢
  have hl : lv_has ls 3 [(0, .ref a0), (1, .ref a1)] := hl
  have hE : Ext S0 S0 := Ext.rf _
  have cx : Cx p s m _ meth c cX1_read 3 RX1 none := ⟨hx, hb, hml, hown, hU, hr, hlk⟩
  rw [m_X1_read] at hm
  refine lv_aload_n hx hb dX1_read_0 rfl (lv_at hl 0 rfl) ?_
  obtain ⟨q1, hq1, hm⟩ := bd_some hm
  have Tq1 : TY S0 q1 9 := hw.wf.ref (k := 1) (j := 0) Ta0 (by decide) (by decide) hq1
  refine pg_rb (k := 1) (j := 0) (f := 100) hx hb hown hU iu1 hw Ta0 (by decide) rfl (hU _ tw109) rfl hq1 dX1_read_1 ?_
  obtain ⟨S_2, hq3, hm⟩ := bd_some hm
  refine pw_cv (va_runVN (As := []) (rest := []) ⟨hx, hb, hml, hown, hU⟩ (c_X9_clear l C X n S0 hw.wf _ q1 (Tq1) S_2 hq3) ⟨va_cnB (host := "WickNights") 0 hU (pq_g1 tc_X9_clear) rfl rfl rfl (hw.nw 92 rfl) (hU _ tw5) cd_X9_clear.2 ⟨Nat.le_of_ble_eq_true rfl, Nat.le_of_ble_eq_true rfl⟩, hU _ tw567, hU _ ts11⟩ (pw_preV hw Tq1 (by decide) rfl) rfl rfl hl.1 rfl (lv_room (Nat.le_of_ble_eq_true rfl)) dX1_read_4 ⟨Nat.zero_le _, Nat.zero_le _⟩) hw (fun H locs hw hx4 => ?_)
  have Ta0 : TY S_2 a0 1 := ty_ext hx4 Ta0
  have Ta1 : TY S_2 a1 10 := ty_ext hx4 Ta1
  have hE : Ext S0 S_2 := Ext.tr hE hx4
  refine lv_aload_n hx hb dX1_read_7 rfl (lv_at hl 0 rfl) ?_
  obtain ⟨q5, hq5, hm⟩ := bd_some hm
  have Tq5 : TY S_2 q5 9 := hw.wf.ref (k := 1) (j := 1) Ta0 (by decide) (by decide) hq5
  refine pg_rb (k := 1) (j := 1) (f := 101) hx hb hown hU iu1 hw Ta0 (by decide) rfl (hU _ tw116) rfl hq5 dX1_read_8 ?_
  obtain ⟨S_6, hq7, hm⟩ := bd_some hm
  refine pw_cv (va_runVN (As := []) (rest := []) ⟨hx, hb, hml, hown, hU⟩ (c_X9_clear l C X n S_2 hw.wf _ q5 (Tq5) S_6 hq7) ⟨va_cnB (host := "WickNights") 0 hU (pq_g1 tc_X9_clear) rfl rfl rfl (hw.nw 92 rfl) (hU _ tw5) cd_X9_clear.2 ⟨Nat.le_of_ble_eq_true rfl, Nat.le_of_ble_eq_true rfl⟩, hU _ tw567, hU _ ts11⟩ (pw_preV hw Tq5 (by decide) rfl) rfl rfl hl.1 rfl (lv_room (Nat.le_of_ble_eq_true rfl)) dX1_read_11 ⟨Nat.zero_le _, Nat.zero_le _⟩) hw (fun H locs hw hx8 => ?_)
  have Ta0 : TY S_6 a0 1 := ty_ext hx8 Ta0
  have Ta1 : TY S_6 a1 10 := ty_ext hx8 Ta1
  have hE : Ext S0 S_6 := Ext.tr hE hx8
  refine lv_aload_n hx hb dX1_read_14 rfl (lv_at hl 0 rfl) ?_
  obtain ⟨q9, hq9, hm⟩ := bd_some hm
  have Tq9 : TY S_6 q9 9 := hw.wf.ref (k := 1) (j := 2) Ta0 (by decide) (by decide) hq9
  refine pg_rb (k := 1) (j := 2) (f := 102) hx hb hown hU iu1 hw Ta0 (by decide) rfl (hU _ tw123) rfl hq9 dX1_read_15 ?_
  obtain ⟨S_10, hq11, hm⟩ := bd_some hm
  refine pw_cv (va_runVN (As := []) (rest := []) ⟨hx, hb, hml, hown, hU⟩ (c_X9_clear l C X n S_6 hw.wf _ q9 (Tq9) S_10 hq11) ⟨va_cnB (host := "WickNights") 0 hU (pq_g1 tc_X9_clear) rfl rfl rfl (hw.nw 92 rfl) (hU _ tw5) cd_X9_clear.2 ⟨Nat.le_of_ble_eq_true rfl, Nat.le_of_ble_eq_true rfl⟩, hU _ tw567, hU _ ts11⟩ (pw_preV hw Tq9 (by decide) rfl) rfl rfl hl.1 rfl (lv_room (Nat.le_of_ble_eq_true rfl)) dX1_read_18 ⟨Nat.zero_le _, Nat.zero_le _⟩) hw (fun H locs hw hx12 => ?_)
  have Ta0 : TY S_10 a0 1 := ty_ext hx12 Ta0
  have Ta1 : TY S_10 a1 10 := ty_ext hx12 Ta1
  have hE : Ext S0 S_10 := Ext.tr hE hx12
  refine lv_aload_n hx hb dX1_read_21 rfl (lv_at hl 0 rfl) ?_
  obtain ⟨q13, hq13, hm⟩ := bd_some hm
  have Tq13 : TY S_10 q13 9 := hw.wf.ref (k := 1) (j := 3) Ta0 (by decide) (by decide) hq13
  refine pg_rb (k := 1) (j := 3) (f := 103) hx hb hown hU iu1 hw Ta0 (by decide) rfl (hU _ tw128) rfl hq13 dX1_read_22 ?_
  obtain ⟨S_14, hq15, hm⟩ := bd_some hm
  refine pw_cv (va_runVN (As := []) (rest := []) ⟨hx, hb, hml, hown, hU⟩ (c_X9_clear l C X n S_10 hw.wf _ q13 (Tq13) S_14 hq15) ⟨va_cnB (host := "WickNights") 0 hU (pq_g1 tc_X9_clear) rfl rfl rfl (hw.nw 92 rfl) (hU _ tw5) cd_X9_clear.2 ⟨Nat.le_of_ble_eq_true rfl, Nat.le_of_ble_eq_true rfl⟩, hU _ tw567, hU _ ts11⟩ (pw_preV hw Tq13 (by decide) rfl) rfl rfl hl.1 rfl (lv_room (Nat.le_of_ble_eq_true rfl)) dX1_read_25 ⟨Nat.zero_le _, Nat.zero_le _⟩) hw (fun H locs hw hx16 => ?_)
  have Ta0 : TY S_14 a0 1 := ty_ext hx16 Ta0
  have Ta1 : TY S_14 a1 10 := ty_ext hx16 Ta1
  have hE : Ext S0 S_14 := Ext.tr hE hx16
  refine lv_aload_n hx hb dX1_read_28 rfl (lv_at hl 0 rfl) ?_
  refine lv_iconst (v := 1) hx hb dX1_read_29 (by decide) ?_
  refine pp_i (k := 1) (j := 4) (f := 104) hx hb hown hU iu1 tyX1_ok nmX1 hw Ta0 (by decide) rfl (hU _ tw130) rfl rfl rfl dX1_read_30 (fun H locs hw => ?_)
  refine lv_aload_n hx hb dX1_read_33 rfl (lv_at hl 0 rfl) ?_
  refine lv_iconst (v := 3) hx hb dX1_read_34 (by decide) ?_
  refine pp_i (k := 1) (j := 5) (f := 105) hx hb hown hU iu1 tyX1_ok nmX1 hw Ta0 (by decide) rfl (hU _ tw132) rfl rfl rfl dX1_read_35 (fun H locs hw => ?_)
  refine lv_iconst (v := 0) hx hb dX1_read_38 (by decide) ?_
  refine lv_istore_n (lv' := [(2, .int 0), (0, .ref a0), (1, .ref a1)]) hx hb dX1_read_39 rfl hl (by decide) rfl (fun ls hl => ?_)
  exact wb_X1_read_40 cx C X S0 n S1 n a0 a1 0 (sI (sI S_14 104 a0 1) 105 a0 3) _ _ _ hw hE Ta0 Ta1 (lv_sub hl [1, 2, 0] rfl) hm
abbrev rm_X3_findRests : Room := { frames := 5, cells := 0, slots := 0, locals := 117 }
def b_X3_findRests_61 (n : Nat) (k2 : Nat → Int32 → Int32 → Int32 → pq_S → Option pq_S) (a0 : Nat) (x1 : Int32) (x2 : Int32) (x3 : Int32) (S : pq_S) : Option pq_S := k2 a0 x1 x2 (x3 + 1) S
set_option maxHeartbeats 4000000 in
set_option maxRecDepth 100000 in
theorem wb_X3_findRests_61 {p : Program} {l : Launch} {e : Env} {s : State} {m : MethodId} {args : Array Value} {below : List Frame} {meth : Method} {c : Code} (cx : Cx p s m args meth c cX3_findRests 5 RX3 none) (C : pq_C) (X : va_W) (S0 : pq_S) (n : Nat) (S1 : pq_S) (k2 : Nat → Int32 → Int32 → Int32 → pq_S → Option pq_S) (hk2 : ∀ (a0 : Nat) (x1 : Int32) (x2 : Int32) (x3 : Int32) (S : pq_S) (H : Heap) (locs : List Loc) (ls : Array Slot), PW C X S (pq_F C X S0 s.heap.size) H locs s → Ext S0 S → TY S a0 3 → lv_has ls 5 [(0, .ref a0), (1, .int x1), (2, .int x2), (3, .int x3)] → k2 a0 x1 x2 x3 S = some S1 → W p l e rm_X3_findRests s m args below meth c H locs 0 0 (MQ below (QcV C X S0 s.heap.size S1) args s 0 0 (pq_F C X S0 s.heap.size)) (F0 m 2 ls [])) : ∀ (a0 : Nat) (x1 : Int32) (x2 : Int32) (x3 : Int32) (S : pq_S) (H : Heap) (locs : List Loc) (ls : Array Slot), PW C X S (pq_F C X S0 s.heap.size) H locs s → Ext S0 S → TY S a0 3 → lv_has ls 5 [(0, .ref a0), (1, .int x1), (2, .int x2), (3, .int x3)] → b_X3_findRests_61 n k2 a0 x1 x2 x3 S = some S1 → W p l e rm_X3_findRests s m args below meth c H locs 0 0 (MQ below (QcV C X S0 s.heap.size S1) args s 0 0 (pq_F C X S0 s.heap.size)) (F0 m 61 ls []) := by
  obtain ⟨hx, hb, hml, hown, hU, hr, hlk⟩ := id cx
  intro a0 x1 x2 x3 S H locs ls hw hE Ta0 hl hm
  rw [b_X3_findRests_61] at hm
  refine lv_iinc (v := (x3 + 1)) (lv' := [(3, .int (x3 + 1)), (0, .ref a0), (1, .int x1), (2, .int x2)]) hx hb dX3_findRests_61 hl (k := 3) rfl rfl (by decide) rfl (fun ls hl => ?_)
  refine lv_goto (tgt := 2) hx hb dX3_findRests_64 (by decide) ?_
  exact hk2 a0 x1 x2 (x3 + 1) S _ _ _ hw hE Ta0 (lv_sub hl [1, 2, 3, 0] rfl) hm
def b_X3_findRests_26 (n : Nat) (k2 : Nat → Int32 → Int32 → Int32 → pq_S → Option pq_S) : Nat → Nat → Int32 → Int32 → Int32 → Int32 → pq_S → Option pq_S
  | 0, _, _, _, _, _, _ => none
  | f + 1, a0, x1, x2, x3, x4, S => if x2 < x4 then b_X3_findRests_61 n k2 a0 x1 x2 x3 S else Option.bind (pR S 303 a0) fun q7 => Option.bind (pR S 303 a0) fun q8 => ck (ix x3 (pN S q8)) (dix _ _) (cb (m_X3_gained n a0 x1 x4 x3 S) fun r12 S_10 => ck (ix x3 (pN S_10 q7)) (dix _ _) (lt_ (sA S_10 q7 (Int32.toNatClampNeg x3) (if (pA S q8 (Int32.toNatClampNeg x3)) < r12 then r12 else (pA S q8 (Int32.toNatClampNeg x3)))) fun S_15 => b_X3_findRests_26 n k2 f a0 x1 x2 x3 (x4 + 1) S_15))
set_option maxHeartbeats 4000000 in
set_option maxRecDepth 100000 in
theorem wb_X3_findRests_26 {p : Program} {l : Launch} {e : Env} {s : State} {m : MethodId} {args : Array Value} {below : List Frame} {meth : Method} {c : Code} (cx : Cx p s m args meth c cX3_findRests 5 RX3 none) (C : pq_C) (X : va_W) (S0 : pq_S) (n : Nat) (S1 : pq_S) (k2 : Nat → Int32 → Int32 → Int32 → pq_S → Option pq_S) (hk2 : ∀ (a0 : Nat) (x1 : Int32) (x2 : Int32) (x3 : Int32) (S : pq_S) (H : Heap) (locs : List Loc) (ls : Array Slot), PW C X S (pq_F C X S0 s.heap.size) H locs s → Ext S0 S → TY S a0 3 → lv_has ls 5 [(0, .ref a0), (1, .int x1), (2, .int x2), (3, .int x3)] → k2 a0 x1 x2 x3 S = some S1 → W p l e rm_X3_findRests s m args below meth c H locs 0 0 (MQ below (QcV C X S0 s.heap.size S1) args s 0 0 (pq_F C X S0 s.heap.size)) (F0 m 2 ls [])) : ∀ (f : Nat) (a0 : Nat) (x1 : Int32) (x2 : Int32) (x3 : Int32) (x4 : Int32) (S : pq_S) (H : Heap) (locs : List Loc) (ls : Array Slot), PW C X S (pq_F C X S0 s.heap.size) H locs s → Ext S0 S → TY S a0 3 → lv_has ls 5 [(0, .ref a0), (1, .int x1), (2, .int x2), (3, .int x3), (4, .int x4)] → b_X3_findRests_26 n k2 f a0 x1 x2 x3 x4 S = some S1 → W p l e rm_X3_findRests s m args below meth c H locs 0 0 (MQ below (QcV C X S0 s.heap.size S1) args s 0 0 (pq_F C X S0 s.heap.size)) (F0 m 26 ls []) := by
  obtain ⟨hx, hb, hml, hown, hU, hr, hlk⟩ := id cx
  intro f
  induction f with
  | zero =>
    intro a0 x1 x2 x3 x4 S H locs ls hw hE Ta0 hl hm
    cases hm
  | succ f ih =>
    intro a0 x1 x2 x3 x4 S H locs ls hw hE Ta0 hl hm
    rw [b_X3_findRests_26] at hm
    refine lv_iload hx hb dX3_findRests_26 (lv_at hl 4 rfl) ?_
    refine lv_iload_n hx hb dX3_findRests_28 rfl (lv_at hl 2 rfl) ?_
    refine lv_icmp_gt (tgt := 61) hx hb dX3_findRests_29 (by decide) (fun h6 => ?_) (fun h6 => ?_)
    · rw [if_pos h6] at hm
      exact wb_X3_findRests_61 cx C X S0 n S1 _ hk2 a0 x1 x2 x3 S _ _ _ hw hE Ta0 (lv_sub hl [0, 1, 2, 3] rfl) hm
    · rw [if_neg h6] at hm
      refine lv_aload_n hx hb dX3_findRests_32 rfl (lv_at hl 0 rfl) ?_
      obtain ⟨q7, hq7, hm⟩ := bd_some hm
      have Tq7 : TY S q7 14 := hw.wf.ref (k := 3) (j := 3) Ta0 (by decide) (by decide) hq7
      refine pg_rb (k := 3) (j := 3) (f := 303) hx hb hown hU iu3 hw Ta0 (by decide) rfl (hU _ tw242) rfl hq7 dX3_findRests_33 ?_
      refine lv_iload_n hx hb dX3_findRests_36 rfl (lv_at hl 3 rfl) ?_
      refine lv_aload_n hx hb dX3_findRests_37 rfl (lv_at hl 0 rfl) ?_
      obtain ⟨q8, hq8, hm⟩ := bd_some hm
      have Tq8 : TY S q8 14 := hw.wf.ref (k := 3) (j := 3) Ta0 (by decide) (by decide) hq8
      refine pg_rb (k := 3) (j := 3) (f := 303) hx hb hown hU iu3 hw Ta0 (by decide) rfl (hU _ tw242) rfl hq8 dX3_findRests_38 ?_
      refine lv_iload_n hx hb dX3_findRests_41 rfl (lv_at hl 3 rfl) ?_
      obtain ⟨hi9, hm⟩ := ck_some hm
      refine pw_iald hx hb hw Tq8 hi9 dX3_findRests_42 ?_
      refine lv_aload_n hx hb dX3_findRests_43 rfl (lv_at hl 0 rfl) ?_
      refine lv_iload_n hx hb dX3_findRests_44 rfl (lv_at hl 1 rfl) ?_
      refine lv_iload hx hb dX3_findRests_45 (lv_at hl 4 rfl) ?_
      refine lv_iload_n hx hb dX3_findRests_47 rfl (lv_at hl 3 rfl) ?_
      obtain ⟨r12, S_10, hq11, hm⟩ := cb_some hm
      refine pw_ci (va_runV (As := [.int x1, .int x4, .int x3]) (rest := [.int (pA S q8 (Int32.toNatClampNeg x3)), .int x3, .ref q7]) ⟨hx, hb, hml, hown, hU⟩ (c_X3_gained l C X n S hw.wf _ a0 x1 x4 x3 (Ta0) r12 S_10 hq11) (cwV 3 hU (pq_gV tw1334 tw1336 ts110 tw8 tc_X3_gained) rfl rfl rfl cd_X3_gained ⟨Nat.le_of_ble_eq_true rfl, Nat.le_of_ble_eq_true rfl⟩) (pw_preV hw Ta0 (by decide) rfl) rfl rfl hl.1 rfl (lv_room (Nat.le_of_ble_eq_true rfl)) dX3_findRests_48 ⟨Nat.zero_le _, Nat.zero_le _⟩) hw (fun H locs hw hx13 => ?_)
      have Tq7 : TY S_10 q7 14 := ty_ext hx13 Tq7
      have Ta0 : TY S_10 a0 3 := ty_ext hx13 Ta0
      have hE : Ext S0 S_10 := Ext.tr hE hx13
      refine va_mmax hx hb (by rw [hml]; exact hl.1.symm) hown (hU _ tw1100) (hU _ twm_max_s) (hU _ twm_i) (hU _ twm_max_c) (Nat.le_of_ble_eq_true rfl) (Nat.le_of_ble_eq_true rfl) (Nat.zero_le _) (Nat.zero_le _) dX3_findRests_51 ?_
      obtain ⟨hi14, hm⟩ := ck_some hm
      refine pw_iast hx hb hw Tq7 hi14 dX3_findRests_54 (fun H locs hw => ?_)
      obtain ⟨S_15, eS_15, hm⟩ := lt_some hm
      rw [← eS_15] at hw
      have Ta0 : TY S_15 a0 3 := by rw [eS_15]; exact Ta0
      have hE : Ext S0 S_15 := by rw [eS_15]; exact hE
      refine lv_iinc (v := (x4 + 1)) (lv' := [(4, .int (x4 + 1)), (0, .ref a0), (1, .int x1), (2, .int x2), (3, .int x3)]) hx hb dX3_findRests_55 hl (k := 4) rfl rfl (by decide) rfl (fun ls hl => ?_)
      refine lv_goto (tgt := 26) hx hb dX3_findRests_58 (by decide) ?_
      exact ih a0 x1 x2 x3 (x4 + 1) S_15 _ _ _ hw hE Ta0 (lv_sub hl [1, 2, 3, 4, 0] rfl) hm
def b_X3_findRests_117 (n : Nat) (k49 : Nat → Int32 → Int32 → Int32 → pq_S → Option pq_S) (k54 : Nat → Int32 → Int32 → Int32 → Int32 → pq_S → Option pq_S) (a0 : Nat) (x1 : Int32) (x2 : Int32) (x3 : Int32) (x4 : Int32) (S : pq_S) : Option pq_S := k54 a0 x1 x2 x3 (x4 + 1) S
set_option maxHeartbeats 4000000 in
set_option maxRecDepth 100000 in
theorem wb_X3_findRests_117 {p : Program} {l : Launch} {e : Env} {s : State} {m : MethodId} {args : Array Value} {below : List Frame} {meth : Method} {c : Code} (cx : Cx p s m args meth c cX3_findRests 5 RX3 none) (C : pq_C) (X : va_W) (S0 : pq_S) (n : Nat) (S1 : pq_S) (k49 : Nat → Int32 → Int32 → Int32 → pq_S → Option pq_S) (hk49 : ∀ (a0 : Nat) (x1 : Int32) (x2 : Int32) (x3 : Int32) (S : pq_S) (H : Heap) (locs : List Loc) (ls : Array Slot), PW C X S (pq_F C X S0 s.heap.size) H locs s → Ext S0 S → TY S a0 3 → lv_has ls 5 [(0, .ref a0), (1, .int x1), (2, .int x2), (3, .int x3)] → k49 a0 x1 x2 x3 S = some S1 → W p l e rm_X3_findRests s m args below meth c H locs 0 0 (MQ below (QcV C X S0 s.heap.size S1) args s 0 0 (pq_F C X S0 s.heap.size)) (F0 m 84 ls [])) (k54 : Nat → Int32 → Int32 → Int32 → Int32 → pq_S → Option pq_S) (hk54 : ∀ (a0 : Nat) (x1 : Int32) (x2 : Int32) (x3 : Int32) (x4 : Int32) (S : pq_S) (H : Heap) (locs : List Loc) (ls : Array Slot), PW C X S (pq_F C X S0 s.heap.size) H locs s → Ext S0 S → TY S a0 3 → lv_has ls 5 [(0, .ref a0), (1, .int x1), (2, .int x2), (3, .int x3), (4, .int x4)] → k54 a0 x1 x2 x3 x4 S = some S1 → W p l e rm_X3_findRests s m args below meth c H locs 0 0 (MQ below (QcV C X S0 s.heap.size S1) args s 0 0 (pq_F C X S0 s.heap.size)) (F0 m 92 ls [])) : ∀ (a0 : Nat) (x1 : Int32) (x2 : Int32) (x3 : Int32) (x4 : Int32) (S : pq_S) (H : Heap) (locs : List Loc) (ls : Array Slot), PW C X S (pq_F C X S0 s.heap.size) H locs s → Ext S0 S → TY S a0 3 → lv_has ls 5 [(0, .ref a0), (1, .int x1), (2, .int x2), (3, .int x3), (4, .int x4)] → b_X3_findRests_117 n k49 k54 a0 x1 x2 x3 x4 S = some S1 → W p l e rm_X3_findRests s m args below meth c H locs 0 0 (MQ below (QcV C X S0 s.heap.size S1) args s 0 0 (pq_F C X S0 s.heap.size)) (F0 m 117 ls []) := by
  obtain ⟨hx, hb, hml, hown, hU, hr, hlk⟩ := id cx
  intro a0 x1 x2 x3 x4 S H locs ls hw hE Ta0 hl hm
  rw [b_X3_findRests_117] at hm
  refine lv_iinc (v := (x4 + 1)) (lv' := [(4, .int (x4 + 1)), (0, .ref a0), (1, .int x1), (2, .int x2), (3, .int x3)]) hx hb dX3_findRests_117 hl (k := 4) rfl rfl (by decide) rfl (fun ls hl => ?_)
  refine lv_goto (tgt := 92) hx hb dX3_findRests_120 (by decide) ?_
  exact hk54 a0 x1 x2 x3 (x4 + 1) S _ _ _ hw hE Ta0 (lv_sub hl [1, 2, 3, 4, 0] rfl) hm
def b_X3_findRests_123 (n : Nat) (k49 : Nat → Int32 → Int32 → Int32 → pq_S → Option pq_S) (a0 : Nat) (x1 : Int32) (x2 : Int32) (x3 : Int32) (S : pq_S) : Option pq_S := k49 a0 x1 x2 (x3 + 1) S
set_option maxHeartbeats 4000000 in
set_option maxRecDepth 100000 in
theorem wb_X3_findRests_123 {p : Program} {l : Launch} {e : Env} {s : State} {m : MethodId} {args : Array Value} {below : List Frame} {meth : Method} {c : Code} (cx : Cx p s m args meth c cX3_findRests 5 RX3 none) (C : pq_C) (X : va_W) (S0 : pq_S) (n : Nat) (S1 : pq_S) (k49 : Nat → Int32 → Int32 → Int32 → pq_S → Option pq_S) (hk49 : ∀ (a0 : Nat) (x1 : Int32) (x2 : Int32) (x3 : Int32) (S : pq_S) (H : Heap) (locs : List Loc) (ls : Array Slot), PW C X S (pq_F C X S0 s.heap.size) H locs s → Ext S0 S → TY S a0 3 → lv_has ls 5 [(0, .ref a0), (1, .int x1), (2, .int x2), (3, .int x3)] → k49 a0 x1 x2 x3 S = some S1 → W p l e rm_X3_findRests s m args below meth c H locs 0 0 (MQ below (QcV C X S0 s.heap.size S1) args s 0 0 (pq_F C X S0 s.heap.size)) (F0 m 84 ls [])) : ∀ (a0 : Nat) (x1 : Int32) (x2 : Int32) (x3 : Int32) (S : pq_S) (H : Heap) (locs : List Loc) (ls : Array Slot), PW C X S (pq_F C X S0 s.heap.size) H locs s → Ext S0 S → TY S a0 3 → lv_has ls 5 [(0, .ref a0), (1, .int x1), (2, .int x2), (3, .int x3)] → b_X3_findRests_123 n k49 a0 x1 x2 x3 S = some S1 → W p l e rm_X3_findRests s m args below meth c H locs 0 0 (MQ below (QcV C X S0 s.heap.size S1) args s 0 0 (pq_F C X S0 s.heap.size)) (F0 m 123 ls []) := by
  obtain ⟨hx, hb, hml, hown, hU, hr, hlk⟩ := id cx
  intro a0 x1 x2 x3 S H locs ls hw hE Ta0 hl hm
  rw [b_X3_findRests_123] at hm
  refine lv_iinc (v := (x3 + 1)) (lv' := [(3, .int (x3 + 1)), (0, .ref a0), (1, .int x1), (2, .int x2)]) hx hb dX3_findRests_123 hl (k := 3) rfl rfl (by decide) rfl (fun ls hl => ?_)
  refine lv_goto (tgt := 84) hx hb dX3_findRests_126 (by decide) ?_
  exact hk49 a0 x1 x2 (x3 + 1) S _ _ _ hw hE Ta0 (lv_sub hl [1, 2, 3, 0] rfl) hm
def b_X3_findRests_92 (n : Nat) (k49 : Nat → Int32 → Int32 → Int32 → pq_S → Option pq_S) : Nat → Nat → Int32 → Int32 → Int32 → Int32 → pq_S → Option pq_S
  | 0, _, _, _, _, _, _ => none
  | f + 1, a0, x1, x2, x3, x4, S => if x2 < x4 then b_X3_findRests_123 n k49 a0 x1 x2 x3 S else cb (m_X3_isRest n a0 x1 x3 x4 S) fun r20 S_18 => if r20 = 0 then b_X3_findRests_117 n k49 (b_X3_findRests_92 n k49 f) a0 x1 x2 x3 x4 S_18 else Option.bind (m_X3_keepRest n a0 x1 x3 x4 S_18) fun S_24 => b_X3_findRests_117 n k49 (b_X3_findRests_92 n k49 f) a0 x1 x2 x3 x4 S_24
set_option maxHeartbeats 4000000 in
set_option maxRecDepth 100000 in
theorem wb_X3_findRests_92 {p : Program} {l : Launch} {e : Env} {s : State} {m : MethodId} {args : Array Value} {below : List Frame} {meth : Method} {c : Code} (cx : Cx p s m args meth c cX3_findRests 5 RX3 none) (C : pq_C) (X : va_W) (S0 : pq_S) (n : Nat) (S1 : pq_S) (k49 : Nat → Int32 → Int32 → Int32 → pq_S → Option pq_S) (hk49 : ∀ (a0 : Nat) (x1 : Int32) (x2 : Int32) (x3 : Int32) (S : pq_S) (H : Heap) (locs : List Loc) (ls : Array Slot), PW C X S (pq_F C X S0 s.heap.size) H locs s → Ext S0 S → TY S a0 3 → lv_has ls 5 [(0, .ref a0), (1, .int x1), (2, .int x2), (3, .int x3)] → k49 a0 x1 x2 x3 S = some S1 → W p l e rm_X3_findRests s m args below meth c H locs 0 0 (MQ below (QcV C X S0 s.heap.size S1) args s 0 0 (pq_F C X S0 s.heap.size)) (F0 m 84 ls [])) : ∀ (f : Nat) (a0 : Nat) (x1 : Int32) (x2 : Int32) (x3 : Int32) (x4 : Int32) (S : pq_S) (H : Heap) (locs : List Loc) (ls : Array Slot), PW C X S (pq_F C X S0 s.heap.size) H locs s → Ext S0 S → TY S a0 3 → lv_has ls 5 [(0, .ref a0), (1, .int x1), (2, .int x2), (3, .int x3), (4, .int x4)] → b_X3_findRests_92 n k49 f a0 x1 x2 x3 x4 S = some S1 → W p l e rm_X3_findRests s m args below meth c H locs 0 0 (MQ below (QcV C X S0 s.heap.size S1) args s 0 0 (pq_F C X S0 s.heap.size)) (F0 m 92 ls []) := by
  obtain ⟨hx, hb, hml, hown, hU, hr, hlk⟩ := id cx
  intro f
  induction f with
  | zero =>
    intro a0 x1 x2 x3 x4 S H locs ls hw hE Ta0 hl hm
    cases hm
  | succ f ih =>
    intro a0 x1 x2 x3 x4 S H locs ls hw hE Ta0 hl hm
    rw [b_X3_findRests_92] at hm
    refine lv_iload hx hb dX3_findRests_92 (lv_at hl 4 rfl) ?_
    refine lv_iload_n hx hb dX3_findRests_94 rfl (lv_at hl 2 rfl) ?_
    refine lv_icmp_gt (tgt := 123) hx hb dX3_findRests_95 (by decide) (fun h17 => ?_) (fun h17 => ?_)
    · rw [if_pos h17] at hm
      exact wb_X3_findRests_123 cx C X S0 n S1 _ hk49 a0 x1 x2 x3 S _ _ _ hw hE Ta0 (lv_sub hl [0, 1, 2, 3] rfl) hm
    · rw [if_neg h17] at hm
      refine lv_aload_n hx hb dX3_findRests_98 rfl (lv_at hl 0 rfl) ?_
      refine lv_iload_n hx hb dX3_findRests_99 rfl (lv_at hl 1 rfl) ?_
      refine lv_iload_n hx hb dX3_findRests_100 rfl (lv_at hl 3 rfl) ?_
      refine lv_iload hx hb dX3_findRests_101 (lv_at hl 4 rfl) ?_
      obtain ⟨r20, S_18, hq19, hm⟩ := cb_some hm
      refine pw_cz (va_runV (As := [.int x1, .int x3, .int x4]) (rest := []) ⟨hx, hb, hml, hown, hU⟩ (c_X3_isRest l C X n S hw.wf _ a0 x1 x3 x4 (Ta0) r20 S_18 hq19) (cwV 3 hU (pq_gV tw1338 tw1340 ts111 tw8 tc_X3_isRest) rfl rfl rfl cd_X3_isRest ⟨Nat.le_of_ble_eq_true rfl, Nat.le_of_ble_eq_true rfl⟩) (pw_preV hw Ta0 (by decide) rfl) rfl rfl hl.1 rfl (lv_room (Nat.le_of_ble_eq_true rfl)) dX3_findRests_103 ⟨Nat.zero_le _, Nat.zero_le _⟩) hw (fun H locs hw hx21 hz22 => ?_)
      have Ta0 : TY S_18 a0 3 := ty_ext hx21 Ta0
      have hE : Ext S0 S_18 := Ext.tr hE hx21
      refine lv_if_eq (tgt := 117) hx hb dX3_findRests_106 (by decide) (fun h23 => ?_) (fun h23 => ?_)
      · rw [if_pos h23] at hm
        exact wb_X3_findRests_117 cx C X S0 n S1 _ hk49 _ ih a0 x1 x2 x3 x4 S_18 _ _ _ hw hE Ta0 (lv_sub hl [0, 1, 2, 3, 4] rfl) hm
      · rw [if_neg h23] at hm
        refine lv_aload_n hx hb dX3_findRests_109 rfl (lv_at hl 0 rfl) ?_
        refine lv_iload_n hx hb dX3_findRests_110 rfl (lv_at hl 1 rfl) ?_
        refine lv_iload_n hx hb dX3_findRests_111 rfl (lv_at hl 3 rfl) ?_
        refine lv_iload hx hb dX3_findRests_112 (lv_at hl 4 rfl) ?_
        obtain ⟨S_24, hq25, hm⟩ := bd_some hm
        refine pw_cv (va_runV (As := [.int x1, .int x3, .int x4]) (rest := []) ⟨hx, hb, hml, hown, hU⟩ (c_X3_keepRest l C X n S_18 hw.wf _ a0 x1 x3 x4 (Ta0) S_24 hq25) (cwV 3 hU (pq_gV tw1346 tw1348 ts113 tw8 tc_X3_keepRest) rfl rfl rfl cd_X3_keepRest ⟨Nat.le_of_ble_eq_true rfl, Nat.le_of_ble_eq_true rfl⟩) (pw_preV hw Ta0 (by decide) rfl) rfl rfl hl.1 rfl (lv_room (Nat.le_of_ble_eq_true rfl)) dX3_findRests_114 ⟨Nat.zero_le _, Nat.zero_le _⟩) hw (fun H locs hw hx26 => ?_)
        have Ta0 : TY S_24 a0 3 := ty_ext hx26 Ta0
        have hE : Ext S0 S_24 := Ext.tr hE hx26
        exact wb_X3_findRests_117 cx C X S0 n S1 _ hk49 _ ih a0 x1 x2 x3 x4 S_24 _ _ _ hw hE Ta0 (lv_sub hl [0, 1, 2, 3, 4] rfl) hm
def b_X3_findRests_84 (n : Nat) : Nat → Nat → Int32 → Int32 → Int32 → pq_S → Option pq_S
  | 0, _, _, _, _, _ => none
  | f + 1, a0, x1, x2, x3, S => if x2 < x3 then some S else b_X3_findRests_92 n (b_X3_findRests_84 n f) n a0 x1 x2 x3 0 S
set_option maxHeartbeats 4000000 in
set_option maxRecDepth 100000 in
theorem wb_X3_findRests_84 {p : Program} {l : Launch} {e : Env} {s : State} {m : MethodId} {args : Array Value} {below : List Frame} {meth : Method} {c : Code} (cx : Cx p s m args meth c cX3_findRests 5 RX3 none) (C : pq_C) (X : va_W) (S0 : pq_S) (n : Nat) (S1 : pq_S) : ∀ (f : Nat) (a0 : Nat) (x1 : Int32) (x2 : Int32) (x3 : Int32) (S : pq_S) (H : Heap) (locs : List Loc) (ls : Array Slot), PW C X S (pq_F C X S0 s.heap.size) H locs s → Ext S0 S → TY S a0 3 → lv_has ls 5 [(0, .ref a0), (1, .int x1), (2, .int x2), (3, .int x3)] → b_X3_findRests_84 n f a0 x1 x2 x3 S = some S1 → W p l e rm_X3_findRests s m args below meth c H locs 0 0 (MQ below (QcV C X S0 s.heap.size S1) args s 0 0 (pq_F C X S0 s.heap.size)) (F0 m 84 ls []) := by
  obtain ⟨hx, hb, hml, hown, hU, hr, hlk⟩ := id cx
  intro f
  induction f with
  | zero =>
    intro a0 x1 x2 x3 S H locs ls hw hE Ta0 hl hm
    cases hm
  | succ f ih =>
    intro a0 x1 x2 x3 S H locs ls hw hE Ta0 hl hm
    rw [b_X3_findRests_84] at hm
    refine lv_iload_n hx hb dX3_findRests_84 rfl (lv_at hl 3 rfl) ?_
    refine lv_iload_n hx hb dX3_findRests_85 rfl (lv_at hl 2 rfl) ?_
    refine lv_icmp_gt (tgt := 129) hx hb dX3_findRests_86 (by decide) (fun h16 => ?_) (fun h16 => ?_)
    · rw [if_pos h16] at hm
      cases hm
      exact pw_vret hx hb hr hlk hw hE dX3_findRests_129
    · rw [if_neg h16] at hm
      refine lv_iconst (v := 0) hx hb dX3_findRests_89 (by decide) ?_
      refine lv_istore (lv' := [(4, .int 0), (0, .ref a0), (1, .int x1), (2, .int x2), (3, .int x3)]) hx hb dX3_findRests_90 hl (by decide) rfl (fun ls hl => ?_)
      exact wb_X3_findRests_92 cx C X S0 n S1 _ ih n a0 x1 x2 x3 0 S _ _ _ hw hE Ta0 (lv_sub hl [1, 2, 3, 4, 0] rfl) hm
def b_X3_findRests_67 (n : Nat) (a0 : Nat) (x1 : Int32) (x2 : Int32) (S : pq_S) : Option pq_S := b_X3_findRests_84 n n a0 x1 x2 0 (sI (sI (sI S 306 a0 0) 307 a0 (-1)) 308 a0 0)
set_option maxHeartbeats 4000000 in
set_option maxRecDepth 100000 in
theorem wb_X3_findRests_67 {p : Program} {l : Launch} {e : Env} {s : State} {m : MethodId} {args : Array Value} {below : List Frame} {meth : Method} {c : Code} (cx : Cx p s m args meth c cX3_findRests 5 RX3 none) (C : pq_C) (X : va_W) (S0 : pq_S) (n : Nat) (S1 : pq_S) : ∀ (a0 : Nat) (x1 : Int32) (x2 : Int32) (S : pq_S) (H : Heap) (locs : List Loc) (ls : Array Slot), PW C X S (pq_F C X S0 s.heap.size) H locs s → Ext S0 S → TY S a0 3 → lv_has ls 5 [(0, .ref a0), (1, .int x1), (2, .int x2)] → b_X3_findRests_67 n a0 x1 x2 S = some S1 → W p l e rm_X3_findRests s m args below meth c H locs 0 0 (MQ below (QcV C X S0 s.heap.size S1) args s 0 0 (pq_F C X S0 s.heap.size)) (F0 m 67 ls []) := by
  obtain ⟨hx, hb, hml, hown, hU, hr, hlk⟩ := id cx
  intro a0 x1 x2 S H locs ls hw hE Ta0 hl hm
  rw [b_X3_findRests_67] at hm
  refine lv_aload_n hx hb dX3_findRests_67 rfl (lv_at hl 0 rfl) ?_
  refine lv_iconst (v := 0) hx hb dX3_findRests_68 (by decide) ?_
  refine pp_i (k := 3) (j := 6) (f := 306) hx hb hown hU iu3 tyX3_ok nmX3 hw Ta0 (by decide) rfl (hU _ tw247) rfl rfl rfl dX3_findRests_69 (fun H locs hw => ?_)
  refine lv_aload_n hx hb dX3_findRests_72 rfl (lv_at hl 0 rfl) ?_
  refine lv_iconst (v := (-1)) hx hb dX3_findRests_73 (by decide) ?_
  refine pp_i (k := 3) (j := 7) (f := 307) hx hb hown hU iu3 tyX3_ok nmX3 hw Ta0 (by decide) rfl (hU _ tw249) rfl rfl rfl dX3_findRests_74 (fun H locs hw => ?_)
  refine lv_aload_n hx hb dX3_findRests_77 rfl (lv_at hl 0 rfl) ?_
  refine lv_iconst (v := 0) hx hb dX3_findRests_78 (by decide) ?_
  refine pp_i (k := 3) (j := 8) (f := 308) hx hb hown hU iu3 tyX3_ok nmX3 hw Ta0 (by decide) rfl (hU _ tw251) rfl rfl rfl dX3_findRests_79 (fun H locs hw => ?_)
  refine lv_iconst (v := 0) hx hb dX3_findRests_82 (by decide) ?_
  refine lv_istore_n (lv' := [(3, .int 0), (0, .ref a0), (1, .int x1), (2, .int x2)]) hx hb dX3_findRests_83 rfl hl (by decide) rfl (fun ls hl => ?_)
  exact wb_X3_findRests_84 cx C X S0 n S1 n a0 x1 x2 0 (sI (sI (sI S 306 a0 0) 307 a0 (-1)) 308 a0 0) _ _ _ hw hE Ta0 (lv_sub hl [1, 2, 3, 0] rfl) hm
def b_X3_findRests_2 (n : Nat) : Nat → Nat → Int32 → Int32 → Int32 → pq_S → Option pq_S
  | 0, _, _, _, _, _ => none
  | f + 1, a0, x1, x2, x3, S => if x2 < x3 then b_X3_findRests_67 n a0 x1 x2 S else Option.bind (pR S 303 a0) fun q2 => if (Int32.ofNat (pN S q2)) ≤ x3 then b_X3_findRests_67 n a0 x1 x2 S else Option.bind (pR S 303 a0) fun q4 => ck (ix x3 (pN S q4)) (dix _ _) (b_X3_findRests_26 n (b_X3_findRests_2 n f) n a0 x1 x2 x3 0 (sA S q4 (Int32.toNatClampNeg x3) 0))
set_option maxHeartbeats 4000000 in
set_option maxRecDepth 100000 in
theorem wb_X3_findRests_2 {p : Program} {l : Launch} {e : Env} {s : State} {m : MethodId} {args : Array Value} {below : List Frame} {meth : Method} {c : Code} (cx : Cx p s m args meth c cX3_findRests 5 RX3 none) (C : pq_C) (X : va_W) (S0 : pq_S) (n : Nat) (S1 : pq_S) : ∀ (f : Nat) (a0 : Nat) (x1 : Int32) (x2 : Int32) (x3 : Int32) (S : pq_S) (H : Heap) (locs : List Loc) (ls : Array Slot), PW C X S (pq_F C X S0 s.heap.size) H locs s → Ext S0 S → TY S a0 3 → lv_has ls 5 [(0, .ref a0), (1, .int x1), (2, .int x2), (3, .int x3)] → b_X3_findRests_2 n f a0 x1 x2 x3 S = some S1 → W p l e rm_X3_findRests s m args below meth c H locs 0 0 (MQ below (QcV C X S0 s.heap.size S1) args s 0 0 (pq_F C X S0 s.heap.size)) (F0 m 2 ls []) := by
  obtain ⟨hx, hb, hml, hown, hU, hr, hlk⟩ := id cx
  intro f
  induction f with
  | zero =>
    intro a0 x1 x2 x3 S H locs ls hw hE Ta0 hl hm
    cases hm
  | succ f ih =>
    intro a0 x1 x2 x3 S H locs ls hw hE Ta0 hl hm
    rw [b_X3_findRests_2] at hm
    refine lv_iload_n hx hb dX3_findRests_2 rfl (lv_at hl 3 rfl) ?_
    refine lv_iload_n hx hb dX3_findRests_3 rfl (lv_at hl 2 rfl) ?_
    refine lv_icmp_gt (tgt := 67) hx hb dX3_findRests_4 (by decide) (fun h1 => ?_) (fun h1 => ?_)
    · rw [if_pos h1] at hm
      exact wb_X3_findRests_67 cx C X S0 n S1 a0 x1 x2 S _ _ _ hw hE Ta0 (lv_sub hl [0, 1, 2] rfl) hm
    · rw [if_neg h1] at hm
      refine lv_iload_n hx hb dX3_findRests_7 rfl (lv_at hl 3 rfl) ?_
      refine lv_aload_n hx hb dX3_findRests_8 rfl (lv_at hl 0 rfl) ?_
      obtain ⟨q2, hq2, hm⟩ := bd_some hm
      have Tq2 : TY S q2 14 := hw.wf.ref (k := 3) (j := 3) Ta0 (by decide) (by decide) hq2
      refine pg_rb (k := 3) (j := 3) (f := 303) hx hb hown hU iu3 hw Ta0 (by decide) rfl (hU _ tw242) rfl hq2 dX3_findRests_9 ?_
      refine pw_alenI (v := (Int32.ofNat (pN S q2))) hx hb hw Tq2 rfl dX3_findRests_12 ?_
      refine lv_icmp_ge (tgt := 67) hx hb dX3_findRests_13 (by decide) (fun h3 => ?_) (fun h3 => ?_)
      · rw [if_pos h3] at hm
        exact wb_X3_findRests_67 cx C X S0 n S1 a0 x1 x2 S _ _ _ hw hE Ta0 (lv_sub hl [0, 1, 2] rfl) hm
      · rw [if_neg h3] at hm
        refine lv_aload_n hx hb dX3_findRests_16 rfl (lv_at hl 0 rfl) ?_
        obtain ⟨q4, hq4, hm⟩ := bd_some hm
        have Tq4 : TY S q4 14 := hw.wf.ref (k := 3) (j := 3) Ta0 (by decide) (by decide) hq4
        refine pg_rb (k := 3) (j := 3) (f := 303) hx hb hown hU iu3 hw Ta0 (by decide) rfl (hU _ tw242) rfl hq4 dX3_findRests_17 ?_
        refine lv_iload_n hx hb dX3_findRests_20 rfl (lv_at hl 3 rfl) ?_
        refine lv_iconst (v := 0) hx hb dX3_findRests_21 (by decide) ?_
        obtain ⟨hi5, hm⟩ := ck_some hm
        refine pw_iast hx hb hw Tq4 hi5 dX3_findRests_22 (fun H locs hw => ?_)
        refine lv_iconst (v := 0) hx hb dX3_findRests_23 (by decide) ?_
        refine lv_istore (lv' := [(4, .int 0), (0, .ref a0), (1, .int x1), (2, .int x2), (3, .int x3)]) hx hb dX3_findRests_24 hl (by decide) rfl (fun ls hl => ?_)
        exact wb_X3_findRests_26 cx C X S0 n S1 _ ih n a0 x1 x2 x3 0 (sA S q4 (Int32.toNatClampNeg x3) 0) _ _ _ hw hE Ta0 (lv_sub hl [1, 2, 3, 4, 0] rfl) hm
def m_X3_findRests (n : Nat) (a0 : Nat) (x1 : Int32) (x2 : Int32) (S0 : pq_S) : Option pq_S := b_X3_findRests_2 n n a0 x1 x2 0 S0
theorem tc_X3_findRests : Cond.code yX3_findRests cX3_findRests 5 none ∈ pq_U := tw1333
theorem cd_X3_findRests : yX3_findRests.cls = RX3 ∧ yX3_findRests.cls ≠ "java/lang/invoke/MethodHandle" ∧ yX3_findRests.cls ≠ "java/lang/invoke/VarHandle" ∧ (parseMethodDescriptor yX3_findRests.desc).map (fun d => d.parameters.length) = some 2 := by decide +kernel
set_option maxHeartbeats 4000000 in
set_option maxRecDepth 100000 in
theorem c_X3_findRests (l : Launch) (C : pq_C) (X : va_W) (n : Nat) (S0 : pq_S) (hF : WF S0) (sz : Nat) (a0 : Nat) (x1 : Int32) (x2 : Int32) (Ta0 : TY S0 a0 3) (S1 : pq_S) (hm : m_X3_findRests n a0 x1 x2 S0 = some S1) : MV l yX3_findRests (.code yX3_findRests cX3_findRests 5 none :: pq_U) rm_X3_findRests C X S0 sz [.ref a0, .int x1, .int x2] S1 0 0 := by
  refine Met.ofW (cc := cX3_findRests) (maxL := 5) (ret := none) (by decide) rfl ?_
  intro p e s m args below meth c s₁ B hml hv
  obtain ⟨rfl, hv⟩ := hv
  have hsz := hv.1
  subst hsz
  have hw := pw_entry hF hv
  have hts := atoms_spec (ws := .code yX3_findRests cX3_findRests 5 none :: pq_U) B.pre
  have hU : ∀ w ∈ pq_U, w.before _ s = true := fun w h => hts w (List.mem_cons_of_mem _ h)
  have hx := B.exec
  have hb := B.bytes
  have hr := B.returns
  have hown : s.vm.findClass RX3 = some m.cls := findClass_of_methodNamed B.named
  have hlk := B.notSynchronized
  have hl := lv_entry ([.ref a0, .int x1, .int x2]) (n := 5) (Nat.le_of_ble_eq_true rfl)
  rw [lg_entry_eq]
  generalize (lg_sl ([.ref a0, .int x1, .int x2]) ++ List.replicate (5 - (lg_sl ([.ref a0, .int x1, .int x2])).length) Slot.unset).toArray = ls at hl ⊢
  have hl : lv_has ls 5 [(0, .ref a0), (1, .int x1), (2, .int x2)] := hl
  have hE : Ext S0 S0 := Ext.rf _
  have cx : Cx p s m _ meth c cX3_findRests 5 RX3 none := ⟨hx, hb, hml, hown, hU, hr, hlk⟩
  rw [m_X3_findRests] at hm
  refine lv_iconst (v := 0) hx hb dX3_findRests_0 (by decide) ?_
  refine lv_istore_n (lv' := [(3, .int 0), (0, .ref a0), (1, .int x1), (2, .int x2)]) hx hb dX3_findRests_1 rfl hl (by decide) rfl (fun ls hl => ?_)
  exact wb_X3_findRests_2 cx C X S0 n S1 n a0 x1 x2 0 S0 _ _ _ hw hE Ta0 (lv_sub hl [1, 2, 3, 0] rfl) hm
