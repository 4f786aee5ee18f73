abbrev rm_X7_isMineOpen : Room := { frames := 1, cells := 0, slots := 0, locals := 23 }
def m_X7_isMineOpen (n : Nat) (a0 : Nat) (x1 : Int32) (x2 : Int32) (S0 : pq_S) : Option (Int32 × pq_S) := Option.bind (pR S0 700 a0) fun q1 => Option.bind (pR S0 102 q1) fun q2 => cb (m_X9_at n q2 x1 2 S0) fun r5 S_3 => if (x2 - x2 / 12 * 12) < r5 then some (0, S_3) else some (1, S_3)
theorem tc_X7_isMineOpen : Cond.code yX7_isMineOpen cX7_isMineOpen 3 (some .boolean) ∈ pq_U := tw924
theorem cd_X7_isMineOpen : yX7_isMineOpen.cls = RX7 ∧ yX7_isMineOpen.cls ≠ "java/lang/invoke/MethodHandle" ∧ yX7_isMineOpen.cls ≠ "java/lang/invoke/VarHandle" ∧ (parseMethodDescriptor yX7_isMineOpen.desc).map (fun d => d.parameters.length) = some 2 := by decide +kernel
set_option maxHeartbeats 4000000 in
set_option maxRecDepth 100000 in
theorem c_X7_isMineOpen (l : Launch) (C : pq_C) (X : va_W) (n : Nat) (S0 : pq_S) (hF : WF S0) (sz : Nat) (a0 : Nat) (x1 : Int32) (x2 : Int32) (Ta0 : TY S0 a0 7) (r : Int32) (S1 : pq_S) (hm : m_X7_isMineOpen n a0 x1 x2 S0 = some (r, S1)) : MZ l yX7_isMineOpen (.code yX7_isMineOpen cX7_isMineOpen 3 (some .boolean) :: pq_U) rm_X7_isMineOpen C X S0 sz [.ref a0, .int x1, .int x2] r S1 0 0 := by
  refine Met.ofW (cc := cX7_isMineOpen) (maxL := 3) (ret := (some .boolean)) (by decide) rfl ?_
  intro p e s m args below meth c s₁ B hml hv
  obtain ⟨rfl, hv⟩ := hv
  have hsz := hv.1
  subst hsz
  have hw := pw_entry hF hv
  have hts := atoms_spec (ws := .code yX7_isMineOpen cX7_isMineOpen 3 (some .boolean) :: pq_U) B.pre
  have hU : ∀ w ∈ pq_U, w.before _ s = true := fun w h => hts w (List.mem_cons_of_mem _ h)
  have hx := B.exec
  have hb := B.bytes
  have hr := B.returns
  have hown : s.vm.findClass RX7 = some m.cls := findClass_of_methodNamed B.named
  have hlk := B.notSynchronized
  have hl := lv_entry ([.ref a0, .int x1, .int x2]) (n := 3) (Nat.le_of_ble_eq_true rfl)
  rw [lg_entry_eq]
  generalize (lg_sl ([.ref a0, .int x1, .int x2]) ++ List.replicate (3 - (lg_sl ([.ref a0, .int x1, .int x2])).length) Slot.unset).toArray = ls at hl ⊢
  have hl : lv_has ls 3 [(0, .ref a0), (1, .int x1), (2, .int x2)] := hl
  have hE : Ext S0 S0 := Ext.rf _
  have cx : Cx p s m _ meth c cX7_isMineOpen 3 RX7 (some .boolean) := ⟨hx, hb, hml, hown, hU, hr, hlk⟩
  rw [m_X7_isMineOpen] at hm
  refine lv_iload_n hx hb dX7_isMineOpen_0 rfl (lv_at hl 2 rfl) ?_
  refine lv_bipush (v := 12) hx hb dX7_isMineOpen_1 (by decide) ?_
  refine lv_irem hx hb dX7_isMineOpen_3 (by decide) ?_
  refine lv_aload_n hx hb dX7_isMineOpen_4 rfl (lv_at hl 0 rfl) ?_
  obtain ⟨q1, hq1, hm⟩ := bd_some hm
  have Tq1 : TY S0 q1 1 := hw.wf.ref (k := 7) (j := 0) Ta0 (by decide) (by decide) hq1
  refine pg_rb (k := 7) (j := 0) (f := 700) hx hb hown hU iu7 hw Ta0 (by decide) rfl (hU _ tw205) rfl hq1 dX7_isMineOpen_5 ?_
  obtain ⟨q2, hq2, hm⟩ := bd_some hm
  have Tq2 : TY S0 q2 9 := hw.wf.ref (k := 1) (j := 2) Tq1 (by decide) (by decide) hq2
  refine pgN_rb (k := 1) (j := 2) (f := 102) hx hb hown hU iu1 hw Tq1 (by decide) rfl 35 rfl rfl hq2 dX7_isMineOpen_8 ?_
  refine lv_iload_n hx hb dX7_isMineOpen_11 rfl (lv_at hl 1 rfl) ?_
  refine lv_iconst (v := 2) hx hb dX7_isMineOpen_12 (by decide) ?_
  obtain ⟨r5, S_3, hq4, hm⟩ := cb_some hm
  refine pw_ci (va_runVN (As := [.int x1, .int 2]) (rest := [.int (x2 - x2 / 12 * 12)]) ⟨hx, hb, hml, hown, hU⟩ (c_X9_at l C X n S0 hw.wf _ q2 x1 2 (Tq2) r5 S_3 hq4) ⟨va_cnB (host := "WickNights") 2 hU (pq_g1 tc_X9_at) rfl rfl rfl (hw.nw 135 rfl) (hU _ tw5) cd_X9_at.2 ⟨Nat.le_of_ble_eq_true rfl, Nat.le_of_ble_eq_true rfl⟩, hU _ tw719, hU _ ts32⟩ (pw_preV hw Tq2 (by decide) rfl) rfl rfl hl.1 rfl (lv_room (Nat.le_of_ble_eq_true rfl)) dX7_isMineOpen_13 ⟨Nat.zero_le _, Nat.zero_le _⟩) hw (fun H locs hw hx6 => ?_)
  have Ta0 : TY S_3 a0 7 := ty_ext hx6 Ta0
  have hE : Ext S0 S_3 := Ext.tr hE hx6
  refine lv_icmp_lt (tgt := 23) hx hb dX7_isMineOpen_16 (by decide) (fun h7 => ?_) (fun h7 => ?_)
  · rw [if_pos h7] at hm
    refine lv_iconst (v := 0) hx hb dX7_isMineOpen_23 (by decide) ?_
    cases hm
    exact pw_zret hx hb hr bz_0 hlk hw hE dX7_isMineOpen_24
  · rw [if_neg h7] at hm
    refine lv_iconst (v := 1) hx hb dX7_isMineOpen_19 (by decide) ?_
    refine lv_goto (tgt := 24) hx hb dX7_isMineOpen_20 (by decide) ?_
    cases hm
    exact pw_zret hx hb hr bz_1 hlk hw hE dX7_isMineOpen_24
abbrev rm_X7_isOpenAt : Room := { frames := 1, cells := 0, slots := 0, locals := 23 }
def m_X7_isOpenAt (n : Nat) (a0 : Nat) (x1 : Int32) (x2 : Int32) (S0 : pq_S) : Option (Int32 × pq_S) := Option.bind (pR S0 701 a0) fun q1 => Option.bind (pR S0 801 q1) fun q2 => cb (m_X9_at n q2 x1 0 S0) fun r5 S_3 => if r5 = 1 then Option.bind (pR S_3 700 a0) fun q8 => Option.bind (pR S_3 101 q8) fun q9 => cb (m_X9_at n q9 x1 0 S_3) fun r12 S_10 => if r12 = x2 then some (1, S_10) else some (0, S_10) else some (0, S_3)
theorem tc_X7_isOpenAt : Cond.code yX7_isOpenAt cX7_isOpenAt 3 (some .boolean) ∈ pq_U := tw1031
theorem cd_X7_isOpenAt : yX7_isOpenAt.cls = RX7 ∧ yX7_isOpenAt.cls ≠ "java/lang/invoke/MethodHandle" ∧ yX7_isOpenAt.cls ≠ "java/lang/invoke/VarHandle" ∧ (parseMethodDescriptor yX7_isOpenAt.desc).map (fun d => d.parameters.length) = some 2 := by decide +kernel
set_option maxHeartbeats 4000000 in
set_option maxRecDepth 100000 in
theorem c_X7_isOpenAt (l : Launch) (C : pq_C) (X : va_W) (n : Nat) (S0 : pq_S) (hF : WF S0) (sz : Nat) (a0 : Nat) (x1 : Int32) (x2 : Int32) (Ta0 : TY S0 a0 7) (r : Int32) (S1 : pq_S) (hm : m_X7_isOpenAt n a0 x1 x2 S0 = some (r, S1)) : MZ l yX7_isOpenAt (.code yX7_isOpenAt cX7_isOpenAt 3 (some .boolean) :: pq_U) rm_X7_isOpenAt C X S0 sz [.ref a0, .int x1, .int x2] r S1 0 0 := by
  refine Met.ofW (cc := cX7_isOpenAt) (maxL := 3) (ret := (some .boolean)) (by decide) rfl ?_
  intro p e s m args below meth c s₁ B hml hv
  obtain ⟨rfl, hv⟩ := hv
  have hsz := hv.1
  subst hsz
  have hw := pw_entry hF hv
  have hts := atoms_spec (ws := .code yX7_isOpenAt cX7_isOpenAt 3 (some .boolean) :: pq_U) B.pre
  have hU : ∀ w ∈ pq_U, w.before _ s = true := fun w h => hts w (List.mem_cons_of_mem _ h)
  have hx := B.exec
  have hb := B.bytes
  have hr := B.returns
  have hown : s.vm.findClass RX7 = some m.cls := findClass_of_methodNamed B.named
  have hlk := B.notSynchronized
  have hl := lv_entry ([.ref a0, .int x1, .int x2]) (n := 3) (Nat.le_of_ble_eq_true rfl)
  rw [lg_entry_eq]
  generalize (lg_sl ([.ref a0, .int x1, .int x2]) ++ List.replicate (3 - (lg_sl ([.ref a0, .int x1, .int x2])).length) Slot.unset).toArray = ls at hl ⊢
  have hl : lv_has ls 3 [(0, .ref a0), (1, .int x1), (2, .int x2)] := hl
  have hE : Ext S0 S0 := Ext.rf _
  have cx : Cx p s m _ meth c cX7_isOpenAt 3 RX7 (some .boolean) := ⟨hx, hb, hml, hown, hU, hr, hlk⟩
  rw [m_X7_isOpenAt] at hm
  refine lv_aload_n hx hb dX7_isOpenAt_0 rfl (lv_at hl 0 rfl) ?_
  obtain ⟨q1, hq1, hm⟩ := bd_some hm
  have Tq1 : TY S0 q1 8 := hw.wf.ref (k := 7) (j := 1) Ta0 (by decide) (by decide) hq1
  refine pg_rb (k := 7) (j := 1) (f := 701) hx hb hown hU iu7 hw Ta0 (by decide) rfl (hU _ tw209) rfl hq1 dX7_isOpenAt_1 ?_
  obtain ⟨q2, hq2, hm⟩ := bd_some hm
  have Tq2 : TY S0 q2 9 := hw.wf.ref (k := 8) (j := 1) Tq1 (by decide) (by decide) hq2
  refine pgN_rb (k := 8) (j := 1) (f := 801) hx hb hown hU iu8 hw Tq1 (by decide) rfl 45 rfl rfl hq2 dX7_isOpenAt_4 ?_
  refine lv_iload_n hx hb dX7_isOpenAt_7 rfl (lv_at hl 1 rfl) ?_
  refine lv_iconst (v := 0) hx hb dX7_isOpenAt_8 (by decide) ?_
  obtain ⟨r5, S_3, hq4, hm⟩ := cb_some hm
  refine pw_ci (va_runVN (As := [.int x1, .int 0]) (rest := []) ⟨hx, hb, hml, hown, hU⟩ (c_X9_at l C X n S0 hw.wf _ q2 x1 0 (Tq2) r5 S_3 hq4) ⟨va_cnB (host := "WickNights") 2 hU (pq_g1 tc_X9_at) rfl rfl rfl (hw.nw 135 rfl) (hU _ tw5) cd_X9_at.2 ⟨Nat.le_of_ble_eq_true rfl, Nat.le_of_ble_eq_true rfl⟩, hU _ tw719, hU _ ts32⟩ (pw_preV hw Tq2 (by decide) rfl) rfl rfl hl.1 rfl (lv_room (Nat.le_of_ble_eq_true rfl)) dX7_isOpenAt_9 ⟨Nat.zero_le _, Nat.zero_le _⟩) hw (fun H locs hw hx6 => ?_)
  have Ta0 : TY S_3 a0 7 := ty_ext hx6 Ta0
  have hE : Ext S0 S_3 := Ext.tr hE hx6
  refine lv_iconst (v := 1) hx hb dX7_isOpenAt_12 (by decide) ?_
  refine lv_icmp_ne (tgt := 36) hx hb dX7_isOpenAt_13 (by decide) (fun h7 => ?_) (fun h7 => ?_)
  · rw [if_neg h7] at hm
    refine lv_iconst (v := 0) hx hb dX7_isOpenAt_36 (by decide) ?_
    cases hm
    exact pw_zret hx hb hr bz_0 hlk hw hE dX7_isOpenAt_37
  · rw [if_pos h7] at hm
    refine lv_aload_n hx hb dX7_isOpenAt_16 rfl (lv_at hl 0 rfl) ?_
    obtain ⟨q8, hq8, hm⟩ := bd_some hm
    have Tq8 : TY S_3 q8 1 := hw.wf.ref (k := 7) (j := 0) Ta0 (by decide) (by decide) hq8
    refine pg_rb (k := 7) (j := 0) (f := 700) hx hb hown hU iu7 hw Ta0 (by decide) rfl (hU _ tw205) rfl hq8 dX7_isOpenAt_17 ?_
    obtain ⟨q9, hq9, hm⟩ := bd_some hm
    have Tq9 : TY S_3 q9 9 := hw.wf.ref (k := 1) (j := 1) Tq8 (by decide) (by decide) hq9
    refine pgN_rb (k := 1) (j := 1) (f := 101) hx hb hown hU iu1 hw Tq8 (by decide) rfl 31 rfl rfl hq9 dX7_isOpenAt_20 ?_
    refine lv_iload_n hx hb dX7_isOpenAt_23 rfl (lv_at hl 1 rfl) ?_
    refine lv_iconst (v := 0) hx hb dX7_isOpenAt_24 (by decide) ?_
    obtain ⟨r12, S_10, hq11, hm⟩ := cb_some hm
    refine pw_ci (va_runVN (As := [.int x1, .int 0]) (rest := []) ⟨hx, hb, hml, hown, hU⟩ (c_X9_at l C X n S_3 hw.wf _ q9 x1 0 (Tq9) r12 S_10 hq11) ⟨va_cnB (host := "WickNights") 2 hU (pq_g1 tc_X9_at) rfl rfl rfl (hw.nw 135 rfl) (hU _ tw5) cd_X9_at.2 ⟨Nat.le_of_ble_eq_true rfl, Nat.le_of_ble_eq_true rfl⟩, hU _ tw719, hU _ ts32⟩ (pw_preV hw Tq9 (by decide) rfl) rfl rfl hl.1 rfl (lv_room (Nat.le_of_ble_eq_true rfl)) dX7_isOpenAt_25 ⟨Nat.zero_le _, Nat.zero_le _⟩) hw (fun H locs hw hx13 => ?_)
    have Ta0 : TY S_10 a0 7 := ty_ext hx13 Ta0
    have hE : Ext S0 S_10 := Ext.tr hE hx13
    refine lv_iload_n hx hb dX7_isOpenAt_28 rfl (lv_at hl 2 rfl) ?_
    refine lv_icmp_ne (tgt := 36) hx hb dX7_isOpenAt_29 (by decide) (fun h14 => ?_) (fun h14 => ?_)
    · rw [if_neg h14] at hm
      refine lv_iconst (v := 0) hx hb dX7_isOpenAt_36 (by decide) ?_
      cases hm
      exact pw_zret hx hb hr bz_0 hlk hw hE dX7_isOpenAt_37
    · rw [if_pos h14] at hm
      refine lv_iconst (v := 1) hx hb dX7_isOpenAt_32 (by decide) ?_
      refine lv_goto (tgt := 37) hx hb dX7_isOpenAt_33 (by decide) ?_
      cases hm
      exact pw_zret hx hb hr bz_1 hlk hw hE dX7_isOpenAt_37
abbrev rm_X7_hoursAt : Room := { frames := 1, cells := 0, slots := 0, locals := 23 }
def m_X7_hoursAt (n : Nat) (a0 : Nat) (x1 : Int32) (S0 : pq_S) : Option (Int32 × pq_S) := Option.bind (pR S0 701 a0) fun q1 => Option.bind (pR S0 800 q1) fun q2 => cb (m_X9_at n q2 x1 0 S0) fun r5 S_3 => Option.bind (pR S_3 701 a0) fun q7 => Option.bind (pR S_3 800 q7) fun q8 => cb (m_X9_at n q8 x1 1 S_3) fun r11 S_9 => some ((r5 + r11), S_9)
theorem tc_X7_hoursAt : Cond.code yX7_hoursAt cX7_hoursAt 2 (some .int) ∈ pq_U := tw911
theorem cd_X7_hoursAt : yX7_hoursAt.cls = RX7 ∧ yX7_hoursAt.cls ≠ "java/lang/invoke/MethodHandle" ∧ yX7_hoursAt.cls ≠ "java/lang/invoke/VarHandle" ∧ (parseMethodDescriptor yX7_hoursAt.desc).map (fun d => d.parameters.length) = some 1 := by decide +kernel
set_option maxHeartbeats 4000000 in
set_option maxRecDepth 100000 in
theorem c_X7_hoursAt (l : Launch) (C : pq_C) (X : va_W) (n : Nat) (S0 : pq_S) (hF : WF S0) (sz : Nat) (a0 : Nat) (x1 : Int32) (Ta0 : TY S0 a0 7) (r : Int32) (S1 : pq_S) (hm : m_X7_hoursAt n a0 x1 S0 = some (r, S1)) : MI l yX7_hoursAt (.code yX7_hoursAt cX7_hoursAt 2 (some .int) :: pq_U) rm_X7_hoursAt C X S0 sz [.ref a0, .int x1] r S1 0 0 := by
  refine Met.ofW (cc := cX7_hoursAt) (maxL := 2) (ret := (some .int)) (by decide) rfl ?_
  intro p e s m args below meth c s₁ B hml hv
  obtain ⟨rfl, hv⟩ := hv
  have hsz := hv.1
  subst hsz
  have hw := pw_entry hF hv
  have hts := atoms_spec (ws := .code yX7_hoursAt cX7_hoursAt 2 (some .int) :: pq_U) B.pre
  have hU : ∀ w ∈ pq_U, w.before _ s = true := fun w h => hts w (List.mem_cons_of_mem _ h)
  have hx := B.exec
  have hb := B.bytes
  have hr := B.returns
  have hown : s.vm.findClass RX7 = some m.cls := findClass_of_methodNamed B.named
  have hlk := B.notSynchronized
  have hl := lv_entry ([.ref a0, .int x1]) (n := 2) (Nat.le_of_ble_eq_true rfl)
  rw [lg_entry_eq]
  generalize (lg_sl ([.ref a0, .int x1]) ++ List.replicate (2 - (lg_sl ([.ref a0, .int x1])).length) Slot.unset).toArray = ls at hl ⊢
  have hl : lv_has ls 2 [(0, .ref a0), (1, .int x1)] := hl
  have hE : Ext S0 S0 := Ext.rf _
  have cx : Cx p s m _ meth c cX7_hoursAt 2 RX7 (some .int) := ⟨hx, hb, hml, hown, hU, hr, hlk⟩
  rw [m_X7_hoursAt] at hm
  refine lv_aload_n hx hb dX7_hoursAt_0 rfl (lv_at hl 0 rfl) ?_
  obtain ⟨q1, hq1, hm⟩ := bd_some hm
  have Tq1 : TY S0 q1 8 := hw.wf.ref (k := 7) (j := 1) Ta0 (by decide) (by decide) hq1
  refine pg_rb (k := 7) (j := 1) (f := 701) hx hb hown hU iu7 hw Ta0 (by decide) rfl (hU _ tw209) rfl hq1 dX7_hoursAt_1 ?_
  obtain ⟨q2, hq2, hm⟩ := bd_some hm
  have Tq2 : TY S0 q2 9 := hw.wf.ref (k := 8) (j := 0) Tq1 (by decide) (by decide) hq2
  refine pgN_rb (k := 8) (j := 0) (f := 800) hx hb hown hU iu8 hw Tq1 (by decide) rfl 43 rfl rfl hq2 dX7_hoursAt_4 ?_
  refine lv_iload_n hx hb dX7_hoursAt_7 rfl (lv_at hl 1 rfl) ?_
  refine lv_iconst (v := 0) hx hb dX7_hoursAt_8 (by decide) ?_
  obtain ⟨r5, S_3, hq4, hm⟩ := cb_some hm
  refine pw_ci (va_runVN (As := [.int x1, .int 0]) (rest := []) ⟨hx, hb, hml, hown, hU⟩ (c_X9_at l C X n S0 hw.wf _ q2 x1 0 (Tq2) r5 S_3 hq4) ⟨va_cnB (host := "WickNights") 2 hU (pq_g1 tc_X9_at) rfl rfl rfl (hw.nw 135 rfl) (hU _ tw5) cd_X9_at.2 ⟨Nat.le_of_ble_eq_true rfl, Nat.le_of_ble_eq_true rfl⟩, hU _ tw719, hU _ ts32⟩ (pw_preV hw Tq2 (by decide) rfl) rfl rfl hl.1 rfl (lv_room (Nat.le_of_ble_eq_true rfl)) dX7_hoursAt_9 ⟨Nat.zero_le _, Nat.zero_le _⟩) hw (fun H locs hw hx6 => ?_)
  have Ta0 : TY S_3 a0 7 := ty_ext hx6 Ta0
  have hE : Ext S0 S_3 := Ext.tr hE hx6
  refine lv_aload_n hx hb dX7_hoursAt_12 rfl (lv_at hl 0 rfl) ?_
  obtain ⟨q7, hq7, hm⟩ := bd_some hm
  have Tq7 : TY S_3 q7 8 := hw.wf.ref (k := 7) (j := 1) Ta0 (by decide) (by decide) hq7
  refine pg_rb (k := 7) (j := 1) (f := 701) hx hb hown hU iu7 hw Ta0 (by decide) rfl (hU _ tw209) rfl hq7 dX7_hoursAt_13 ?_
  obtain ⟨q8, hq8, hm⟩ := bd_some hm
  have Tq8 : TY S_3 q8 9 := hw.wf.ref (k := 8) (j := 0) Tq7 (by decide) (by decide) hq8
  refine pgN_rb (k := 8) (j := 0) (f := 800) hx hb hown hU iu8 hw Tq7 (by decide) rfl 43 rfl rfl hq8 dX7_hoursAt_16 ?_
  refine lv_iload_n hx hb dX7_hoursAt_19 rfl (lv_at hl 1 rfl) ?_
  refine lv_iconst (v := 1) hx hb dX7_hoursAt_20 (by decide) ?_
  obtain ⟨r11, S_9, hq10, hm⟩ := cb_some hm
  refine pw_ci (va_runVN (As := [.int x1, .int 1]) (rest := [.int r5]) ⟨hx, hb, hml, hown, hU⟩ (c_X9_at l C X n S_3 hw.wf _ q8 x1 1 (Tq8) r11 S_9 hq10) ⟨va_cnB (host := "WickNights") 2 hU (pq_g1 tc_X9_at) rfl rfl rfl (hw.nw 135 rfl) (hU _ tw5) cd_X9_at.2 ⟨Nat.le_of_ble_eq_true rfl, Nat.le_of_ble_eq_true rfl⟩, hU _ tw719, hU _ ts32⟩ (pw_preV hw Tq8 (by decide) rfl) rfl rfl hl.1 rfl (lv_room (Nat.le_of_ble_eq_true rfl)) dX7_hoursAt_21 ⟨Nat.zero_le _, Nat.zero_le _⟩) hw (fun H locs hw hx12 => ?_)
  have Ta0 : TY S_9 a0 7 := ty_ext hx12 Ta0
  have hE : Ext S0 S_9 := Ext.tr hE hx12
  refine lv_iadd hx hb dX7_hoursAt_24 ?_
  cases hm
  exact pw_iret hx hb hr rfl hlk hw hE dX7_hoursAt_25
abbrev rm_X7_hoursWanted : Room := { frames := 2, cells := 0, slots := 0, locals := 45 }
def b_X7_hoursWanted_63 (n : Nat) (k4 : Nat → Int32 → Int32 → Int32 → Int32 → pq_S → Option (Int32 × pq_S)) (a0 : Nat) (x1 : Int32) (x2 : Int32) (x3 : Int32) (x4 : Int32) (S : pq_S) : Option (Int32 × pq_S) := k4 a0 x1 x2 x3 (x4 + 1) S
set_option maxHeartbeats 4000000 in
set_option maxRecDepth 100000 in
theorem wb_X7_hoursWanted_63 {p : Program} {l : Launch} {e : Env} {s : State} {m : MethodId} {args : Array Value} {below : List Frame} {meth : Method} {c : Code} (cx : Cx p s m args meth c cX7_hoursWanted 5 RX7 (some .int)) (C : pq_C) (X : va_W) (S0 : pq_S) (n : Nat) (r : Int32) (S1 : pq_S) (k4 : Nat → Int32 → Int32 → Int32 → Int32 → pq_S → Option (Int32 × pq_S)) (hk4 : ∀ (a0 : Nat) (x1 : Int32) (x2 : Int32) (x3 : Int32) (x4 : Int32) (S : pq_S) (H : Heap) (locs : List Loc) (ls : Array Slot), PW C X S (pq_F C X S0 s.heap.size) H locs s → Ext S0 S → TY S a0 7 → lv_has ls 5 [(0, .ref a0), (1, .int x1), (2, .int x2), (3, .int x3), (4, .int x4)] → k4 a0 x1 x2 x3 x4 S = some (r, S1) → W p l e rm_X7_hoursWanted s m args below meth c H locs 0 0 (MQ below (QcI C X S0 s.heap.size r S1) args s 0 0 (pq_F C X S0 s.heap.size)) (F0 m 5 ls [])) : ∀ (a0 : Nat) (x1 : Int32) (x2 : Int32) (x3 : Int32) (x4 : Int32) (S : pq_S) (H : Heap) (locs : List Loc) (ls : Array Slot), PW C X S (pq_F C X S0 s.heap.size) H locs s → Ext S0 S → TY S a0 7 → lv_has ls 5 [(0, .ref a0), (1, .int x1), (2, .int x2), (3, .int x3), (4, .int x4)] → b_X7_hoursWanted_63 n k4 a0 x1 x2 x3 x4 S = some (r, S1) → W p l e rm_X7_hoursWanted s m args below meth c H locs 0 0 (MQ below (QcI C X S0 s.heap.size r S1) args s 0 0 (pq_F C X S0 s.heap.size)) (F0 m 63 ls []) := by
  obtain ⟨hx, hb, hml, hown, hU, hr, hlk⟩ := id cx
  intro a0 x1 x2 x3 x4 S H locs ls hw hE Ta0 hl hm
  rw [b_X7_hoursWanted_63] at hm
  refine lv_iinc (v := (x4 + 1)) (lv' := [(4, .int (x4 + 1)), (0, .ref a0), (1, .int x1), (2, .int x2), (3, .int x3)]) hx hb dX7_hoursWanted_63 hl (k := 4) rfl rfl (by decide) rfl (fun ls hl => ?_)
  refine lv_goto (tgt := 5) hx hb dX7_hoursWanted_66 (by decide) ?_
  exact hk4 a0 x1 x2 x3 (x4 + 1) S _ _ _ hw hE Ta0 (lv_sub hl [1, 2, 3, 4, 0] rfl) hm
def b_X7_hoursWanted_5 (n : Nat) : Nat → Nat → Int32 → Int32 → Int32 → Int32 → pq_S → Option (Int32 × pq_S)
  | 0, _, _, _, _, _, _ => none
  | f + 1, a0, x1, x2, x3, x4, S => Option.bind (pR S 700 a0) fun q1 => Option.bind (pR S 101 q1) fun q2 => if (pI S 902 q2) ≤ x4 then some (x3, S) else cb (m_X7_isOpenAt n a0 x4 x1 S) fun r6 S_4 => if r6 = 0 then b_X7_hoursWanted_63 n (b_X7_hoursWanted_5 n f) a0 x1 x2 x3 x4 S_4 else Option.bind (pR S_4 700 a0) fun q10 => Option.bind (pR S_4 101 q10) fun q11 => cb (m_X9_at n q11 x4 3 S_4) fun r14 S_12 => if r14 < x2 then b_X7_hoursWanted_63 n (b_X7_hoursWanted_5 n f) a0 x1 x2 x3 x4 S_12 else Option.bind (pR S_12 700 a0) fun q17 => Option.bind (pR S_12 101 q17) fun q18 => cb (m_X9_at n q18 x4 1 S_12) fun r21 S_19 => b_X7_hoursWanted_63 n (b_X7_hoursWanted_5 n f) a0 x1 x2 (x3 + r21) x4 S_19
set_option maxHeartbeats 4000000 in
set_option maxRecDepth 100000 in
theorem wb_X7_hoursWanted_5 {p : Program} {l : Launch} {e : Env} {s : State} {m : MethodId} {args : Array Value} {below : List Frame} {meth : Method} {c : Code} (cx : Cx p s m args meth c cX7_hoursWanted 5 RX7 (some .int)) (C : pq_C) (X : va_W) (S0 : pq_S) (n : Nat) (r : Int32) (S1 : pq_S) : ∀ (f : Nat) (a0 : Nat) (x1 : Int32) (x2 : Int32) (x3 : Int32) (x4 : Int32) (S : pq_S) (H : Heap) (locs : List Loc) (ls : Array Slot), PW C X S (pq_F C X S0 s.heap.size) H locs s → Ext S0 S → TY S a0 7 → lv_has ls 5 [(0, .ref a0), (1, .int x1), (2, .int x2), (3, .int x3), (4, .int x4)] → b_X7_hoursWanted_5 n f a0 x1 x2 x3 x4 S = some (r, S1) → W p l e rm_X7_hoursWanted s m args below meth c H locs 0 0 (MQ below (QcI C X S0 s.heap.size r S1) args s 0 0 (pq_F C X S0 s.heap.size)) (F0 m 5 ls []) := by
  obtain ⟨hx, hb, hml, hown, hU, hr, hlk⟩ := id cx
  intro f
  induction f with
  | zero =>
    intro a0 x1 x2 x3 x4 S H locs ls hw hE Ta0 hl hm
    cases hm
  | succ f ih =>
    intro a0 x1 x2 x3 x4 S H locs ls hw hE Ta0 hl hm
    rw [b_X7_hoursWanted_5] at hm
    refine lv_iload hx hb dX7_hoursWanted_5 (lv_at hl 4 rfl) ?_
    refine lv_aload_n hx hb dX7_hoursWanted_7 rfl (lv_at hl 0 rfl) ?_
    obtain ⟨q1, hq1, hm⟩ := bd_some hm
    have Tq1 : TY S q1 1 := hw.wf.ref (k := 7) (j := 0) Ta0 (by decide) (by decide) hq1
    refine pg_rb (k := 7) (j := 0) (f := 700) hx hb hown hU iu7 hw Ta0 (by decide) rfl (hU _ tw205) rfl hq1 dX7_hoursWanted_8 ?_
    obtain ⟨q2, hq2, hm⟩ := bd_some hm
    have Tq2 : TY S q2 9 := hw.wf.ref (k := 1) (j := 1) Tq1 (by decide) (by decide) hq2
    refine pgN_rb (k := 1) (j := 1) (f := 101) hx hb hown hU iu1 hw Tq1 (by decide) rfl 31 rfl rfl hq2 dX7_hoursWanted_11 ?_
    refine pgN_i (k := 9) (j := 2) (f := 902) hx hb hown hU iu9 hw Tq2 (by decide) rfl 20 rfl rfl dX7_hoursWanted_14 ?_
    refine lv_icmp_ge (tgt := 69) hx hb dX7_hoursWanted_17 (by decide) (fun h3 => ?_) (fun h3 => ?_)
    · rw [if_pos h3] at hm
      refine lv_iload_n hx hb dX7_hoursWanted_69 rfl (lv_at hl 3 rfl) ?_
      cases hm
      exact pw_iret hx hb hr rfl hlk hw hE dX7_hoursWanted_70
    · rw [if_neg h3] at hm
      refine lv_aload_n hx hb dX7_hoursWanted_20 rfl (lv_at hl 0 rfl) ?_
      refine lv_iload hx hb dX7_hoursWanted_21 (lv_at hl 4 rfl) ?_
      refine lv_iload_n hx hb dX7_hoursWanted_23 rfl (lv_at hl 1 rfl) ?_
      obtain ⟨r6, S_4, hq5, hm⟩ := cb_some hm
      refine pw_cz (va_runV (As := [.int x4, .int x1]) (rest := []) ⟨hx, hb, hml, hown, hU⟩ (c_X7_isOpenAt l C X n S hw.wf _ a0 x4 x1 (Ta0) r6 S_4 hq5) (cwV 2 hU (pq_gV tw1028 tw1030 ts80 tw3 tc_X7_isOpenAt) rfl rfl rfl cd_X7_isOpenAt ⟨Nat.le_of_ble_eq_true rfl, Nat.le_of_ble_eq_true rfl⟩) (pw_preV hw Ta0 (by decide) rfl) rfl rfl hl.1 rfl (lv_room (Nat.le_of_ble_eq_true rfl)) dX7_hoursWanted_24 ⟨Nat.zero_le _, Nat.zero_le _⟩) hw (fun H locs hw hx7 hz8 => ?_)
      have Ta0 : TY S_4 a0 7 := ty_ext hx7 Ta0
      have hE : Ext S0 S_4 := Ext.tr hE hx7
      refine lv_if_eq (tgt := 63) hx hb dX7_hoursWanted_27 (by decide) (fun h9 => ?_) (fun h9 => ?_)
      · rw [if_pos h9] at hm
        exact wb_X7_hoursWanted_63 cx C X S0 n r S1 _ ih a0 x1 x2 x3 x4 S_4 _ _ _ hw hE Ta0 (lv_sub hl [0, 1, 2, 3, 4] rfl) hm
      · rw [if_neg h9] at hm
        refine lv_aload_n hx hb dX7_hoursWanted_30 rfl (lv_at hl 0 rfl) ?_
        obtain ⟨q10, hq10, hm⟩ := bd_some hm
        have Tq10 : TY S_4 q10 1 := hw.wf.ref (k := 7) (j := 0) Ta0 (by decide) (by decide) hq10
        refine pg_rb (k := 7) (j := 0) (f := 700) hx hb hown hU iu7 hw Ta0 (by decide) rfl (hU _ tw205) rfl hq10 dX7_hoursWanted_31 ?_
        obtain ⟨q11, hq11, hm⟩ := bd_some hm
        have Tq11 : TY S_4 q11 9 := hw.wf.ref (k := 1) (j := 1) Tq10 (by decide) (by decide) hq11
        refine pgN_rb (k := 1) (j := 1) (f := 101) hx hb hown hU iu1 hw Tq10 (by decide) rfl 31 rfl rfl hq11 dX7_hoursWanted_34 ?_
        refine lv_iload hx hb dX7_hoursWanted_37 (lv_at hl 4 rfl) ?_
        refine lv_iconst (v := 3) hx hb dX7_hoursWanted_39 (by decide) ?_
        obtain ⟨r14, S_12, hq13, hm⟩ := cb_some hm
        refine pw_ci (va_runVN (As := [.int x4, .int 3]) (rest := []) ⟨hx, hb, hml, hown, hU⟩ (c_X9_at l C X n S_4 hw.wf _ q11 x4 3 (Tq11) r14 S_12 hq13) ⟨va_cnB (host := "WickNights") 2 hU (pq_g1 tc_X9_at) rfl rfl rfl (hw.nw 135 rfl) (hU _ tw5) cd_X9_at.2 ⟨Nat.le_of_ble_eq_true rfl, Nat.le_of_ble_eq_true rfl⟩, hU _ tw719, hU _ ts32⟩ (pw_preV hw Tq11 (by decide) rfl) rfl rfl hl.1 rfl (lv_room (Nat.le_of_ble_eq_true rfl)) dX7_hoursWanted_40 ⟨Nat.zero_le _, Nat.zero_le _⟩) hw (fun H locs hw hx15 => ?_)
        have Ta0 : TY S_12 a0 7 := ty_ext hx15 Ta0
        have hE : Ext S0 S_12 := Ext.tr hE hx15
        refine lv_iload_n hx hb dX7_hoursWanted_43 rfl (lv_at hl 2 rfl) ?_
        refine lv_icmp_lt (tgt := 63) hx hb dX7_hoursWanted_44 (by decide) (fun h16 => ?_) (fun h16 => ?_)
        · rw [if_pos h16] at hm
          exact wb_X7_hoursWanted_63 cx C X S0 n r S1 _ ih a0 x1 x2 x3 x4 S_12 _ _ _ hw hE Ta0 (lv_sub hl [0, 1, 2, 3, 4] rfl) hm
        · rw [if_neg h16] at hm
          refine lv_iload_n hx hb dX7_hoursWanted_47 rfl (lv_at hl 3 rfl) ?_
          refine lv_aload_n hx hb dX7_hoursWanted_48 rfl (lv_at hl 0 rfl) ?_
          obtain ⟨q17, hq17, hm⟩ := bd_some hm
          have Tq17 : TY S_12 q17 1 := hw.wf.ref (k := 7) (j := 0) Ta0 (by decide) (by decide) hq17
          refine pg_rb (k := 7) (j := 0) (f := 700) hx hb hown hU iu7 hw Ta0 (by decide) rfl (hU _ tw205) rfl hq17 dX7_hoursWanted_49 ?_
          obtain ⟨q18, hq18, hm⟩ := bd_some hm
          have Tq18 : TY S_12 q18 9 := hw.wf.ref (k := 1) (j := 1) Tq17 (by decide) (by decide) hq18
          refine pgN_rb (k := 1) (j := 1) (f := 101) hx hb hown hU iu1 hw Tq17 (by decide) rfl 31 rfl rfl hq18 dX7_hoursWanted_52 ?_
          refine lv_iload hx hb dX7_hoursWanted_55 (lv_at hl 4 rfl) ?_
          refine lv_iconst (v := 1) hx hb dX7_hoursWanted_57 (by decide) ?_
          obtain ⟨r21, S_19, hq20, hm⟩ := cb_some hm
          refine pw_ci (va_runVN (As := [.int x4, .int 1]) (rest := [.int x3]) ⟨hx, hb, hml, hown, hU⟩ (c_X9_at l C X n S_12 hw.wf _ q18 x4 1 (Tq18) r21 S_19 hq20) ⟨va_cnB (host := "WickNights") 2 hU (pq_g1 tc_X9_at) rfl rfl rfl (hw.nw 135 rfl) (hU _ tw5) cd_X9_at.2 ⟨Nat.le_of_ble_eq_true rfl, Nat.le_of_ble_eq_true rfl⟩, hU _ tw719, hU _ ts32⟩ (pw_preV hw Tq18 (by decide) rfl) rfl rfl hl.1 rfl (lv_room (Nat.le_of_ble_eq_true rfl)) dX7_hoursWanted_58 ⟨Nat.zero_le _, Nat.zero_le _⟩) hw (fun H locs hw hx22 => ?_)
          have Ta0 : TY S_19 a0 7 := ty_ext hx22 Ta0
          have hE : Ext S0 S_19 := Ext.tr hE hx22
          refine lv_iadd hx hb dX7_hoursWanted_61 ?_
          refine lv_istore_n (lv' := [(3, .int (x3 + r21)), (0, .ref a0), (1, .int x1), (2, .int x2), (4, .int x4)]) hx hb dX7_hoursWanted_62 rfl hl (by decide) rfl (fun ls hl => ?_)
          exact wb_X7_hoursWanted_63 cx C X S0 n r S1 _ ih a0 x1 x2 (x3 + r21) x4 S_19 _ _ _ hw hE Ta0 (lv_sub hl [1, 2, 3, 0, 4] rfl) hm
def m_X7_hoursWanted (n : Nat) (a0 : Nat) (x1 : Int32) (x2 : Int32) (S0 : pq_S) : Option (Int32 × pq_S) := b_X7_hoursWanted_5 n n a0 x1 x2 0 0 S0
theorem tc_X7_hoursWanted : Cond.code yX7_hoursWanted cX7_hoursWanted 5 (some .int) ∈ pq_U := tw1027
theorem cd_X7_hoursWanted : yX7_hoursWanted.cls = RX7 ∧ yX7_hoursWanted.cls ≠ "java/lang/invoke/MethodHandle" ∧ yX7_hoursWanted.cls ≠ "java/lang/invoke/VarHandle" ∧ (parseMethodDescriptor yX7_hoursWanted.desc).map (fun d => d.parameters.length) = some 2 := by decide +kernel
set_option maxHeartbeats 4000000 in
set_option maxRecDepth 100000 in
theorem c_X7_hoursWanted (l : Launch) (C : pq_C) (X : va_W) (n : Nat) (S0 : pq_S) (hF : WF S0) (sz : Nat) (a0 : Nat) (x1 : Int32) (x2 : Int32) (Ta0 : TY S0 a0 7) (r : Int32) (S1 : pq_S) (hm : m_X7_hoursWanted n a0 x1 x2 S0 = some (r, S1)) : MI l yX7_hoursWanted (.code yX7_hoursWanted cX7_hoursWanted 5 (some .int) :: pq_U) rm_X7_hoursWanted C X S0 sz [.ref a0, .int x1, .int x2] r S1 0 0 := by
  refine Met.ofW (cc := cX7_hoursWanted) (maxL := 5) (ret := (some .int)) (by decide) rfl ?_
  intro p e s m args below meth c s₁ B hml hv
  obtain ⟨rfl, hv⟩ := hv
  have hsz := hv.1
  subst hsz
  have hw := pw_entry hF hv
  have hts := atoms_spec (ws := .code yX7_hoursWanted cX7_hoursWanted 5 (some .int) :: pq_U) B.pre
  have hU : ∀ w ∈ pq_U, w.before _ s = true := fun w h => hts w (List.mem_cons_of_mem _ h)
  have hx := B.exec
  have hb := B.bytes
  have hr := B.returns
  have hown : s.vm.findClass RX7 = some m.cls := findClass_of_methodNamed B.named
  have hlk := B.notSynchronized
  have hl := lv_entry ([.ref a0, .int x1, .int x2]) (n := 5) (Nat.le_of_ble_eq_true rfl)
  rw [lg_entry_eq]
  generalize (lg_sl ([.ref a0, .int x1, .int x2]) ++ List.replicate (5 - (lg_sl ([.ref a0, .int x1, .int x2])).length) Slot.unset).toArray = ls at hl ⊢
  have hl : lv_has ls 5 [(0, .ref a0), (1, .int x1), (2, .int x2)] := hl
  have hE : Ext S0 S0 := Ext.rf _
  have cx : Cx p s m _ meth c cX7_hoursWanted 5 RX7 (some .int) := ⟨hx, hb, hml, hown, hU, hr, hlk⟩
  rw [m_X7_hoursWanted] at hm
  refine lv_iconst (v := 0) hx hb dX7_hoursWanted_0 (by decide) ?_
  refine lv_istore_n (lv' := [(3, .int 0), (0, .ref a0), (1, .int x1), (2, .int x2)]) hx hb dX7_hoursWanted_1 rfl hl (by decide) rfl (fun ls hl => ?_)
  refine lv_iconst (v := 0) hx hb dX7_hoursWanted_2 (by decide) ?_
  refine lv_istore (lv' := [(4, .int 0), (3, .int 0), (0, .ref a0), (1, .int x1), (2, .int x2)]) hx hb dX7_hoursWanted_3 hl (by decide) rfl (fun ls hl => ?_)
  exact wb_X7_hoursWanted_5 cx C X S0 n r S1 n a0 x1 x2 0 0 S0 _ _ _ hw hE Ta0 (lv_sub hl [2, 3, 4, 1, 0] rfl) hm
abbrev rm_X7_isSaleable : Room := { frames := 2, cells := 0, slots := 0, locals := 44 }
def b_X7_isSaleable_49 (n : Nat) (a0 : Nat) (x1 : Int32) (z0 : Int32) (S : pq_S) : Option (Int32 × pq_S) := Option.bind (pR S 701 a0) fun q24 => Option.bind (pR S 801 q24) fun q25 => cb (m_X9_at n q25 x1 0 S) fun r28 S_26 => if r28 = 1 then Option.bind (pR S_26 700 a0) fun q31 => Option.bind (pR S_26 101 q31) fun q32 => cb (m_X9_at n q32 x1 1 S_26) fun r35 S_33 => if z0 < r35 then some (0, S_33) else some (1, S_33) else some (0, S_26)
set_option maxHeartbeats 4000000 in
set_option maxRecDepth 100000 in
theorem wb_X7_isSaleable_49 {p : Program} {l : Launch} {e : Env} {s : State} {m : MethodId} {args : Array Value} {below : List Frame} {meth : Method} {c : Code} (cx : Cx p s m args meth c cX7_isSaleable 4 RX7 (some .boolean)) (C : pq_C) (X : va_W) (S0 : pq_S) (n : Nat) (r : Int32) (S1 : pq_S) : ∀ (a0 : Nat) (x1 : Int32) (z0 : Int32) (S : pq_S) (H : Heap) (locs : List Loc) (ls : Array Slot), PW C X S (pq_F C X S0 s.heap.size) H locs s → Ext S0 S → TY S a0 7 → lv_has ls 4 [(0, .ref a0), (1, .int x1)] → b_X7_isSaleable_49 n a0 x1 z0 S = some (r, S1) → W p l e rm_X7_isSaleable s m args below meth c H locs 0 0 (MQ below (QcZ C X S0 s.heap.size r S1) args s 0 0 (pq_F C X S0 s.heap.size)) (F0 m 49 ls [.int z0]) := by
  obtain ⟨hx, hb, hml, hown, hU, hr, hlk⟩ := id cx
  intro a0 x1 z0 S H locs ls hw hE Ta0 hl hm
  rw [b_X7_isSaleable_49] at hm
  refine lv_istore_n (lv' := [(3, .int z0), (0, .ref a0), (1, .int x1)]) hx hb dX7_isSaleable_49 rfl hl (by decide) rfl (fun ls hl => ?_)
  refine lv_aload_n hx hb dX7_isSaleable_50 rfl (lv_at hl 1 rfl) ?_
  obtain ⟨q24, hq24, hm⟩ := bd_some hm
  have Tq24 : TY S q24 8 := hw.wf.ref (k := 7) (j := 1) Ta0 (by decide) (by decide) hq24
  refine pg_rb (k := 7) (j := 1) (f := 701) hx hb hown hU iu7 hw Ta0 (by decide) rfl (hU _ tw209) rfl hq24 dX7_isSaleable_51 ?_
  obtain ⟨q25, hq25, hm⟩ := bd_some hm
  have Tq25 : TY S q25 9 := hw.wf.ref (k := 8) (j := 1) Tq24 (by decide) (by decide) hq25
  refine pgN_rb (k := 8) (j := 1) (f := 801) hx hb hown hU iu8 hw Tq24 (by decide) rfl 45 rfl rfl hq25 dX7_isSaleable_54 ?_
  refine lv_iload_n hx hb dX7_isSaleable_57 rfl (lv_at hl 2 rfl) ?_
  refine lv_iconst (v := 0) hx hb dX7_isSaleable_58 (by decide) ?_
  obtain ⟨r28, S_26, hq27, hm⟩ := cb_some hm
  refine pw_ci (va_runVN (As := [.int x1, .int 0]) (rest := []) ⟨hx, hb, hml, hown, hU⟩ (c_X9_at l C X n S hw.wf _ q25 x1 0 (Tq25) r28 S_26 hq27) ⟨va_cnB (host := "WickNights") 2 hU (pq_g1 tc_X9_at) rfl rfl rfl (hw.nw 135 rfl) (hU _ tw5) cd_X9_at.2 ⟨Nat.le_of_ble_eq_true rfl, Nat.le_of_ble_eq_true rfl⟩, hU _ tw719, hU _ ts32⟩ (pw_preV hw Tq25 (by decide) rfl) rfl rfl hl.1 rfl (lv_room (Nat.le_of_ble_eq_true rfl)) dX7_isSaleable_59 ⟨Nat.zero_le _, Nat.zero_le _⟩) hw (fun H locs hw hx29 => ?_)
  have Ta0 : TY S_26 a0 7 := ty_ext hx29 Ta0
  have hE : Ext S0 S_26 := Ext.tr hE hx29
  refine lv_iconst (v := 1) hx hb dX7_isSaleable_62 (by decide) ?_
  refine lv_icmp_ne (tgt := 86) hx hb dX7_isSaleable_63 (by decide) (fun h30 => ?_) (fun h30 => ?_)
  · rw [if_neg h30] at hm
    refine lv_iconst (v := 0) hx hb dX7_isSaleable_86 (by decide) ?_
    cases hm
    exact pw_zret hx hb hr bz_0 hlk hw hE dX7_isSaleable_87
  · rw [if_pos h30] at hm
    refine lv_aload_n hx hb dX7_isSaleable_66 rfl (lv_at hl 1 rfl) ?_
    obtain ⟨q31, hq31, hm⟩ := bd_some hm
    have Tq31 : TY S_26 q31 1 := hw.wf.ref (k := 7) (j := 0) Ta0 (by decide) (by decide) hq31
    refine pg_rb (k := 7) (j := 0) (f := 700) hx hb hown hU iu7 hw Ta0 (by decide) rfl (hU _ tw205) rfl hq31 dX7_isSaleable_67 ?_
    obtain ⟨q32, hq32, hm⟩ := bd_some hm
    have Tq32 : TY S_26 q32 9 := hw.wf.ref (k := 1) (j := 1) Tq31 (by decide) (by decide) hq32
    refine pgN_rb (k := 1) (j := 1) (f := 101) hx hb hown hU iu1 hw Tq31 (by decide) rfl 31 rfl rfl hq32 dX7_isSaleable_70 ?_
    refine lv_iload_n hx hb dX7_isSaleable_73 rfl (lv_at hl 2 rfl) ?_
    refine lv_iconst (v := 1) hx hb dX7_isSaleable_74 (by decide) ?_
    obtain ⟨r35, S_33, hq34, hm⟩ := cb_some hm
    refine pw_ci (va_runVN (As := [.int x1, .int 1]) (rest := []) ⟨hx, hb, hml, hown, hU⟩ (c_X9_at l C X n S_26 hw.wf _ q32 x1 1 (Tq32) r35 S_33 hq34) ⟨va_cnB (host := "WickNights") 2 hU (pq_g1 tc_X9_at) rfl rfl rfl (hw.nw 135 rfl) (hU _ tw5) cd_X9_at.2 ⟨Nat.le_of_ble_eq_true rfl, Nat.le_of_ble_eq_true rfl⟩, hU _ tw719, hU _ ts32⟩ (pw_preV hw Tq32 (by decide) rfl) rfl rfl hl.1 rfl (lv_room (Nat.le_of_ble_eq_true rfl)) dX7_isSaleable_75 ⟨Nat.zero_le _, Nat.zero_le _⟩) hw (fun H locs hw hx36 => ?_)
    have Ta0 : TY S_33 a0 7 := ty_ext hx36 Ta0
    have hE : Ext S0 S_33 := Ext.tr hE hx36
    refine lv_iload_n hx hb dX7_isSaleable_78 rfl (lv_at hl 0 rfl) ?_
    refine lv_icmp_gt (tgt := 86) hx hb dX7_isSaleable_79 (by decide) (fun h37 => ?_) (fun h37 => ?_)
    · rw [if_pos h37] at hm
      refine lv_iconst (v := 0) hx hb dX7_isSaleable_86 (by decide) ?_
      cases hm
      exact pw_zret hx hb hr bz_0 hlk hw hE dX7_isSaleable_87
    · rw [if_neg h37] at hm
      refine lv_iconst (v := 1) hx hb dX7_isSaleable_82 (by decide) ?_
      refine lv_goto (tgt := 87) hx hb dX7_isSaleable_83 (by decide) ?_
      cases hm
      exact pw_zret hx hb hr bz_1 hlk hw hE dX7_isSaleable_87
def m_X7_isSaleable (n : Nat) (a0 : Nat) (x1 : Int32) (S0 : pq_S) : Option (Int32 × pq_S) := Option.bind (pR S0 700 a0) fun q1 => Option.bind (pR S0 101 q1) fun q2 => cb (m_X9_at n q2 x1 0 S0) fun r5 S_3 => Option.bind (pR S_3 700 a0) fun q7 => Option.bind (pR S_3 101 q7) fun q8 => cb (m_X9_at n q8 x1 2 S_3) fun r11 S_9 => if r11 = 1 then Option.bind (pR S_9 701 a0) fun q18 => Option.bind (pR S_9 800 q18) fun q19 => cb (m_X9_at n q19 r5 0 S_9) fun r22 S_20 => b_X7_isSaleable_49 n a0 x1 r22 S_20 else cb (m_X7_hoursAt n a0 r5 S_9) fun r16 S_14 => b_X7_isSaleable_49 n a0 x1 r16 S_14
theorem tc_X7_isSaleable : Cond.code yX7_isSaleable cX7_isSaleable 4 (some .boolean) ∈ pq_U := tw907
theorem cd_X7_isSaleable : yX7_isSaleable.cls = RX7 ∧ yX7_isSaleable.cls ≠ "java/lang/invoke/MethodHandle" ∧ yX7_isSaleable.cls ≠ "java/lang/invoke/VarHandle" ∧ (parseMethodDescriptor yX7_isSaleable.desc).map (fun d => d.parameters.length) = some 1 := by decide +kernel
set_option maxHeartbeats 4000000 in
set_option maxRecDepth 100000 in
theorem c_X7_isSaleable (l : Launch) (C : pq_C) (X : va_W) (n : Nat) (S0 : pq_S) (hF : WF S0) (sz : Nat) (a0 : Nat) (x1 : Int32) (Ta0 : TY S0 a0 7) (r : Int32) (S1 : pq_S) (hm : m_X7_isSaleable n a0 x1 S0 = some (r, S1)) : MZ l yX7_isSaleable (.code yX7_isSaleable cX7_isSaleable 4 (some .boolean) :: pq_U) rm_X7_isSaleable C X S0 sz [.ref a0, .int x1] r S1 0 0 := by
  refine Met.ofW (cc := cX7_isSaleable) (maxL := 4) (ret := (some .boolean)) (by decide) rfl ?_
  intro p e s m args below meth c s₁ B hml hv
  obtain ⟨rfl, hv⟩ := hv
  have hsz := hv.1
  subst hsz
  have hw := pw_entry hF hv
  have hts := atoms_spec (ws := .code yX7_isSaleable cX7_isSaleable 4 (some .boolean) :: pq_U) B.pre
  have hU : ∀ w ∈ pq_U, w.before _ s = true := fun w h => hts w (List.mem_cons_of_mem _ h)
  have hx := B.exec
  have hb := B.bytes
  have hr := B.returns
  have hown : s.vm.findClass RX7 = some m.cls := findClass_of_methodNamed B.named
  have hlk := B.notSynchronized
  have hl := lv_entry ([.ref a0, .int x1]) (n := 4) (Nat.le_of_ble_eq_true rfl)
  rw [lg_entry_eq]
  generalize (lg_sl ([.ref a0, .int x1]) ++ List.replicate (4 - (lg_sl ([.ref a0, .int x1])).length) Slot.unset).toArray = ls at hl ⊢
  have hl : lv_has ls 4 [(0, .ref a0), (1, .int x1)] := hl
  have hE : Ext S0 S0 := Ext.rf _
  have cx : Cx p s m _ meth c cX7_isSaleable 4 RX7 (some .boolean) := ⟨hx, hb, hml, hown, hU, hr, hlk⟩
  rw [m_X7_isSaleable] at hm
  refine lv_aload_n hx hb dX7_isSaleable_0 rfl (lv_at hl 0 rfl) ?_
  obtain ⟨q1, hq1, hm⟩ := bd_some hm
  have Tq1 : TY S0 q1 1 := hw.wf.ref (k := 7) (j := 0) Ta0 (by decide) (by decide) hq1
  refine pg_rb (k := 7) (j := 0) (f := 700) hx hb hown hU iu7 hw Ta0 (by decide) rfl (hU _ tw205) rfl hq1 dX7_isSaleable_1 ?_
  obtain ⟨q2, hq2, hm⟩ := bd_some hm
  have Tq2 : TY S0 q2 9 := hw.wf.ref (k := 1) (j := 1) Tq1 (by decide) (by decide) hq2
  refine pgN_rb (k := 1) (j := 1) (f := 101) hx hb hown hU iu1 hw Tq1 (by decide) rfl 31 rfl rfl hq2 dX7_isSaleable_4 ?_
  refine lv_iload_n hx hb dX7_isSaleable_7 rfl (lv_at hl 1 rfl) ?_
  refine lv_iconst (v := 0) hx hb dX7_isSaleable_8 (by decide) ?_
  obtain ⟨r5, S_3, hq4, hm⟩ := cb_some hm
  refine pw_ci (va_runVN (As := [.int x1, .int 0]) (rest := []) ⟨hx, hb, hml, hown, hU⟩ (c_X9_at l C X n S0 hw.wf _ q2 x1 0 (Tq2) r5 S_3 hq4) ⟨va_cnB (host := "WickNights") 2 hU (pq_g1 tc_X9_at) rfl rfl rfl (hw.nw 135 rfl) (hU _ tw5) cd_X9_at.2 ⟨Nat.le_of_ble_eq_true rfl, Nat.le_of_ble_eq_true rfl⟩, hU _ tw719, hU _ ts32⟩ (pw_preV hw Tq2 (by decide) rfl) rfl rfl hl.1 rfl (lv_room (Nat.le_of_ble_eq_true rfl)) dX7_isSaleable_9 ⟨Nat.zero_le _, Nat.zero_le _⟩) hw (fun H locs hw hx6 => ?_)
  have Ta0 : TY S_3 a0 7 := ty_ext hx6 Ta0
  have hE : Ext S0 S_3 := Ext.tr hE hx6
  refine lv_istore_n (lv' := [(2, .int r5), (0, .ref a0), (1, .int x1)]) hx hb dX7_isSaleable_12 rfl hl (by decide) rfl (fun ls hl => ?_)
  refine lv_aload_n hx hb dX7_isSaleable_13 rfl (lv_at hl 1 rfl) ?_
  obtain ⟨q7, hq7, hm⟩ := bd_some hm
  have Tq7 : TY S_3 q7 1 := hw.wf.ref (k := 7) (j := 0) Ta0 (by decide) (by decide) hq7
  refine pg_rb (k := 7) (j := 0) (f := 700) hx hb hown hU iu7 hw Ta0 (by decide) rfl (hU _ tw205) rfl hq7 dX7_isSaleable_14 ?_
  obtain ⟨q8, hq8, hm⟩ := bd_some hm
  have Tq8 : TY S_3 q8 9 := hw.wf.ref (k := 1) (j := 1) Tq7 (by decide) (by decide) hq8
  refine pgN_rb (k := 1) (j := 1) (f := 101) hx hb hown hU iu1 hw Tq7 (by decide) rfl 31 rfl rfl hq8 dX7_isSaleable_17 ?_
  refine lv_iload_n hx hb dX7_isSaleable_20 rfl (lv_at hl 2 rfl) ?_
  refine lv_iconst (v := 2) hx hb dX7_isSaleable_21 (by decide) ?_
  obtain ⟨r11, S_9, hq10, hm⟩ := cb_some hm
  refine pw_ci (va_runVN (As := [.int x1, .int 2]) (rest := []) ⟨hx, hb, hml, hown, hU⟩ (c_X9_at l C X n S_3 hw.wf _ q8 x1 2 (Tq8) r11 S_9 hq10) ⟨va_cnB (host := "WickNights") 2 hU (pq_g1 tc_X9_at) rfl rfl rfl (hw.nw 135 rfl) (hU _ tw5) cd_X9_at.2 ⟨Nat.le_of_ble_eq_true rfl, Nat.le_of_ble_eq_true rfl⟩, hU _ tw719, hU _ ts32⟩ (pw_preV hw Tq8 (by decide) rfl) rfl rfl hl.1 rfl (lv_room (Nat.le_of_ble_eq_true rfl)) dX7_isSaleable_22 ⟨Nat.zero_le _, Nat.zero_le _⟩) hw (fun H locs hw hx12 => ?_)
  have Ta0 : TY S_9 a0 7 := ty_ext hx12 Ta0
  have hE : Ext S0 S_9 := Ext.tr hE hx12
  refine lv_iconst (v := 1) hx hb dX7_isSaleable_25 (by decide) ?_
  refine lv_icmp_ne (tgt := 44) hx hb dX7_isSaleable_26 (by decide) (fun h13 => ?_) (fun h13 => ?_)
  · rw [if_neg h13] at hm
    refine lv_aload_n hx hb dX7_isSaleable_44 rfl (lv_at hl 1 rfl) ?_
    refine lv_iload_n hx hb dX7_isSaleable_45 rfl (lv_at hl 0 rfl) ?_
    obtain ⟨r16, S_14, hq15, hm⟩ := cb_some hm
    refine pw_ci (va_runV (As := [.int r5]) (rest := []) ⟨hx, hb, hml, hown, hU⟩ (c_X7_hoursAt l C X n S_9 hw.wf _ a0 r5 (Ta0) r16 S_14 hq15) (cwV 1 hU (pq_gV tw908 tw910 ts62 tw3 tc_X7_hoursAt) rfl rfl rfl cd_X7_hoursAt ⟨Nat.le_of_ble_eq_true rfl, Nat.le_of_ble_eq_true rfl⟩) (pw_preV hw Ta0 (by decide) rfl) rfl rfl hl.1 rfl (lv_room (Nat.le_of_ble_eq_true rfl)) dX7_isSaleable_46 ⟨Nat.zero_le _, Nat.zero_le _⟩) hw (fun H locs hw hx17 => ?_)
    have Ta0 : TY S_14 a0 7 := ty_ext hx17 Ta0
    have hE : Ext S0 S_14 := Ext.tr hE hx17
    exact wb_X7_isSaleable_49 cx C X S0 n r S1 a0 x1 r16 S_14 _ _ _ hw hE Ta0 (lv_sub hl [1, 2] rfl) hm
  · rw [if_pos h13] at hm
    refine lv_aload_n hx hb dX7_isSaleable_29 rfl (lv_at hl 1 rfl) ?_
    obtain ⟨q18, hq18, hm⟩ := bd_some hm
    have Tq18 : TY S_9 q18 8 := hw.wf.ref (k := 7) (j := 1) Ta0 (by decide) (by decide) hq18
    refine pg_rb (k := 7) (j := 1) (f := 701) hx hb hown hU iu7 hw Ta0 (by decide) rfl (hU _ tw209) rfl hq18 dX7_isSaleable_30 ?_
    obtain ⟨q19, hq19, hm⟩ := bd_some hm
    have Tq19 : TY S_9 q19 9 := hw.wf.ref (k := 8) (j := 0) Tq18 (by decide) (by decide) hq19
    refine pgN_rb (k := 8) (j := 0) (f := 800) hx hb hown hU iu8 hw Tq18 (by decide) rfl 43 rfl rfl hq19 dX7_isSaleable_33 ?_
    refine lv_iload_n hx hb dX7_isSaleable_36 rfl (lv_at hl 0 rfl) ?_
    refine lv_iconst (v := 0) hx hb dX7_isSaleable_37 (by decide) ?_
    obtain ⟨r22, S_20, hq21, hm⟩ := cb_some hm
    refine pw_ci (va_runVN (As := [.int r5, .int 0]) (rest := []) ⟨hx, hb, hml, hown, hU⟩ (c_X9_at l C X n S_9 hw.wf _ q19 r5 0 (Tq19) r22 S_20 hq21) ⟨va_cnB (host := "WickNights") 2 hU (pq_g1 tc_X9_at) rfl rfl rfl (hw.nw 135 rfl) (hU _ tw5) cd_X9_at.2 ⟨Nat.le_of_ble_eq_true rfl, Nat.le_of_ble_eq_true rfl⟩, hU _ tw719, hU _ ts32⟩ (pw_preV hw Tq19 (by decide) rfl) rfl rfl hl.1 rfl (lv_room (Nat.le_of_ble_eq_true rfl)) dX7_isSaleable_38 ⟨Nat.zero_le _, Nat.zero_le _⟩) hw (fun H locs hw hx23 => ?_)
    have Ta0 : TY S_20 a0 7 := ty_ext hx23 Ta0
    have hE : Ext S0 S_20 := Ext.tr hE hx23
    refine lv_goto (tgt := 49) hx hb dX7_isSaleable_41 (by decide) ?_
    exact wb_X7_isSaleable_49 cx C X S0 n r S1 a0 x1 r22 S_20 _ _ _ hw hE Ta0 (lv_sub hl [1, 2] rfl) hm
abbrev rm_X7_sellWant : Room := { frames := 3, cells := 0, slots := 0, locals := 67 }
def b_X7_sellWant_72 (n : Nat) (a0 : Nat) (x1 : Int32) (x2 : Int32) (x3 : Int32) (z0 : Int32) (S : pq_S) : Option (Int32 × pq_S) := Option.bind (pR S 701 a0) fun q32 => Option.bind (pR S 800 q32) fun q33 => Option.bind (m_X9_add n q33 x2 1 (-z0) S) fun S_34 => Option.bind (pR S_34 701 a0) fun q37 => Option.bind (pR S_34 800 q37) fun q38 => Option.bind (m_X9_add n q38 x2 0 (z0 - x3) S_34) fun S_39 => Option.bind (pR S_39 701 a0) fun q42 => Option.bind (pR S_39 700 a0) fun q43 => Option.bind (pR S_39 101 q43) fun q44 => cb (m_X9_at n q44 x1 3 S_39) fun r47 S_45 => Option.bind (pR (sI S_45 804 q42 ((pI S_39 804 q42) + r47)) 701 a0) fun q49 => Option.bind (pR (sI S_45 804 q42 ((pI S_39 804 q42) + r47)) 801 q49) fun q50 => Option.bind (m_X9_put n q50 x1 0 0 (sI S_45 804 q42 ((pI S_39 804 q42) + r47))) fun S_51 => Option.bind (pR S_51 701 a0) fun q54 => Option.bind (pR S_51 801 q54) fun q55 => Option.bind (m_X9_add n q55 x1 1 1 S_51) fun S_56 => some (1, S_56)
set_option maxHeartbeats 4000000 in
set_option maxRecDepth 100000 in
theorem wb_X7_sellWant_72 {p : Program} {l : Launch} {e : Env} {s : State} {m : MethodId} {args : Array Value} {below : List Frame} {meth : Method} {c : Code} (cx : Cx p s m args meth c cX7_sellWant 5 RX7 (some .boolean)) (C : pq_C) (X : va_W) (S0 : pq_S) (n : Nat) (r : Int32) (S1 : pq_S) : ∀ (a0 : Nat) (x1 : Int32) (x2 : Int32) (x3 : Int32) (z0 : Int32) (S : pq_S) (H : Heap) (locs : List Loc) (ls : Array Slot), PW C X S (pq_F C X S0 s.heap.size) H locs s → Ext S0 S → TY S a0 7 → lv_has ls 5 [(0, .ref a0), (1, .int x1), (2, .int x2), (3, .int x3)] → b_X7_sellWant_72 n a0 x1 x2 x3 z0 S = some (r, S1) → W p l e rm_X7_sellWant s m args below meth c H locs 0 0 (MQ below (QcZ C X S0 s.heap.size r S1) args s 0 0 (pq_F C X S0 s.heap.size)) (F0 m 72 ls [.int z0]) := by
  obtain ⟨hx, hb, hml, hown, hU, hr, hlk⟩ := id cx
  intro a0 x1 x2 x3 z0 S H locs ls hw hE Ta0 hl hm
  rw [b_X7_sellWant_72] at hm
  refine lv_istore (lv' := [(4, .int z0), (0, .ref a0), (1, .int x1), (2, .int x2), (3, .int x3)]) hx hb dX7_sellWant_72 hl (by decide) rfl (fun ls hl => ?_)
  refine lv_aload_n hx hb dX7_sellWant_74 rfl (lv_at hl 1 rfl) ?_
  obtain ⟨q32, hq32, hm⟩ := bd_some hm
  have Tq32 : TY S q32 8 := hw.wf.ref (k := 7) (j := 1) Ta0 (by decide) (by decide) hq32
  refine pg_rb (k := 7) (j := 1) (f := 701) hx hb hown hU iu7 hw Ta0 (by decide) rfl (hU _ tw209) rfl hq32 dX7_sellWant_75 ?_
  obtain ⟨q33, hq33, hm⟩ := bd_some hm
  have Tq33 : TY S q33 9 := hw.wf.ref (k := 8) (j := 0) Tq32 (by decide) (by decide) hq33
  refine pgN_rb (k := 8) (j := 0) (f := 800) hx hb hown hU iu8 hw Tq32 (by decide) rfl 43 rfl rfl hq33 dX7_sellWant_78 ?_
  refine lv_iload_n hx hb dX7_sellWant_81 rfl (lv_at hl 3 rfl) ?_
  refine lv_iconst (v := 1) hx hb dX7_sellWant_82 (by decide) ?_
  refine lv_iload hx hb dX7_sellWant_83 (lv_at hl 0 rfl) ?_
  refine lv_ineg hx hb dX7_sellWant_85 ?_
  obtain ⟨S_34, hq35, hm⟩ := bd_some hm
  refine pw_cv (va_runVN (As := [.int x2, .int 1, .int (-z0)]) (rest := []) ⟨hx, hb, hml, hown, hU⟩ (c_X9_add l C X n S hw.wf _ q33 x2 1 (-z0) (Tq33) S_34 hq35) ⟨va_cnB (host := "WickNights") 3 hU (pq_g1 tc_X9_add) rfl rfl rfl (hw.nw 136 rfl) (hU _ tw5) cd_X9_add.2 ⟨Nat.le_of_ble_eq_true rfl, Nat.le_of_ble_eq_true rfl⟩, hU _ tw857, hU _ ts52⟩ (pw_preV hw Tq33 (by decide) rfl) rfl rfl hl.1 rfl (lv_room (Nat.le_of_ble_eq_true rfl)) dX7_sellWant_86 ⟨Nat.zero_le _, Nat.zero_le _⟩) hw (fun H locs hw hx36 => ?_)
  have Ta0 : TY S_34 a0 7 := ty_ext hx36 Ta0
  have hE : Ext S0 S_34 := Ext.tr hE hx36
  refine lv_aload_n hx hb dX7_sellWant_89 rfl (lv_at hl 1 rfl) ?_
  obtain ⟨q37, hq37, hm⟩ := bd_some hm
  have Tq37 : TY S_34 q37 8 := hw.wf.ref (k := 7) (j := 1) Ta0 (by decide) (by decide) hq37
  refine pg_rb (k := 7) (j := 1) (f := 701) hx hb hown hU iu7 hw Ta0 (by decide) rfl (hU _ tw209) rfl hq37 dX7_sellWant_90 ?_
  obtain ⟨q38, hq38, hm⟩ := bd_some hm
  have Tq38 : TY S_34 q38 9 := hw.wf.ref (k := 8) (j := 0) Tq37 (by decide) (by decide) hq38
  refine pgN_rb (k := 8) (j := 0) (f := 800) hx hb hown hU iu8 hw Tq37 (by decide) rfl 43 rfl rfl hq38 dX7_sellWant_93 ?_
  refine lv_iload_n hx hb dX7_sellWant_96 rfl (lv_at hl 3 rfl) ?_
  refine lv_iconst (v := 0) hx hb dX7_sellWant_97 (by decide) ?_
  refine lv_iload hx hb dX7_sellWant_98 (lv_at hl 0 rfl) ?_
  refine lv_iload_n hx hb dX7_sellWant_100 rfl (lv_at hl 4 rfl) ?_
  refine lv_isub hx hb dX7_sellWant_101 ?_
  obtain ⟨S_39, hq40, hm⟩ := bd_some hm
  refine pw_cv (va_runVN (As := [.int x2, .int 0, .int (z0 - x3)]) (rest := []) ⟨hx, hb, hml, hown, hU⟩ (c_X9_add l C X n S_34 hw.wf _ q38 x2 0 (z0 - x3) (Tq38) S_39 hq40) ⟨va_cnB (host := "WickNights") 3 hU (pq_g1 tc_X9_add) rfl rfl rfl (hw.nw 136 rfl) (hU _ tw5) cd_X9_add.2 ⟨Nat.le_of_ble_eq_true rfl, Nat.le_of_ble_eq_true rfl⟩, hU _ tw857, hU _ ts52⟩ (pw_preV hw Tq38 (by decide) rfl) rfl rfl hl.1 rfl (lv_room (Nat.le_of_ble_eq_true rfl)) dX7_sellWant_102 ⟨Nat.zero_le _, Nat.zero_le _⟩) hw (fun H locs hw hx41 => ?_)
  have Ta0 : TY S_39 a0 7 := ty_ext hx41 Ta0
  have hE : Ext S0 S_39 := Ext.tr hE hx41
  refine lv_aload_n hx hb dX7_sellWant_105 rfl (lv_at hl 1 rfl) ?_
  obtain ⟨q42, hq42, hm⟩ := bd_some hm
  have Tq42 : TY S_39 q42 8 := hw.wf.ref (k := 7) (j := 1) Ta0 (by decide) (by decide) hq42
  refine pg_rb (k := 7) (j := 1) (f := 701) hx hb hown hU iu7 hw Ta0 (by decide) rfl (hU _ tw209) rfl hq42 dX7_sellWant_106 ?_
  refine lv_dup hx hb dX7_sellWant_109 rfl ?_
  refine pgN_i (k := 8) (j := 4) (f := 804) hx hb hown hU iu8 hw Tq42 (by decide) rfl 52 rfl rfl dX7_sellWant_110 ?_
  refine lv_aload_n hx hb dX7_sellWant_113 rfl (lv_at hl 1 rfl) ?_
  obtain ⟨q43, hq43, hm⟩ := bd_some hm
  have Tq43 : TY S_39 q43 1 := hw.wf.ref (k := 7) (j := 0) Ta0 (by decide) (by decide) hq43
  refine pg_rb (k := 7) (j := 0) (f := 700) hx hb hown hU iu7 hw Ta0 (by decide) rfl (hU _ tw205) rfl hq43 dX7_sellWant_114 ?_
  obtain ⟨q44, hq44, hm⟩ := bd_some hm
  have Tq44 : TY S_39 q44 9 := hw.wf.ref (k := 1) (j := 1) Tq43 (by decide) (by decide) hq44
  refine pgN_rb (k := 1) (j := 1) (f := 101) hx hb hown hU iu1 hw Tq43 (by decide) rfl 31 rfl rfl hq44 dX7_sellWant_117 ?_
  refine lv_iload_n hx hb dX7_sellWant_120 rfl (lv_at hl 2 rfl) ?_
  refine lv_iconst (v := 3) hx hb dX7_sellWant_121 (by decide) ?_
  obtain ⟨r47, S_45, hq46, hm⟩ := cb_some hm
  refine pw_ci (va_runVN (As := [.int x1, .int 3]) (rest := [.int (pI S_39 804 q42), .ref q42]) ⟨hx, hb, hml, hown, hU⟩ (c_X9_at l C X n S_39 hw.wf _ q44 x1 3 (Tq44) r47 S_45 hq46) ⟨va_cnB (host := "WickNights") 2 hU (pq_g1 tc_X9_at) rfl rfl rfl (hw.nw 135 rfl) (hU _ tw5) cd_X9_at.2 ⟨Nat.le_of_ble_eq_true rfl, Nat.le_of_ble_eq_true rfl⟩, hU _ tw719, hU _ ts32⟩ (pw_preV hw Tq44 (by decide) rfl) rfl rfl hl.1 rfl (lv_room (Nat.le_of_ble_eq_true rfl)) dX7_sellWant_122 ⟨Nat.zero_le _, Nat.zero_le _⟩) hw (fun H locs hw hx48 => ?_)
  have Tq42 : TY S_45 q42 8 := ty_ext hx48 Tq42
  have Ta0 : TY S_45 a0 7 := ty_ext hx48 Ta0
  have hE : Ext S0 S_45 := Ext.tr hE hx48
  refine lv_iadd hx hb dX7_sellWant_125 ?_
  refine ppN_i (k := 8) (j := 4) (f := 804) hx hb hown hU iu8 tyX8_ok nmX8 hw Tq42 (by decide) rfl 52 rfl rfl rfl rfl dX7_sellWant_126 (fun H locs hw => ?_)
  refine lv_aload_n hx hb dX7_sellWant_129 rfl (lv_at hl 1 rfl) ?_
  obtain ⟨q49, hq49, hm⟩ := bd_some hm
  have Tq49 : TY (sI S_45 804 q42 ((pI S_39 804 q42) + r47)) q49 8 := hw.wf.ref (k := 7) (j := 1) Ta0 (by decide) (by decide) hq49
  refine pg_rb (k := 7) (j := 1) (f := 701) hx hb hown hU iu7 hw Ta0 (by decide) rfl (hU _ tw209) rfl hq49 dX7_sellWant_130 ?_
  obtain ⟨q50, hq50, hm⟩ := bd_some hm
  have Tq50 : TY (sI S_45 804 q42 ((pI S_39 804 q42) + r47)) q50 9 := hw.wf.ref (k := 8) (j := 1) Tq49 (by decide) (by decide) hq50
  refine pgN_rb (k := 8) (j := 1) (f := 801) hx hb hown hU iu8 hw Tq49 (by decide) rfl 45 rfl rfl hq50 dX7_sellWant_133 ?_
  refine lv_iload_n hx hb dX7_sellWant_136 rfl (lv_at hl 2 rfl) ?_
  refine lv_iconst (v := 0) hx hb dX7_sellWant_137 (by decide) ?_
  refine lv_iconst (v := 0) hx hb dX7_sellWant_138 (by decide) ?_
  obtain ⟨S_51, hq52, hm⟩ := bd_some hm
  refine pw_cv (va_runVN (As := [.int x1, .int 0, .int 0]) (rest := []) ⟨hx, hb, hml, hown, hU⟩ (c_X9_put l C X n (sI S_45 804 q42 ((pI S_39 804 q42) + r47)) hw.wf _ q50 x1 0 0 (Tq50) S_51 hq52) ⟨va_cnB (host := "WickNights") 3 hU (pq_g1 tc_X9_put) rfl rfl rfl (hw.nw 143 rfl) (hU _ tw5) cd_X9_put.2 ⟨Nat.le_of_ble_eq_true rfl, Nat.le_of_ble_eq_true rfl⟩, hU _ tw673, hU _ ts23⟩ (pw_preV hw Tq50 (by decide) rfl) rfl rfl hl.1 rfl (lv_room (Nat.le_of_ble_eq_true rfl)) dX7_sellWant_139 ⟨Nat.zero_le _, Nat.zero_le _⟩) hw (fun H locs hw hx53 => ?_)
  have Ta0 : TY S_51 a0 7 := ty_ext hx53 Ta0
  have hE : Ext S0 S_51 := Ext.tr hE hx53
  refine lv_aload_n hx hb dX7_sellWant_142 rfl (lv_at hl 1 rfl) ?_
  obtain ⟨q54, hq54, hm⟩ := bd_some hm
  have Tq54 : TY S_51 q54 8 := hw.wf.ref (k := 7) (j := 1) Ta0 (by decide) (by decide) hq54
  refine pg_rb (k := 7) (j := 1) (f := 701) hx hb hown hU iu7 hw Ta0 (by decide) rfl (hU _ tw209) rfl hq54 dX7_sellWant_143 ?_
  obtain ⟨q55, hq55, hm⟩ := bd_some hm
  have Tq55 : TY S_51 q55 9 := hw.wf.ref (k := 8) (j := 1) Tq54 (by decide) (by decide) hq55
  refine pgN_rb (k := 8) (j := 1) (f := 801) hx hb hown hU iu8 hw Tq54 (by decide) rfl 45 rfl rfl hq55 dX7_sellWant_146 ?_
  refine lv_iload_n hx hb dX7_sellWant_149 rfl (lv_at hl 2 rfl) ?_
  refine lv_iconst (v := 1) hx hb dX7_sellWant_150 (by decide) ?_
  refine lv_iconst (v := 1) hx hb dX7_sellWant_151 (by decide) ?_
  obtain ⟨S_56, hq57, hm⟩ := bd_some hm
  refine pw_cv (va_runVN (As := [.int x1, .int 1, .int 1]) (rest := []) ⟨hx, hb, hml, hown, hU⟩ (c_X9_add l C X n S_51 hw.wf _ q55 x1 1 1 (Tq55) S_56 hq57) ⟨va_cnB (host := "WickNights") 3 hU (pq_g1 tc_X9_add) rfl rfl rfl (hw.nw 136 rfl) (hU _ tw5) cd_X9_add.2 ⟨Nat.le_of_ble_eq_true rfl, Nat.le_of_ble_eq_true rfl⟩, hU _ tw857, hU _ ts52⟩ (pw_preV hw Tq55 (by decide) rfl) rfl rfl hl.1 rfl (lv_room (Nat.le_of_ble_eq_true rfl)) dX7_sellWant_152 ⟨Nat.zero_le _, Nat.zero_le _⟩) hw (fun H locs hw hx58 => ?_)
  have Ta0 : TY S_56 a0 7 := ty_ext hx58 Ta0
  have hE : Ext S0 S_56 := Ext.tr hE hx58
  refine lv_iconst (v := 1) hx hb dX7_sellWant_155 (by decide) ?_
  cases hm
  exact pw_zret hx hb hr bz_1 hlk hw hE dX7_sellWant_156
def m_X7_sellWant (n : Nat) (a0 : Nat) (x1 : Int32) (S0 : pq_S) : Option (Int32 × pq_S) := cb (m_X7_isSaleable n a0 x1 S0) fun r3 S_1 => if r3 = 0 then some (0, S_1) else Option.bind (pR S_1 700 a0) fun q7 => Option.bind (pR S_1 101 q7) fun q8 => cb (m_X9_at n q8 x1 0 S_1) fun r11 S_9 => Option.bind (pR S_9 700 a0) fun q13 => Option.bind (pR S_9 101 q13) fun q14 => cb (m_X9_at n q14 x1 1 S_9) fun r17 S_15 => Option.bind (pR S_15 700 a0) fun q19 => Option.bind (pR S_15 101 q19) fun q20 => cb (m_X9_at n q20 x1 2 S_15) fun r23 S_21 => if r23 = 1 then b_X7_sellWant_72 n a0 x1 r11 r17 0 S_21 else Option.bind (pR S_21 701 a0) fun q26 => Option.bind (pR S_21 800 q26) fun q27 => cb (m_X9_at n q27 r11 1 S_21) fun r30 S_28 => b_X7_sellWant_72 n a0 x1 r11 r17 (if r30 < r17 then r30 else r17) S_28
theorem tc_X7_sellWant : Cond.code yX7_sellWant cX7_sellWant 5 (some .boolean) ∈ pq_U := tw903
theorem cd_X7_sellWant : yX7_sellWant.cls = RX7 ∧ yX7_sellWant.cls ≠ "java/lang/invoke/MethodHandle" ∧ yX7_sellWant.cls ≠ "java/lang/invoke/VarHandle" ∧ (parseMethodDescriptor yX7_sellWant.desc).map (fun d => d.parameters.length) = some 1 := by decide +kernel
set_option maxHeartbeats 4000000 in
set_option maxRecDepth 100000 in
theorem c_X7_sellWant (l : Launch) (C : pq_C) (X : va_W) (n : Nat) (S0 : pq_S) (hF : WF S0) (sz : Nat) (a0 : Nat) (x1 : Int32) (Ta0 : TY S0 a0 7) (r : Int32) (S1 : pq_S) (hm : m_X7_sellWant n a0 x1 S0 = some (r, S1)) : MZ l yX7_sellWant (.code yX7_sellWant cX7_sellWant 5 (some .boolean) :: pq_U) rm_X7_sellWant C X S0 sz [.ref a0, .int x1] r S1 0 0 := by
  refine Met.ofW (cc := cX7_sellWant) (maxL := 5) (ret := (some .boolean)) (by decide) rfl ?_
  intro p e s m args below meth c s₁ B hml hv
  obtain ⟨rfl, hv⟩ := hv
  have hsz := hv.1
  subst hsz
  have hw := pw_entry hF hv
  have hts := atoms_spec (ws := .code yX7_sellWant cX7_sellWant 5 (some .boolean) :: pq_U) B.pre
  have hU : ∀ w ∈ pq_U, w.before _ s = true := fun w h => hts w (List.mem_cons_of_mem _ h)
  have hx := B.exec
  have hb := B.bytes
  have hr := B.returns
  have hown : s.vm.findClass RX7 = some m.cls := findClass_of_methodNamed B.named
  have hlk := B.notSynchronized
  have hl := lv_entry ([.ref a0, .int x1]) (n := 5) (Nat.le_of_ble_eq_true rfl)
  rw [lg_entry_eq]
  generalize (lg_sl ([.ref a0, .int x1]) ++ List.replicate (5 - (lg_sl ([.ref a0, .int x1])).length) Slot.unset).toArray = ls at hl ⊢
  have hl : lv_has ls 5 [(0, .ref a0), (1, .int x1)] := hl
  have hE : Ext S0 S0 := Ext.rf _
  have cx : Cx p s m _ meth c cX7_sellWant 5 RX7 (some .boolean) := ⟨hx, hb, hml, hown, hU, hr, hlk⟩
  rw [m_X7_sellWant] at hm
  refine lv_aload_n hx hb dX7_sellWant_0 rfl (lv_at hl 0 rfl) ?_
  refine lv_iload_n hx hb dX7_sellWant_1 rfl (lv_at hl 1 rfl) ?_
  obtain ⟨r3, S_1, hq2, hm⟩ := cb_some hm
  refine pw_cz (va_runV (As := [.int x1]) (rest := []) ⟨hx, hb, hml, hown, hU⟩ (c_X7_isSaleable l C X n S0 hw.wf _ a0 x1 (Ta0) r3 S_1 hq2) (cwV 1 hU (pq_gV tw904 tw906 ts61 tw3 tc_X7_isSaleable) rfl rfl rfl cd_X7_isSaleable ⟨Nat.le_of_ble_eq_true rfl, Nat.le_of_ble_eq_true rfl⟩) (pw_preV hw Ta0 (by decide) rfl) rfl rfl hl.1 rfl (lv_room (Nat.le_of_ble_eq_true rfl)) dX7_sellWant_2 ⟨Nat.zero_le _, Nat.zero_le _⟩) hw (fun H locs hw hx4 hz5 => ?_)
  have Ta0 : TY S_1 a0 7 := ty_ext hx4 Ta0
  have hE : Ext S0 S_1 := Ext.tr hE hx4
  refine lv_if_ne (tgt := 10) hx hb dX7_sellWant_5 (by decide) (fun h6 => ?_) (fun h6 => ?_)
  · rw [if_neg h6] at hm
    refine lv_aload_n hx hb dX7_sellWant_10 rfl (lv_at hl 0 rfl) ?_
    obtain ⟨q7, hq7, hm⟩ := bd_some hm
    have Tq7 : TY S_1 q7 1 := hw.wf.ref (k := 7) (j := 0) Ta0 (by decide) (by decide) hq7
    refine pg_rb (k := 7) (j := 0) (f := 700) hx hb hown hU iu7 hw Ta0 (by decide) rfl (hU _ tw205) rfl hq7 dX7_sellWant_11 ?_
    obtain ⟨q8, hq8, hm⟩ := bd_some hm
    have Tq8 : TY S_1 q8 9 := hw.wf.ref (k := 1) (j := 1) Tq7 (by decide) (by decide) hq8
    refine pgN_rb (k := 1) (j := 1) (f := 101) hx hb hown hU iu1 hw Tq7 (by decide) rfl 31 rfl rfl hq8 dX7_sellWant_14 ?_
    refine lv_iload_n hx hb dX7_sellWant_17 rfl (lv_at hl 1 rfl) ?_
    refine lv_iconst (v := 0) hx hb dX7_sellWant_18 (by decide) ?_
    obtain ⟨r11, S_9, hq10, hm⟩ := cb_some hm
    refine pw_ci (va_runVN (As := [.int x1, .int 0]) (rest := []) ⟨hx, hb, hml, hown, hU⟩ (c_X9_at l C X n S_1 hw.wf _ q8 x1 0 (Tq8) r11 S_9 hq10) ⟨va_cnB (host := "WickNights") 2 hU (pq_g1 tc_X9_at) rfl rfl rfl (hw.nw 135 rfl) (hU _ tw5) cd_X9_at.2 ⟨Nat.le_of_ble_eq_true rfl, Nat.le_of_ble_eq_true rfl⟩, hU _ tw719, hU _ ts32⟩ (pw_preV hw Tq8 (by decide) rfl) rfl rfl hl.1 rfl (lv_room (Nat.le_of_ble_eq_true rfl)) dX7_sellWant_19 ⟨Nat.zero_le _, Nat.zero_le _⟩) hw (fun H locs hw hx12 => ?_)
    have Ta0 : TY S_9 a0 7 := ty_ext hx12 Ta0
    have hE : Ext S0 S_9 := Ext.tr hE hx12
    refine lv_istore_n (lv' := [(2, .int r11), (0, .ref a0), (1, .int x1)]) hx hb dX7_sellWant_22 rfl hl (by decide) rfl (fun ls hl => ?_)
    refine lv_aload_n hx hb dX7_sellWant_23 rfl (lv_at hl 1 rfl) ?_
    obtain ⟨q13, hq13, hm⟩ := bd_some hm
    have Tq13 : TY S_9 q13 1 := hw.wf.ref (k := 7) (j := 0) Ta0 (by decide) (by decide) hq13
    refine pg_rb (k := 7) (j := 0) (f := 700) hx hb hown hU iu7 hw Ta0 (by decide) rfl (hU _ tw205) rfl hq13 dX7_sellWant_24 ?_
    obtain ⟨q14, hq14, hm⟩ := bd_some hm
    have Tq14 : TY S_9 q14 9 := hw.wf.ref (k := 1) (j := 1) Tq13 (by decide) (by decide) hq14
    refine pgN_rb (k := 1) (j := 1) (f := 101) hx hb hown hU iu1 hw Tq13 (by decide) rfl 31 rfl rfl hq14 dX7_sellWant_27 ?_
    refine lv_iload_n hx hb dX7_sellWant_30 rfl (lv_at hl 2 rfl) ?_
    refine lv_iconst (v := 1) hx hb dX7_sellWant_31 (by decide) ?_
    obtain ⟨r17, S_15, hq16, hm⟩ := cb_some hm
    refine pw_ci (va_runVN (As := [.int x1, .int 1]) (rest := []) ⟨hx, hb, hml, hown, hU⟩ (c_X9_at l C X n S_9 hw.wf _ q14 x1 1 (Tq14) r17 S_15 hq16) ⟨va_cnB (host := "WickNights") 2 hU (pq_g1 tc_X9_at) rfl rfl rfl (hw.nw 135 rfl) (hU _ tw5) cd_X9_at.2 ⟨Nat.le_of_ble_eq_true rfl, Nat.le_of_ble_eq_true rfl⟩, hU _ tw719, hU _ ts32⟩ (pw_preV hw Tq14 (by decide) rfl) rfl rfl hl.1 rfl (lv_room (Nat.le_of_ble_eq_true rfl)) dX7_sellWant_32 ⟨Nat.zero_le _, Nat.zero_le _⟩) hw (fun H locs hw hx18 => ?_)
    have Ta0 : TY S_15 a0 7 := ty_ext hx18 Ta0
    have hE : Ext S0 S_15 := Ext.tr hE hx18
    refine lv_istore_n (lv' := [(3, .int r17), (2, .int r11), (0, .ref a0), (1, .int x1)]) hx hb dX7_sellWant_35 rfl hl (by decide) rfl (fun ls hl => ?_)
    refine lv_aload_n hx hb dX7_sellWant_36 rfl (lv_at hl 2 rfl) ?_
    obtain ⟨q19, hq19, hm⟩ := bd_some hm
    have Tq19 : TY S_15 q19 1 := hw.wf.ref (k := 7) (j := 0) Ta0 (by decide) (by decide) hq19
    refine pg_rb (k := 7) (j := 0) (f := 700) hx hb hown hU iu7 hw Ta0 (by decide) rfl (hU _ tw205) rfl hq19 dX7_sellWant_37 ?_
    obtain ⟨q20, hq20, hm⟩ := bd_some hm
    have Tq20 : TY S_15 q20 9 := hw.wf.ref (k := 1) (j := 1) Tq19 (by decide) (by decide) hq20
    refine pgN_rb (k := 1) (j := 1) (f := 101) hx hb hown hU iu1 hw Tq19 (by decide) rfl 31 rfl rfl hq20 dX7_sellWant_40 ?_
    refine lv_iload_n hx hb dX7_sellWant_43 rfl (lv_at hl 3 rfl) ?_
    refine lv_iconst (v := 2) hx hb dX7_sellWant_44 (by decide) ?_
    obtain ⟨r23, S_21, hq22, hm⟩ := cb_some hm
    refine pw_ci (va_runVN (As := [.int x1, .int 2]) (rest := []) ⟨hx, hb, hml, hown, hU⟩ (c_X9_at l C X n S_15 hw.wf _ q20 x1 2 (Tq20) r23 S_21 hq22) ⟨va_cnB (host := "WickNights") 2 hU (pq_g1 tc_X9_at) rfl rfl rfl (hw.nw 135 rfl) (hU _ tw5) cd_X9_at.2 ⟨Nat.le_of_ble_eq_true rfl, Nat.le_of_ble_eq_true rfl⟩, hU _ tw719, hU _ ts32⟩ (pw_preV hw Tq20 (by decide) rfl) rfl rfl hl.1 rfl (lv_room (Nat.le_of_ble_eq_true rfl)) dX7_sellWant_45 ⟨Nat.zero_le _, Nat.zero_le _⟩) hw (fun H locs hw hx24 => ?_)
    have Ta0 : TY S_21 a0 7 := ty_ext hx24 Ta0
    have hE : Ext S0 S_21 := Ext.tr hE hx24
    refine lv_iconst (v := 1) hx hb dX7_sellWant_48 (by decide) ?_
    refine lv_icmp_ne (tgt := 56) hx hb dX7_sellWant_49 (by decide) (fun h25 => ?_) (fun h25 => ?_)
    · rw [if_neg h25] at hm
      refine lv_iload_n hx hb dX7_sellWant_56 rfl (lv_at hl 0 rfl) ?_
      refine lv_aload_n hx hb dX7_sellWant_57 rfl (lv_at hl 2 rfl) ?_
      obtain ⟨q26, hq26, hm⟩ := bd_some hm
      have Tq26 : TY S_21 q26 8 := hw.wf.ref (k := 7) (j := 1) Ta0 (by decide) (by decide) hq26
      refine pg_rb (k := 7) (j := 1) (f := 701) hx hb hown hU iu7 hw Ta0 (by decide) rfl (hU _ tw209) rfl hq26 dX7_sellWant_58 ?_
      obtain ⟨q27, hq27, hm⟩ := bd_some hm
      have Tq27 : TY S_21 q27 9 := hw.wf.ref (k := 8) (j := 0) Tq26 (by decide) (by decide) hq27
      refine pgN_rb (k := 8) (j := 0) (f := 800) hx hb hown hU iu8 hw Tq26 (by decide) rfl 43 rfl rfl hq27 dX7_sellWant_61 ?_
      refine lv_iload_n hx hb dX7_sellWant_64 rfl (lv_at hl 1 rfl) ?_
      refine lv_iconst (v := 1) hx hb dX7_sellWant_65 (by decide) ?_
      obtain ⟨r30, S_28, hq29, hm⟩ := cb_some hm
      refine pw_ci (va_runVN (As := [.int r11, .int 1]) (rest := [.int r17]) ⟨hx, hb, hml, hown, hU⟩ (c_X9_at l C X n S_21 hw.wf _ q27 r11 1 (Tq27) r30 S_28 hq29) ⟨va_cnB (host := "WickNights") 2 hU (pq_g1 tc_X9_at) rfl rfl rfl (hw.nw 135 rfl) (hU _ tw5) cd_X9_at.2 ⟨Nat.le_of_ble_eq_true rfl, Nat.le_of_ble_eq_true rfl⟩, hU _ tw719, hU _ ts32⟩ (pw_preV hw Tq27 (by decide) rfl) rfl rfl hl.1 rfl (lv_room (Nat.le_of_ble_eq_true rfl)) dX7_sellWant_66 ⟨Nat.zero_le _, Nat.zero_le _⟩) hw (fun H locs hw hx31 => ?_)
      have Ta0 : TY S_28 a0 7 := ty_ext hx31 Ta0
      have hE : Ext S0 S_28 := Ext.tr hE hx31
      refine va_mmin hx hb (by rw [hml]; exact hl.1.symm) hown (hU _ tw893) (hU _ twm_min_s) (hU _ twm_i) (hU _ twm_min_c) (Nat.le_of_ble_eq_true rfl) (Nat.le_of_ble_eq_true rfl) (Nat.zero_le _) (Nat.zero_le _) dX7_sellWant_69 ?_
      exact wb_X7_sellWant_72 cx C X S0 n r S1 a0 x1 r11 r17 (if r30 < r17 then r30 else r17) S_28 _ _ _ hw hE Ta0 (lv_sub hl [2, 3, 1, 0] rfl) hm
    · rw [if_pos h25] at hm
      refine lv_iconst (v := 0) hx hb dX7_sellWant_52 (by decide) ?_
      refine lv_goto (tgt := 72) hx hb dX7_sellWant_53 (by decide) ?_
      exact wb_X7_sellWant_72 cx C X S0 n r S1 a0 x1 r11 r17 0 S_21 _ _ _ hw hE Ta0 (lv_sub hl [2, 3, 1, 0] rfl) hm
  · rw [if_pos h6] at hm
    refine lv_iconst (v := 0) hx hb dX7_sellWant_8 (by decide) ?_
    cases hm
    exact pw_zret hx hb hr bz_0 hlk hw hE dX7_sellWant_9
abbrev rm_X7_behindMonth : Room := { frames := 1, cells := 0, slots := 0, locals := 40 }
def m_X7_behindMonth (n : Nat) (a0 : Nat) (x1 : Int32) (x2 : Int32) (x3 : Int32) (S0 : pq_S) : Option (Int32 × pq_S) := cb (m_X7_leaking n a0 x3 S0) fun r3 S_1 => if x2 = 0 then Option.bind (pR S_1 700 a0) fun q6 => Option.bind (pR S_1 100 q6) fun q7 => cb (m_X9_at n q7 x1 3 S_1) fun r10 S_8 => some ((if 999 < ((x3 - r3) + r10) then 999 else ((x3 - r3) + r10)), S_8) else some ((x3 - r3), S_1)
theorem tc_X7_behindMonth : Cond.code yX7_behindMonth cX7_behindMonth 5 (some .int) ∈ pq_U := tw944
theorem cd_X7_behindMonth : yX7_behindMonth.cls = RX7 ∧ yX7_behindMonth.cls ≠ "java/lang/invoke/MethodHandle" ∧ yX7_behindMonth.cls ≠ "java/lang/invoke/VarHandle" ∧ (parseMethodDescriptor yX7_behindMonth.desc).map (fun d => d.parameters.length) = some 3 := by decide +kernel
set_option maxHeartbeats 4000000 in
set_option maxRecDepth 100000 in
theorem c_X7_behindMonth (l : Launch) (C : pq_C) (X : va_W) (n : Nat) (S0 : pq_S) (hF : WF S0) (sz : Nat) (a0 : Nat) (x1 : Int32) (x2 : Int32) (x3 : Int32) (Ta0 : TY S0 a0 7) (r : Int32) (S1 : pq_S) (hm : m_X7_behindMonth n a0 x1 x2 x3 S0 = some (r, S1)) : MI l yX7_behindMonth (.code yX7_behindMonth cX7_behindMonth 5 (some .int) :: pq_U) rm_X7_behindMonth C X S0 sz [.ref a0, .int x1, .int x2, .int x3] r S1 0 0 := by
  refine Met.ofW (cc := cX7_behindMonth) (maxL := 5) (ret := (some .int)) (by decide) rfl ?_
  intro p e s m args below meth c s₁ B hml hv
  obtain ⟨rfl, hv⟩ := hv
  have hsz := hv.1
  subst hsz
  have hw := pw_entry hF hv
  have hts := atoms_spec (ws := .code yX7_behindMonth cX7_behindMonth 5 (some .int) :: pq_U) B.pre
  have hU : ∀ w ∈ pq_U, w.before _ s = true := fun w h => hts w (List.mem_cons_of_mem _ h)
  have hx := B.exec
  have hb := B.bytes
  have hr := B.returns
  have hown : s.vm.findClass RX7 = some m.cls := findClass_of_methodNamed B.named
  have hlk := B.notSynchronized
  have hl := lv_entry ([.ref a0, .int x1, .int x2, .int x3]) (n := 5) (Nat.le_of_ble_eq_true rfl)
  rw [lg_entry_eq]
  generalize (lg_sl ([.ref a0, .int x1, .int x2, .int x3]) ++ List.replicate (5 - (lg_sl ([.ref a0, .int x1, .int x2, .int x3])).length) Slot.unset).toArray = ls at hl ⊢
  have hl : lv_has ls 5 [(0, .ref a0), (1, .int x1), (2, .int x2), (3, .int x3)] := hl
  have hE : Ext S0 S0 := Ext.rf _
  have cx : Cx p s m _ meth c cX7_behindMonth 5 RX7 (some .int) := ⟨hx, hb, hml, hown, hU, hr, hlk⟩
  rw [m_X7_behindMonth] at hm
  refine lv_iload_n hx hb dX7_behindMonth_0 rfl (lv_at hl 3 rfl) ?_
  refine lv_aload_n hx hb dX7_behindMonth_1 rfl (lv_at hl 0 rfl) ?_
  refine lv_iload_n hx hb dX7_behindMonth_2 rfl (lv_at hl 3 rfl) ?_
  obtain ⟨r3, S_1, hq2, hm⟩ := cb_some hm
  refine pw_ci (va_runV (As := [.int x3]) (rest := [.int x3]) ⟨hx, hb, hml, hown, hU⟩ (c_X7_leaking l C X n S0 hw.wf _ a0 x3 (Ta0) r3 S_1 hq2) (cwV 1 hU (pq_gV tw937 tw939 ts69 tw3 tc_X7_leaking) rfl rfl rfl cd_X7_leaking ⟨Nat.le_of_ble_eq_true rfl, Nat.le_of_ble_eq_true rfl⟩) (pw_preV hw Ta0 (by decide) rfl) rfl rfl hl.1 rfl (lv_room (Nat.le_of_ble_eq_true rfl)) dX7_behindMonth_3 ⟨Nat.zero_le _, Nat.zero_le _⟩) hw (fun H locs hw hx4 => ?_)
  have Ta0 : TY S_1 a0 7 := ty_ext hx4 Ta0
  have hE : Ext S0 S_1 := Ext.tr hE hx4
  refine lv_isub hx hb dX7_behindMonth_6 ?_
  refine lv_istore (lv' := [(4, .int (x3 - r3)), (0, .ref a0), (1, .int x1), (2, .int x2), (3, .int x3)]) hx hb dX7_behindMonth_7 hl (by decide) rfl (fun ls hl => ?_)
  refine lv_iload_n hx hb dX7_behindMonth_9 rfl (lv_at hl 3 rfl) ?_
  refine lv_if_ne (tgt := 37) hx hb dX7_behindMonth_10 (by decide) (fun h5 => ?_) (fun h5 => ?_)
  · rw [if_neg h5] at hm
    refine lv_iload hx hb dX7_behindMonth_37 (lv_at hl 0 rfl) ?_
    cases hm
    exact pw_iret hx hb hr rfl hlk hw hE dX7_behindMonth_39
  · rw [if_pos h5] at hm
    refine lv_iload hx hb dX7_behindMonth_13 (lv_at hl 0 rfl) ?_
    refine lv_aload_n hx hb dX7_behindMonth_15 rfl (lv_at hl 1 rfl) ?_
    obtain ⟨q6, hq6, hm⟩ := bd_some hm
    have Tq6 : TY S_1 q6 1 := hw.wf.ref (k := 7) (j := 0) Ta0 (by decide) (by decide) hq6
    refine pg_rb (k := 7) (j := 0) (f := 700) hx hb hown hU iu7 hw Ta0 (by decide) rfl (hU _ tw205) rfl hq6 dX7_behindMonth_16 ?_
    obtain ⟨q7, hq7, hm⟩ := bd_some hm
    have Tq7 : TY S_1 q7 9 := hw.wf.ref (k := 1) (j := 0) Tq6 (by decide) (by decide) hq7
    refine pgN_rb (k := 1) (j := 0) (f := 100) hx hb hown hU iu1 hw Tq6 (by decide) rfl 26 rfl rfl hq7 dX7_behindMonth_19 ?_
    refine lv_iload_n hx hb dX7_behindMonth_22 rfl (lv_at hl 2 rfl) ?_
    refine lv_iconst (v := 3) hx hb dX7_behindMonth_23 (by decide) ?_
    obtain ⟨r10, S_8, hq9, hm⟩ := cb_some hm
    refine pw_ci (va_runVN (As := [.int x1, .int 3]) (rest := [.int (x3 - r3)]) ⟨hx, hb, hml, hown, hU⟩ (c_X9_at l C X n S_1 hw.wf _ q7 x1 3 (Tq7) r10 S_8 hq9) ⟨va_cnB (host := "WickNights") 2 hU (pq_g1 tc_X9_at) rfl rfl rfl (hw.nw 135 rfl) (hU _ tw5) cd_X9_at.2 ⟨Nat.le_of_ble_eq_true rfl, Nat.le_of_ble_eq_true rfl⟩, hU _ tw719, hU _ ts32⟩ (pw_preV hw Tq7 (by decide) rfl) rfl rfl hl.1 rfl (lv_room (Nat.le_of_ble_eq_true rfl)) dX7_behindMonth_24 ⟨Nat.zero_le _, Nat.zero_le _⟩) hw (fun H locs hw hx11 => ?_)
    have Ta0 : TY S_8 a0 7 := ty_ext hx11 Ta0
    have hE : Ext S0 S_8 := Ext.tr hE hx11
    refine lv_iadd hx hb dX7_behindMonth_27 ?_
    refine lv_sipush (v := 999) hx hb dX7_behindMonth_28 (by decide) ?_
    refine va_mmin hx hb (by rw [hml]; exact hl.1.symm) hown (hU _ tw893) (hU _ twm_min_s) (hU _ twm_i) (hU _ twm_min_c) (Nat.le_of_ble_eq_true rfl) (Nat.le_of_ble_eq_true rfl) (Nat.zero_le _) (Nat.zero_le _) dX7_behindMonth_31 ?_
    refine lv_goto (tgt := 39) hx hb dX7_behindMonth_34 (by decide) ?_
    cases hm
    exact pw_iret hx hb hr rfl hlk hw hE dX7_behindMonth_39
abbrev rm_X7_passMonthFor : Room := { frames := 2, cells := 0, slots := 0, locals := 64 }
def m_X7_passMonthFor (n : Nat) (a0 : Nat) (x1 : Int32) (x2 : Int32) (S0 : pq_S) : Option pq_S := Option.bind (pR S0 701 a0) fun q1 => Option.bind (pR S0 800 q1) fun q2 => cb (m_X9_at n q2 x1 x2 S0) fun r5 S_3 => Option.bind (pR S_3 701 a0) fun q7 => Option.bind (pR S_3 800 q7) fun q8 => cb (m_X7_leaking n a0 r5 S_3) fun r11 S_9 => Option.bind (m_X9_add n q8 x1 2 r11 S_9) fun S_13 => Option.bind (pR S_13 701 a0) fun q16 => Option.bind (pR S_13 800 q16) fun q17 => cb (m_X7_behindMonth n a0 x1 x2 r5 S_13) fun r20 S_18 => Option.bind (m_X9_put n q17 x1 x2 r20 S_18) fun S_22 => some S_22
theorem tc_X7_passMonthFor : Cond.code yX7_passMonthFor cX7_passMonthFor 4 none ∈ pq_U := tw936
theorem cd_X7_passMonthFor : yX7_passMonthFor.cls = RX7 ∧ yX7_passMonthFor.cls ≠ "java/lang/invoke/MethodHandle" ∧ yX7_passMonthFor.cls ≠ "java/lang/invoke/VarHandle" ∧ (parseMethodDescriptor yX7_passMonthFor.desc).map (fun d => d.parameters.length) = some 2 := by decide +kernel
set_option maxHeartbeats 4000000 in
set_option maxRecDepth 100000 in
theorem c_X7_passMonthFor (l : Launch) (C : pq_C) (X : va_W) (n : Nat) (S0 : pq_S) (hF : WF S0) (sz : Nat) (a0 : Nat) (x1 : Int32) (x2 : Int32) (Ta0 : TY S0 a0 7) (S1 : pq_S) (hm : m_X7_passMonthFor n a0 x1 x2 S0 = some S1) : MV l yX7_passMonthFor (.code yX7_passMonthFor cX7_passMonthFor 4 none :: pq_U) rm_X7_passMonthFor C X S0 sz [.ref a0, .int x1, .int x2] S1 0 0 := by
  refine Met.ofW (cc := cX7_passMonthFor) (maxL := 4) (ret := none) (by decide) rfl ?_
  intro p e s m args below meth c s₁ B hml hv
  obtain ⟨rfl, hv⟩ := hv
  have hsz := hv.1
  subst hsz
  have hw := pw_entry hF hv
  have hts := atoms_spec (ws := .code yX7_passMonthFor cX7_passMonthFor 4 none :: pq_U) B.pre
  have hU : ∀ w ∈ pq_U, w.before _ s = true := fun w h => hts w (List.mem_cons_of_mem _ h)
  have hx := B.exec
  have hb := B.bytes
  have hr := B.returns
  have hown : s.vm.findClass RX7 = some m.cls := findClass_of_methodNamed B.named
  have hlk := B.notSynchronized
  have hl := lv_entry ([.ref a0, .int x1, .int x2]) (n := 4) (Nat.le_of_ble_eq_true rfl)
  rw [lg_entry_eq]
  generalize (lg_sl ([.ref a0, .int x1, .int x2]) ++ List.replicate (4 - (lg_sl ([.ref a0, .int x1, .int x2])).length) Slot.unset).toArray = ls at hl ⊢
  have hl : lv_has ls 4 [(0, .ref a0), (1, .int x1), (2, .int x2)] := hl
  have hE : Ext S0 S0 := Ext.rf _
  have cx : Cx p s m _ meth c cX7_passMonthFor 4 RX7 none := ⟨hx, hb, hml, hown, hU, hr, hlk⟩
  rw [m_X7_passMonthFor] at hm
  refine lv_aload_n hx hb dX7_passMonthFor_0 rfl (lv_at hl 0 rfl) ?_
  obtain ⟨q1, hq1, hm⟩ := bd_some hm
  have Tq1 : TY S0 q1 8 := hw.wf.ref (k := 7) (j := 1) Ta0 (by decide) (by decide) hq1
  refine pg_rb (k := 7) (j := 1) (f := 701) hx hb hown hU iu7 hw Ta0 (by decide) rfl (hU _ tw209) rfl hq1 dX7_passMonthFor_1 ?_
  obtain ⟨q2, hq2, hm⟩ := bd_some hm
  have Tq2 : TY S0 q2 9 := hw.wf.ref (k := 8) (j := 0) Tq1 (by decide) (by decide) hq2
  refine pgN_rb (k := 8) (j := 0) (f := 800) hx hb hown hU iu8 hw Tq1 (by decide) rfl 43 rfl rfl hq2 dX7_passMonthFor_4 ?_
  refine lv_iload_n hx hb dX7_passMonthFor_7 rfl (lv_at hl 1 rfl) ?_
  refine lv_iload_n hx hb dX7_passMonthFor_8 rfl (lv_at hl 2 rfl) ?_
  obtain ⟨r5, S_3, hq4, hm⟩ := cb_some hm
  refine pw_ci (va_runVN (As := [.int x1, .int x2]) (rest := []) ⟨hx, hb, hml, hown, hU⟩ (c_X9_at l C X n S0 hw.wf _ q2 x1 x2 (Tq2) r5 S_3 hq4) ⟨va_cnB (host := "WickNights") 2 hU (pq_g1 tc_X9_at) rfl rfl rfl (hw.nw 135 rfl) (hU _ tw5) cd_X9_at.2 ⟨Nat.le_of_ble_eq_true rfl, Nat.le_of_ble_eq_true rfl⟩, hU _ tw719, hU _ ts32⟩ (pw_preV hw Tq2 (by decide) rfl) rfl rfl hl.1 rfl (lv_room (Nat.le_of_ble_eq_true rfl)) dX7_passMonthFor_9 ⟨Nat.zero_le _, Nat.zero_le _⟩) hw (fun H locs hw hx6 => ?_)
  have Ta0 : TY S_3 a0 7 := ty_ext hx6 Ta0
  have hE : Ext S0 S_3 := Ext.tr hE hx6
  refine lv_istore_n (lv' := [(3, .int r5), (0, .ref a0), (1, .int x1), (2, .int x2)]) hx hb dX7_passMonthFor_12 rfl hl (by decide) rfl (fun ls hl => ?_)
  refine lv_aload_n hx hb dX7_passMonthFor_13 rfl (lv_at hl 1 rfl) ?_
  obtain ⟨q7, hq7, hm⟩ := bd_some hm
  have Tq7 : TY S_3 q7 8 := hw.wf.ref (k := 7) (j := 1) Ta0 (by decide) (by decide) hq7
  refine pg_rb (k := 7) (j := 1) (f := 701) hx hb hown hU iu7 hw Ta0 (by decide) rfl (hU _ tw209) rfl hq7 dX7_passMonthFor_14 ?_
  obtain ⟨q8, hq8, hm⟩ := bd_some hm
  have Tq8 : TY S_3 q8 9 := hw.wf.ref (k := 8) (j := 0) Tq7 (by decide) (by decide) hq8
  refine pgN_rb (k := 8) (j := 0) (f := 800) hx hb hown hU iu8 hw Tq7 (by decide) rfl 43 rfl rfl hq8 dX7_passMonthFor_17 ?_
  refine lv_iload_n hx hb dX7_passMonthFor_20 rfl (lv_at hl 2 rfl) ?_
  refine lv_iconst (v := 2) hx hb dX7_passMonthFor_21 (by decide) ?_
  refine lv_aload_n hx hb dX7_passMonthFor_22 rfl (lv_at hl 1 rfl) ?_
  refine lv_iload_n hx hb dX7_passMonthFor_23 rfl (lv_at hl 0 rfl) ?_
  obtain ⟨r11, S_9, hq10, hm⟩ := cb_some hm
  refine pw_ci (va_runV (As := [.int r5]) (rest := [.int 2, .int x1, .ref q8]) ⟨hx, hb, hml, hown, hU⟩ (c_X7_leaking l C X n S_3 hw.wf _ a0 r5 (Ta0) r11 S_9 hq10) (cwV 1 hU (pq_gV tw937 tw939 ts69 tw3 tc_X7_leaking) rfl rfl rfl cd_X7_leaking ⟨Nat.le_of_ble_eq_true rfl, Nat.le_of_ble_eq_true rfl⟩) (pw_preV hw Ta0 (by decide) rfl) rfl rfl hl.1 rfl (lv_room (Nat.le_of_ble_eq_true rfl)) dX7_passMonthFor_24 ⟨Nat.zero_le _, Nat.zero_le _⟩) hw (fun H locs hw hx12 => ?_)
  have Tq8 : TY S_9 q8 9 := ty_ext hx12 Tq8
  have Ta0 : TY S_9 a0 7 := ty_ext hx12 Ta0
  have hE : Ext S0 S_9 := Ext.tr hE hx12
  obtain ⟨S_13, hq14, hm⟩ := bd_some hm
  refine pw_cv (va_runVN (As := [.int x1, .int 2, .int r11]) (rest := []) ⟨hx, hb, hml, hown, hU⟩ (c_X9_add l C X n S_9 hw.wf _ q8 x1 2 r11 (Tq8) S_13 hq14) ⟨va_cnB (host := "WickNights") 3 hU (pq_g1 tc_X9_add) rfl rfl rfl (hw.nw 136 rfl) (hU _ tw5) cd_X9_add.2 ⟨Nat.le_of_ble_eq_true rfl, Nat.le_of_ble_eq_true rfl⟩, hU _ tw857, hU _ ts52⟩ (pw_preV hw Tq8 (by decide) rfl) rfl rfl hl.1 rfl (lv_room (Nat.le_of_ble_eq_true rfl)) dX7_passMonthFor_27 ⟨Nat.zero_le _, Nat.zero_le _⟩) hw (fun H locs hw hx15 => ?_)
  have Ta0 : TY S_13 a0 7 := ty_ext hx15 Ta0
  have hE : Ext S0 S_13 := Ext.tr hE hx15
  refine lv_aload_n hx hb dX7_passMonthFor_30 rfl (lv_at hl 1 rfl) ?_
  obtain ⟨q16, hq16, hm⟩ := bd_some hm
  have Tq16 : TY S_13 q16 8 := hw.wf.ref (k := 7) (j := 1) Ta0 (by decide) (by decide) hq16
  refine pg_rb (k := 7) (j := 1) (f := 701) hx hb hown hU iu7 hw Ta0 (by decide) rfl (hU _ tw209) rfl hq16 dX7_passMonthFor_31 ?_
  obtain ⟨q17, hq17, hm⟩ := bd_some hm
  have Tq17 : TY S_13 q17 9 := hw.wf.ref (k := 8) (j := 0) Tq16 (by decide) (by decide) hq17
  refine pgN_rb (k := 8) (j := 0) (f := 800) hx hb hown hU iu8 hw Tq16 (by decide) rfl 43 rfl rfl hq17 dX7_passMonthFor_34 ?_
  refine lv_iload_n hx hb dX7_passMonthFor_37 rfl (lv_at hl 2 rfl) ?_
  refine lv_iload_n hx hb dX7_passMonthFor_38 rfl (lv_at hl 3 rfl) ?_
  refine lv_aload_n hx hb dX7_passMonthFor_39 rfl (lv_at hl 1 rfl) ?_
  refine lv_iload_n hx hb dX7_passMonthFor_40 rfl (lv_at hl 2 rfl) ?_
  refine lv_iload_n hx hb dX7_passMonthFor_41 rfl (lv_at hl 3 rfl) ?_
  refine lv_iload_n hx hb dX7_passMonthFor_42 rfl (lv_at hl 0 rfl) ?_
  obtain ⟨r20, S_18, hq19, hm⟩ := cb_some hm
  refine pw_ci (va_runV (As := [.int x1, .int x2, .int r5]) (rest := [.int x2, .int x1, .ref q17]) ⟨hx, hb, hml, hown, hU⟩ (c_X7_behindMonth l C X n S_13 hw.wf _ a0 x1 x2 r5 (Ta0) r20 S_18 hq19) (cwV 3 hU (pq_gV tw941 tw943 ts70 tw3 tc_X7_behindMonth) rfl rfl rfl cd_X7_behindMonth ⟨Nat.le_of_ble_eq_true rfl, Nat.le_of_ble_eq_true rfl⟩) (pw_preV hw Ta0 (by decide) rfl) rfl rfl hl.1 rfl (lv_room (Nat.le_of_ble_eq_true rfl)) dX7_passMonthFor_43 ⟨Nat.zero_le _, Nat.zero_le _⟩) hw (fun H locs hw hx21 => ?_)
  have Tq17 : TY S_18 q17 9 := ty_ext hx21 Tq17
  have Ta0 : TY S_18 a0 7 := ty_ext hx21 Ta0
  have hE : Ext S0 S_18 := Ext.tr hE hx21
  obtain ⟨S_22, hq23, hm⟩ := bd_some hm
  refine pw_cv (va_runVN (As := [.int x1, .int x2, .int r20]) (rest := []) ⟨hx, hb, hml, hown, hU⟩ (c_X9_put l C X n S_18 hw.wf _ q17 x1 x2 r20 (Tq17) S_22 hq23) ⟨va_cnB (host := "WickNights") 3 hU (pq_g1 tc_X9_put) rfl rfl rfl (hw.nw 143 rfl) (hU _ tw5) cd_X9_put.2 ⟨Nat.le_of_ble_eq_true rfl, Nat.le_of_ble_eq_true rfl⟩, hU _ tw673, hU _ ts23⟩ (pw_preV hw Tq17 (by decide) rfl) rfl rfl hl.1 rfl (lv_room (Nat.le_of_ble_eq_true rfl)) dX7_passMonthFor_46 ⟨Nat.zero_le _, Nat.zero_le _⟩) hw (fun H locs hw hx24 => ?_)
  have Ta0 : TY S_22 a0 7 := ty_ext hx24 Ta0
  have hE : Ext S0 S_22 := Ext.tr hE hx24
  cases hm
  exact pw_vret hx hb hr hlk hw hE dX7_passMonthFor_49
abbrev rm_X7_fullestPlace : Room := { frames := 2, cells := 0, slots := 0, locals := 44 }
def b_X7_fullestPlace_38 (n : Nat) (k4 : Nat → Int32 → Int32 → pq_S → Option (Int32 × pq_S)) (a0 : Nat) (x1 : Int32) (x2 : Int32) (S : pq_S) : Option (Int32 × pq_S) := k4 a0 x1 (x2 + 1) S
set_option maxHeartbeats 4000000 in
set_option maxRecDepth 100000 in
theorem wb_X7_fullestPlace_38 {p : Program} {l : Launch} {e : Env} {s : State} {m : MethodId} {args : Array Value} {below : List Frame} {meth : Method} {c : Code} (cx : Cx p s m args meth c cX7_fullestPlace 3 RX7 (some .int)) (C : pq_C) (X : va_W) (S0 : pq_S) (n : Nat) (r : Int32) (S1 : pq_S) (k4 : Nat → Int32 → Int32 → pq_S → Option (Int32 × pq_S)) (hk4 : ∀ (a0 : Nat) (x1 : Int32) (x2 : Int32) (S : pq_S) (H : Heap) (locs : List Loc) (ls : Array Slot), PW C X S (pq_F C X S0 s.heap.size) H locs s → Ext S0 S → TY S a0 7 → lv_has ls 3 [(0, .ref a0), (1, .int x1), (2, .int x2)] → k4 a0 x1 x2 S = some (r, S1) → W p l e rm_X7_fullestPlace s m args below meth c H locs 0 0 (MQ below (QcI C X S0 s.heap.size r S1) args s 0 0 (pq_F C X S0 s.heap.size)) (F0 m 4 ls [])) : ∀ (a0 : Nat) (x1 : Int32) (x2 : Int32) (S : pq_S) (H : Heap) (locs : List Loc) (ls : Array Slot), PW C X S (pq_F C X S0 s.heap.size) H locs s → Ext S0 S → TY S a0 7 → lv_has ls 3 [(0, .ref a0), (1, .int x1), (2, .int x2)] → b_X7_fullestPlace_38 n k4 a0 x1 x2 S = some (r, S1) → W p l e rm_X7_fullestPlace s m args below meth c H locs 0 0 (MQ below (QcI C X S0 s.heap.size r S1) args s 0 0 (pq_F C X S0 s.heap.size)) (F0 m 38 ls []) := by
  obtain ⟨hx, hb, hml, hown, hU, hr, hlk⟩ := id cx
  intro a0 x1 x2 S H locs ls hw hE Ta0 hl hm
  rw [b_X7_fullestPlace_38] at hm
  refine lv_iinc (v := (x2 + 1)) (lv' := [(2, .int (x2 + 1)), (0, .ref a0), (1, .int x1)]) hx hb dX7_fullestPlace_38 hl (k := 2) rfl rfl (by decide) rfl (fun ls hl => ?_)
  refine lv_goto (tgt := 4) hx hb dX7_fullestPlace_41 (by decide) ?_
  exact hk4 a0 x1 (x2 + 1) S _ _ _ hw hE Ta0 (lv_sub hl [1, 2, 0] rfl) hm
def b_X7_fullestPlace_36 (n : Nat) (k4 : Nat → Int32 → Int32 → pq_S → Option (Int32 × pq_S)) (a0 : Nat) (x2 : Int32) (S : pq_S) : Option (Int32 × pq_S) := b_X7_fullestPlace_38 n k4 a0 x2 x2 S
set_option maxHeartbeats 4000000 in
set_option maxRecDepth 100000 in
theorem wb_X7_fullestPlace_36 {p : Program} {l : Launch} {e : Env} {s : State} {m : MethodId} {args : Array Value} {below : List Frame} {meth : Method} {c : Code} (cx : Cx p s m args meth c cX7_fullestPlace 3 RX7 (some .int)) (C : pq_C) (X : va_W) (S0 : pq_S) (n : Nat) (r : Int32) (S1 : pq_S) (k4 : Nat → Int32 → Int32 → pq_S → Option (Int32 × pq_S)) (hk4 : ∀ (a0 : Nat) (x1 : Int32) (x2 : Int32) (S : pq_S) (H : Heap) (locs : List Loc) (ls : Array Slot), PW C X S (pq_F C X S0 s.heap.size) H locs s → Ext S0 S → TY S a0 7 → lv_has ls 3 [(0, .ref a0), (1, .int x1), (2, .int x2)] → k4 a0 x1 x2 S = some (r, S1) → W p l e rm_X7_fullestPlace s m args below meth c H locs 0 0 (MQ below (QcI C X S0 s.heap.size r S1) args s 0 0 (pq_F C X S0 s.heap.size)) (F0 m 4 ls [])) : ∀ (a0 : Nat) (x2 : Int32) (S : pq_S) (H : Heap) (locs : List Loc) (ls : Array Slot), PW C X S (pq_F C X S0 s.heap.size) H locs s → Ext S0 S → TY S a0 7 → lv_has ls 3 [(0, .ref a0), (2, .int x2)] → b_X7_fullestPlace_36 n k4 a0 x2 S = some (r, S1) → W p l e rm_X7_fullestPlace s m args below meth c H locs 0 0 (MQ below (QcI C X S0 s.heap.size r S1) args s 0 0 (pq_F C X S0 s.heap.size)) (F0 m 36 ls []) := by
  obtain ⟨hx, hb, hml, hown, hU, hr, hlk⟩ := id cx
  intro a0 x2 S H locs ls hw hE Ta0 hl hm
  rw [b_X7_fullestPlace_36] at hm
  refine lv_iload_n hx hb dX7_fullestPlace_36 rfl (lv_at hl 1 rfl) ?_
  refine lv_istore_n (lv' := [(1, .int x2), (0, .ref a0), (2, .int x2)]) hx hb dX7_fullestPlace_37 rfl hl (by decide) rfl (fun ls hl => ?_)
  exact wb_X7_fullestPlace_38 cx C X S0 n r S1 _ hk4 a0 x2 x2 S _ _ _ hw hE Ta0 (lv_sub hl [1, 0, 2] rfl) hm
def b_X7_fullestPlace_4 (n : Nat) : Nat → Nat → Int32 → Int32 → pq_S → Option (Int32 × pq_S)
  | 0, _, _, _, _ => none
  | f + 1, a0, x1, x2, S => Option.bind (pR S 701 a0) fun q1 => Option.bind (pR S 800 q1) fun q2 => if (pI S 902 q2) ≤ x2 then some (x1, S) else if x1 = (-1) then b_X7_fullestPlace_36 n (b_X7_fullestPlace_4 n f) a0 x2 S else cb (m_X7_hoursAt n a0 x2 S) fun r7 S_5 => cb (m_X7_hoursAt n a0 x1 S_5) fun r11 S_9 => if r7 ≤ r11 then b_X7_fullestPlace_38 n (b_X7_fullestPlace_4 n f) a0 x1 x2 S_9 else b_X7_fullestPlace_36 n (b_X7_fullestPlace_4 n f) a0 x2 S_9
set_option maxHeartbeats 4000000 in
set_option maxRecDepth 100000 in
theorem wb_X7_fullestPlace_4 {p : Program} {l : Launch} {e : Env} {s : State} {m : MethodId} {args : Array Value} {below : List Frame} {meth : Method} {c : Code} (cx : Cx p s m args meth c cX7_fullestPlace 3 RX7 (some .int)) (C : pq_C) (X : va_W) (S0 : pq_S) (n : Nat) (r : Int32) (S1 : pq_S) : ∀ (f : Nat) (a0 : Nat) (x1 : Int32) (x2 : Int32) (S : pq_S) (H : Heap) (locs : List Loc) (ls : Array Slot), PW C X S (pq_F C X S0 s.heap.size) H locs s → Ext S0 S → TY S a0 7 → lv_has ls 3 [(0, .ref a0), (1, .int x1), (2, .int x2)] → b_X7_fullestPlace_4 n f a0 x1 x2 S = some (r, S1) → W p l e rm_X7_fullestPlace s m args below meth c H locs 0 0 (MQ below (QcI C X S0 s.heap.size r S1) args s 0 0 (pq_F C X S0 s.heap.size)) (F0 m 4 ls []) := by
  obtain ⟨hx, hb, hml, hown, hU, hr, hlk⟩ := id cx
  intro f
  induction f with
  | zero =>
    intro a0 x1 x2 S H locs ls hw hE Ta0 hl hm
    cases hm
  | succ f ih =>
    intro a0 x1 x2 S H locs ls hw hE Ta0 hl hm
    rw [b_X7_fullestPlace_4] at hm
    refine lv_iload_n hx hb dX7_fullestPlace_4 rfl (lv_at hl 2 rfl) ?_
    refine lv_aload_n hx hb dX7_fullestPlace_5 rfl (lv_at hl 0 rfl) ?_
    obtain ⟨q1, hq1, hm⟩ := bd_some hm
    have Tq1 : TY S q1 8 := hw.wf.ref (k := 7) (j := 1) Ta0 (by decide) (by decide) hq1
    refine pg_rb (k := 7) (j := 1) (f := 701) hx hb hown hU iu7 hw Ta0 (by decide) rfl (hU _ tw209) rfl hq1 dX7_fullestPlace_6 ?_
    obtain ⟨q2, hq2, hm⟩ := bd_some hm
    have Tq2 : TY S q2 9 := hw.wf.ref (k := 8) (j := 0) Tq1 (by decide) (by decide) hq2
    refine pgN_rb (k := 8) (j := 0) (f := 800) hx hb hown hU iu8 hw Tq1 (by decide) rfl 43 rfl rfl hq2 dX7_fullestPlace_9 ?_
    refine pgN_i (k := 9) (j := 2) (f := 902) hx hb hown hU iu9 hw Tq2 (by decide) rfl 20 rfl rfl dX7_fullestPlace_12 ?_
    refine lv_icmp_ge (tgt := 44) hx hb dX7_fullestPlace_15 (by decide) (fun h3 => ?_) (fun h3 => ?_)
    · rw [if_pos h3] at hm
      refine lv_iload_n hx hb dX7_fullestPlace_44 rfl (lv_at hl 1 rfl) ?_
      cases hm
      exact pw_iret hx hb hr rfl hlk hw hE dX7_fullestPlace_45
    · rw [if_neg h3] at hm
      refine lv_iload_n hx hb dX7_fullestPlace_18 rfl (lv_at hl 1 rfl) ?_
      refine lv_iconst (v := (-1)) hx hb dX7_fullestPlace_19 (by decide) ?_
      refine lv_icmp_eq (tgt := 36) hx hb dX7_fullestPlace_20 (by decide) (fun h4 => ?_) (fun h4 => ?_)
      · rw [if_pos h4] at hm
        exact wb_X7_fullestPlace_36 cx C X S0 n r S1 _ ih a0 x2 S _ _ _ hw hE Ta0 (lv_sub hl [0, 2] rfl) hm
      · rw [if_neg h4] at hm
        refine lv_aload_n hx hb dX7_fullestPlace_23 rfl (lv_at hl 0 rfl) ?_
        refine lv_iload_n hx hb dX7_fullestPlace_24 rfl (lv_at hl 2 rfl) ?_
        obtain ⟨r7, S_5, hq6, hm⟩ := cb_some hm
        refine pw_ci (va_runV (As := [.int x2]) (rest := []) ⟨hx, hb, hml, hown, hU⟩ (c_X7_hoursAt l C X n S hw.wf _ a0 x2 (Ta0) r7 S_5 hq6) (cwV 1 hU (pq_gV tw908 tw910 ts62 tw3 tc_X7_hoursAt) rfl rfl rfl cd_X7_hoursAt ⟨Nat.le_of_ble_eq_true rfl, Nat.le_of_ble_eq_true rfl⟩) (pw_preV hw Ta0 (by decide) rfl) rfl rfl hl.1 rfl (lv_room (Nat.le_of_ble_eq_true rfl)) dX7_fullestPlace_25 ⟨Nat.zero_le _, Nat.zero_le _⟩) hw (fun H locs hw hx8 => ?_)
        have Ta0 : TY S_5 a0 7 := ty_ext hx8 Ta0
        have hE : Ext S0 S_5 := Ext.tr hE hx8
        refine lv_aload_n hx hb dX7_fullestPlace_28 rfl (lv_at hl 0 rfl) ?_
        refine lv_iload_n hx hb dX7_fullestPlace_29 rfl (lv_at hl 1 rfl) ?_
        obtain ⟨r11, S_9, hq10, hm⟩ := cb_some hm
        refine pw_ci (va_runV (As := [.int x1]) (rest := [.int r7]) ⟨hx, hb, hml, hown, hU⟩ (c_X7_hoursAt l C X n S_5 hw.wf _ a0 x1 (Ta0) r11 S_9 hq10) (cwV 1 hU (pq_gV tw908 tw910 ts62 tw3 tc_X7_hoursAt) rfl rfl rfl cd_X7_hoursAt ⟨Nat.le_of_ble_eq_true rfl, Nat.le_of_ble_eq_true rfl⟩) (pw_preV hw Ta0 (by decide) rfl) rfl rfl hl.1 rfl (lv_room (Nat.le_of_ble_eq_true rfl)) dX7_fullestPlace_30 ⟨Nat.zero_le _, Nat.zero_le _⟩) hw (fun H locs hw hx12 => ?_)
        have Ta0 : TY S_9 a0 7 := ty_ext hx12 Ta0
        have hE : Ext S0 S_9 := Ext.tr hE hx12
        refine lv_icmp_le (tgt := 38) hx hb dX7_fullestPlace_33 (by decide) (fun h13 => ?_) (fun h13 => ?_)
        · rw [if_pos h13] at hm
          exact wb_X7_fullestPlace_38 cx C X S0 n r S1 _ ih a0 x1 x2 S_9 _ _ _ hw hE Ta0 (lv_sub hl [0, 1, 2] rfl) hm
        · rw [if_neg h13] at hm
          exact wb_X7_fullestPlace_36 cx C X S0 n r S1 _ ih a0 x2 S_9 _ _ _ hw hE Ta0 (lv_sub hl [0, 2] rfl) hm
def m_X7_fullestPlace (n : Nat) (a0 : Nat) (S0 : pq_S) : Option (Int32 × pq_S) := b_X7_fullestPlace_4 n n a0 (-1) 0 S0
theorem tc_X7_fullestPlace : Cond.code yX7_fullestPlace cX7_fullestPlace 3 (some .int) ∈ pq_U := tw1440
theorem cd_X7_fullestPlace : yX7_fullestPlace.cls = RX7 ∧ yX7_fullestPlace.cls ≠ "java/lang/invoke/MethodHandle" ∧ yX7_fullestPlace.cls ≠ "java/lang/invoke/VarHandle" ∧ (parseMethodDescriptor yX7_fullestPlace.desc).map (fun d => d.parameters.length) = some 0 := by decide +kernel
set_option maxHeartbeats 4000000 in
set_option maxRecDepth 100000 in
theorem c_X7_fullestPlace (l : Launch) (C : pq_C) (X : va_W) (n : Nat) (S0 : pq_S) (hF : WF S0) (sz : Nat) (a0 : Nat) (Ta0 : TY S0 a0 7) (r : Int32) (S1 : pq_S) (hm : m_X7_fullestPlace n a0 S0 = some (r, S1)) : MI l yX7_fullestPlace (.code yX7_fullestPlace cX7_fullestPlace 3 (some .int) :: pq_U) rm_X7_fullestPlace C X S0 sz [.ref a0] r S1 0 0 := by
  refine Met.ofW (cc := cX7_fullestPlace) (maxL := 3) (ret := (some .int)) (by decide) rfl ?_
  intro p e s m args below meth c s₁ B hml hv
  obtain ⟨rfl, hv⟩ := hv
  have hsz := hv.1
  subst hsz
  have hw := pw_entry hF hv
  have hts := atoms_spec (ws := .code yX7_fullestPlace cX7_fullestPlace 3 (some .int) :: pq_U) B.pre
  have hU : ∀ w ∈ pq_U, w.before _ s = true := fun w h => hts w (List.mem_cons_of_mem _ h)
  have hx := B.exec
  have hb := B.bytes
  have hr := B.returns
  have hown : s.vm.findClass RX7 = some m.cls := findClass_of_methodNamed B.named
  have hlk := B.notSynchronized
  have hl := lv_entry ([.ref a0]) (n := 3) (Nat.le_of_ble_eq_true rfl)
  rw [lg_entry_eq]
  generalize (lg_sl ([.ref a0]) ++ List.replicate (3 - (lg_sl ([.ref a0])).length) Slot.unset).toArray = ls at hl ⊢
  have hl : lv_has ls 3 [(0, .ref a0)] := hl
  have hE : Ext S0 S0 := Ext.rf _
  have cx : Cx p s m _ meth c cX7_fullestPlace 3 RX7 (some .int) := ⟨hx, hb, hml, hown, hU, hr, hlk⟩
  rw [m_X7_fullestPlace] at hm
  refine lv_iconst (v := (-1)) hx hb dX7_fullestPlace_0 (by decide) ?_
  refine lv_istore_n (lv' := [(1, .int (-1)), (0, .ref a0)]) hx hb dX7_fullestPlace_1 rfl hl (by decide) rfl (fun ls hl => ?_)
  refine lv_iconst (v := 0) hx hb dX7_fullestPlace_2 (by decide) ?_
  refine lv_istore_n (lv' := [(2, .int 0), (1, .int (-1)), (0, .ref a0)]) hx hb dX7_fullestPlace_3 rfl hl (by decide) rfl (fun ls hl => ?_)
  exact wb_X7_fullestPlace_4 cx C X S0 n r S1 n a0 (-1) 0 S0 _ _ _ hw hE Ta0 (lv_sub hl [2, 1, 0] rfl) hm
abbrev rm_X7_isDearer : Room := { frames := 1, cells := 0, slots := 0, locals := 23 }
def m_X7_isDearer (n : Nat) (a0 : Nat) (x1 : Int32) (x2 : Int32) (S0 : pq_S) : Option (Int32 × pq_S) := Option.bind (pR S0 700 a0) fun q1 => Option.bind (pR S0 101 q1) fun q2 => cb (m_X9_at n q2 x1 3 S0) fun r5 S_3 => Option.bind (pR S_3 700 a0) fun q7 => Option.bind (pR S_3 101 q7) fun q8 => cb (m_X9_at n q8 x2 1 S_3) fun r11 S_9 => Option.bind (pR S_9 700 a0) fun q13 => Option.bind (pR S_9 101 q13) fun q14 => cb (m_X9_at n q14 x2 3 S_9) fun r17 S_15 => Option.bind (pR S_15 700 a0) fun q19 => Option.bind (pR S_15 101 q19) fun q20 => cb (m_X9_at n q20 x1 1 S_15) fun r23 S_21 => if (r5 * r11) ≤ (r17 * r23) then some (0, S_21) else some (1, S_21)
theorem tc_X7_isDearer : Cond.code yX7_isDearer cX7_isDearer 3 (some .boolean) ∈ pq_U := tw1448
theorem cd_X7_isDearer : yX7_isDearer.cls = RX7 ∧ yX7_isDearer.cls ≠ "java/lang/invoke/MethodHandle" ∧ yX7_isDearer.cls ≠ "java/lang/invoke/VarHandle" ∧ (parseMethodDescriptor yX7_isDearer.desc).map (fun d => d.parameters.length) = some 2 := by decide +kernel
set_option maxHeartbeats 4000000 in
set_option maxRecDepth 100000 in
theorem c_X7_isDearer (l : Launch) (C : pq_C) (X : va_W) (n : Nat) (S0 : pq_S) (hF : WF S0) (sz : Nat) (a0 : Nat) (x1 : Int32) (x2 : Int32) (Ta0 : TY S0 a0 7) (r : Int32) (S1 : pq_S) (hm : m_X7_isDearer n a0 x1 x2 S0 = some (r, S1)) : MZ l yX7_isDearer (.code yX7_isDearer cX7_isDearer 3 (some .boolean) :: pq_U) rm_X7_isDearer C X S0 sz [.ref a0, .int x1, .int x2] r S1 0 0 := by
  refine Met.ofW (cc := cX7_isDearer) (maxL := 3) (ret := (some .boolean)) (by decide) rfl ?_
  intro p e s m args below meth c s₁ B hml hv
  obtain ⟨rfl, hv⟩ := hv
  have hsz := hv.1
  subst hsz
  have hw := pw_entry hF hv
  have hts := atoms_spec (ws := .code yX7_isDearer cX7_isDearer 3 (some .boolean) :: pq_U) B.pre
  have hU : ∀ w ∈ pq_U, w.before _ s = true := fun w h => hts w (List.mem_cons_of_mem _ h)
  have hx := B.exec
  have hb := B.bytes
  have hr := B.returns
  have hown : s.vm.findClass RX7 = some m.cls := findClass_of_methodNamed B.named
  have hlk := B.notSynchronized
  have hl := lv_entry ([.ref a0, .int x1, .int x2]) (n := 3) (Nat.le_of_ble_eq_true rfl)
  rw [lg_entry_eq]
  generalize (lg_sl ([.ref a0, .int x1, .int x2]) ++ List.replicate (3 - (lg_sl ([.ref a0, .int x1, .int x2])).length) Slot.unset).toArray = ls at hl ⊢
  have hl : lv_has ls 3 [(0, .ref a0), (1, .int x1), (2, .int x2)] := hl
  have hE : Ext S0 S0 := Ext.rf _
  have cx : Cx p s m _ meth c cX7_isDearer 3 RX7 (some .boolean) := ⟨hx, hb, hml, hown, hU, hr, hlk⟩
  rw [m_X7_isDearer] at hm
  refine lv_aload_n hx hb dX7_isDearer_0 rfl (lv_at hl 0 rfl) ?_
  obtain ⟨q1, hq1, hm⟩ := bd_some hm
  have Tq1 : TY S0 q1 1 := hw.wf.ref (k := 7) (j := 0) Ta0 (by decide) (by decide) hq1
  refine pg_rb (k := 7) (j := 0) (f := 700) hx hb hown hU iu7 hw Ta0 (by decide) rfl (hU _ tw205) rfl hq1 dX7_isDearer_1 ?_
  obtain ⟨q2, hq2, hm⟩ := bd_some hm
  have Tq2 : TY S0 q2 9 := hw.wf.ref (k := 1) (j := 1) Tq1 (by decide) (by decide) hq2
  refine pgN_rb (k := 1) (j := 1) (f := 101) hx hb hown hU iu1 hw Tq1 (by decide) rfl 31 rfl rfl hq2 dX7_isDearer_4 ?_
  refine lv_iload_n hx hb dX7_isDearer_7 rfl (lv_at hl 1 rfl) ?_
  refine lv_iconst (v := 3) hx hb dX7_isDearer_8 (by decide) ?_
  obtain ⟨r5, S_3, hq4, hm⟩ := cb_some hm
  refine pw_ci (va_runVN (As := [.int x1, .int 3]) (rest := []) ⟨hx, hb, hml, hown, hU⟩ (c_X9_at l C X n S0 hw.wf _ q2 x1 3 (Tq2) r5 S_3 hq4) ⟨va_cnB (host := "WickNights") 2 hU (pq_g1 tc_X9_at) rfl rfl rfl (hw.nw 135 rfl) (hU _ tw5) cd_X9_at.2 ⟨Nat.le_of_ble_eq_true rfl, Nat.le_of_ble_eq_true rfl⟩, hU _ tw719, hU _ ts32⟩ (pw_preV hw Tq2 (by decide) rfl) rfl rfl hl.1 rfl (lv_room (Nat.le_of_ble_eq_true rfl)) dX7_isDearer_9 ⟨Nat.zero_le _, Nat.zero_le _⟩) hw (fun H locs hw hx6 => ?_)
  have Ta0 : TY S_3 a0 7 := ty_ext hx6 Ta0
  have hE : Ext S0 S_3 := Ext.tr hE hx6
  refine lv_aload_n hx hb dX7_isDearer_12 rfl (lv_at hl 0 rfl) ?_
  obtain ⟨q7, hq7, hm⟩ := bd_some hm
  have Tq7 : TY S_3 q7 1 := hw.wf.ref (k := 7) (j := 0) Ta0 (by decide) (by decide) hq7
  refine pg_rb (k := 7) (j := 0) (f := 700) hx hb hown hU iu7 hw Ta0 (by decide) rfl (hU _ tw205) rfl hq7 dX7_isDearer_13 ?_
  obtain ⟨q8, hq8, hm⟩ := bd_some hm
  have Tq8 : TY S_3 q8 9 := hw.wf.ref (k := 1) (j := 1) Tq7 (by decide) (by decide) hq8
  refine pgN_rb (k := 1) (j := 1) (f := 101) hx hb hown hU iu1 hw Tq7 (by decide) rfl 31 rfl rfl hq8 dX7_isDearer_16 ?_
  refine lv_iload_n hx hb dX7_isDearer_19 rfl (lv_at hl 2 rfl) ?_
  refine lv_iconst (v := 1) hx hb dX7_isDearer_20 (by decide) ?_
  obtain ⟨r11, S_9, hq10, hm⟩ := cb_some hm
  refine pw_ci (va_runVN (As := [.int x2, .int 1]) (rest := [.int r5]) ⟨hx, hb, hml, hown, hU⟩ (c_X9_at l C X n S_3 hw.wf _ q8 x2 1 (Tq8) r11 S_9 hq10) ⟨va_cnB (host := "WickNights") 2 hU (pq_g1 tc_X9_at) rfl rfl rfl (hw.nw 135 rfl) (hU _ tw5) cd_X9_at.2 ⟨Nat.le_of_ble_eq_true rfl, Nat.le_of_ble_eq_true rfl⟩, hU _ tw719, hU _ ts32⟩ (pw_preV hw Tq8 (by decide) rfl) rfl rfl hl.1 rfl (lv_room (Nat.le_of_ble_eq_true rfl)) dX7_isDearer_21 ⟨Nat.zero_le _, Nat.zero_le _⟩) hw (fun H locs hw hx12 => ?_)
  have Ta0 : TY S_9 a0 7 := ty_ext hx12 Ta0
  have hE : Ext S0 S_9 := Ext.tr hE hx12
  refine lv_imul hx hb dX7_isDearer_24 ?_
  refine lv_aload_n hx hb dX7_isDearer_25 rfl (lv_at hl 0 rfl) ?_
  obtain ⟨q13, hq13, hm⟩ := bd_some hm
  have Tq13 : TY S_9 q13 1 := hw.wf.ref (k := 7) (j := 0) Ta0 (by decide) (by decide) hq13
  refine pg_rb (k := 7) (j := 0) (f := 700) hx hb hown hU iu7 hw Ta0 (by decide) rfl (hU _ tw205) rfl hq13 dX7_isDearer_26 ?_
  obtain ⟨q14, hq14, hm⟩ := bd_some hm
  have Tq14 : TY S_9 q14 9 := hw.wf.ref (k := 1) (j := 1) Tq13 (by decide) (by decide) hq14
  refine pgN_rb (k := 1) (j := 1) (f := 101) hx hb hown hU iu1 hw Tq13 (by decide) rfl 31 rfl rfl hq14 dX7_isDearer_29 ?_
  refine lv_iload_n hx hb dX7_isDearer_32 rfl (lv_at hl 2 rfl) ?_
  refine lv_iconst (v := 3) hx hb dX7_isDearer_33 (by decide) ?_
  obtain ⟨r17, S_15, hq16, hm⟩ := cb_some hm
  refine pw_ci (va_runVN (As := [.int x2, .int 3]) (rest := [.int (r5 * r11)]) ⟨hx, hb, hml, hown, hU⟩ (c_X9_at l C X n S_9 hw.wf _ q14 x2 3 (Tq14) r17 S_15 hq16) ⟨va_cnB (host := "WickNights") 2 hU (pq_g1 tc_X9_at) rfl rfl rfl (hw.nw 135 rfl) (hU _ tw5) cd_X9_at.2 ⟨Nat.le_of_ble_eq_true rfl, Nat.le_of_ble_eq_true rfl⟩, hU _ tw719, hU _ ts32⟩ (pw_preV hw Tq14 (by decide) rfl) rfl rfl hl.1 rfl (lv_room (Nat.le_of_ble_eq_true rfl)) dX7_isDearer_34 ⟨Nat.zero_le _, Nat.zero_le _⟩) hw (fun H locs hw hx18 => ?_)
  have Ta0 : TY S_15 a0 7 := ty_ext hx18 Ta0
  have hE : Ext S0 S_15 := Ext.tr hE hx18
  refine lv_aload_n hx hb dX7_isDearer_37 rfl (lv_at hl 0 rfl) ?_
  obtain ⟨q19, hq19, hm⟩ := bd_some hm
  have Tq19 : TY S_15 q19 1 := hw.wf.ref (k := 7) (j := 0) Ta0 (by decide) (by decide) hq19
  refine pg_rb (k := 7) (j := 0) (f := 700) hx hb hown hU iu7 hw Ta0 (by decide) rfl (hU _ tw205) rfl hq19 dX7_isDearer_38 ?_
  obtain ⟨q20, hq20, hm⟩ := bd_some hm
  have Tq20 : TY S_15 q20 9 := hw.wf.ref (k := 1) (j := 1) Tq19 (by decide) (by decide) hq20
  refine pgN_rb (k := 1) (j := 1) (f := 101) hx hb hown hU iu1 hw Tq19 (by decide) rfl 31 rfl rfl hq20 dX7_isDearer_41 ?_
  refine lv_iload_n hx hb dX7_isDearer_44 rfl (lv_at hl 1 rfl) ?_
  refine lv_iconst (v := 1) hx hb dX7_isDearer_45 (by decide) ?_
  obtain ⟨r23, S_21, hq22, hm⟩ := cb_some hm
  refine pw_ci (va_runVN (As := [.int x1, .int 1]) (rest := [.int r17, .int (r5 * r11)]) ⟨hx, hb, hml, hown, hU⟩ (c_X9_at l C X n S_15 hw.wf _ q20 x1 1 (Tq20) r23 S_21 hq22) ⟨va_cnB (host := "WickNights") 2 hU (pq_g1 tc_X9_at) rfl rfl rfl (hw.nw 135 rfl) (hU _ tw5) cd_X9_at.2 ⟨Nat.le_of_ble_eq_true rfl, Nat.le_of_ble_eq_true rfl⟩, hU _ tw719, hU _ ts32⟩ (pw_preV hw Tq20 (by decide) rfl) rfl rfl hl.1 rfl (lv_room (Nat.le_of_ble_eq_true rfl)) dX7_isDearer_46 ⟨Nat.zero_le _, Nat.zero_le _⟩) hw (fun H locs hw hx24 => ?_)
  have Ta0 : TY S_21 a0 7 := ty_ext hx24 Ta0
  have hE : Ext S0 S_21 := Ext.tr hE hx24
  refine lv_imul hx hb dX7_isDearer_49 ?_
  refine lv_icmp_le (tgt := 57) hx hb dX7_isDearer_50 (by decide) (fun h25 => ?_) (fun h25 => ?_)
  · rw [if_pos h25] at hm
    refine lv_iconst (v := 0) hx hb dX7_isDearer_57 (by decide) ?_
    cases hm
    exact pw_zret hx hb hr bz_0 hlk hw hE dX7_isDearer_58
  · rw [if_neg h25] at hm
    refine lv_iconst (v := 1) hx hb dX7_isDearer_53 (by decide) ?_
    refine lv_goto (tgt := 58) hx hb dX7_isDearer_54 (by decide) ?_
    cases hm
    exact pw_zret hx hb hr bz_1 hlk hw hE dX7_isDearer_58
abbrev rm_X8_openWants : Room := { frames := 1, cells := 0, slots := 0, locals := 24 }
def b_X8_openWants_2 (n : Nat) : Nat → Nat → Int32 → pq_S → Option pq_S
  | 0, _, _, _ => none
  | f + 1, a0, x1, S => Option.bind (pR S 801 a0) fun q1 => if (pI S 902 q1) ≤ x1 then some S else Option.bind (pR S 801 a0) fun q3 => Option.bind (m_X9_put n q3 x1 0 1 S) fun S_4 => b_X8_openWants_2 n f a0 (x1 + 1) S_4
set_option maxHeartbeats 4000000 in
set_option maxRecDepth 100000 in
theorem wb_X8_openWants_2 {p : Program} {l : Launch} {e : Env} {s : State} {m : MethodId} {args : Array Value} {below : List Frame} {meth : Method} {c : Code} (cx : Cx p s m args meth c cX8_openWants 2 RX8 none) (C : pq_C) (X : va_W) (S0 : pq_S) (n : Nat) (S1 : pq_S) : ∀ (f : Nat) (a0 : Nat) (x1 : Int32) (S : pq_S) (H : Heap) (locs : List Loc) (ls : Array Slot), PW C X S (pq_F C X S0 s.heap.size) H locs s → Ext S0 S → TY S a0 8 → lv_has ls 2 [(0, .ref a0), (1, .int x1)] → b_X8_openWants_2 n f a0 x1 S = some S1 → W p l e rm_X8_openWants s m args below meth c H locs 0 0 (MQ below (QcV C X S0 s.heap.size S1) args s 0 0 (pq_F C X S0 s.heap.size)) (F0 m 2 ls []) := by
  obtain ⟨hx, hb, hml, hown, hU, hr, hlk⟩ := id cx
  intro f
  induction f with
  | zero =>
    intro a0 x1 S H locs ls hw hE Ta0 hl hm
    cases hm
  | succ f ih =>
    intro a0 x1 S H locs ls hw hE Ta0 hl hm
    rw [b_X8_openWants_2] at hm
    refine lv_iload_n hx hb dX8_openWants_2 rfl (lv_at hl 1 rfl) ?_
    refine lv_aload_n hx hb dX8_openWants_3 rfl (lv_at hl 0 rfl) ?_
    obtain ⟨q1, hq1, hm⟩ := bd_some hm
    have Tq1 : TY S q1 9 := hw.wf.ref (k := 8) (j := 1) Ta0 (by decide) (by decide) hq1
    refine pg_rb (k := 8) (j := 1) (f := 801) hx hb hown hU iu8 hw Ta0 (by decide) rfl (hU _ tw159) rfl hq1 dX8_openWants_4 ?_
    refine pgN_i (k := 9) (j := 2) (f := 902) hx hb hown hU iu9 hw Tq1 (by decide) rfl 13 rfl rfl dX8_openWants_7 ?_
    refine lv_icmp_ge (tgt := 29) hx hb dX8_openWants_10 (by decide) (fun h2 => ?_) (fun h2 => ?_)
    · rw [if_pos h2] at hm
      cases hm
      exact pw_vret hx hb hr hlk hw hE dX8_openWants_29
    · rw [if_neg h2] at hm
      refine lv_aload_n hx hb dX8_openWants_13 rfl (lv_at hl 0 rfl) ?_
      obtain ⟨q3, hq3, hm⟩ := bd_some hm
      have Tq3 : TY S q3 9 := hw.wf.ref (k := 8) (j := 1) Ta0 (by decide) (by decide) hq3
      refine pg_rb (k := 8) (j := 1) (f := 801) hx hb hown hU iu8 hw Ta0 (by decide) rfl (hU _ tw159) rfl hq3 dX8_openWants_14 ?_
      refine lv_iload_n hx hb dX8_openWants_17 rfl (lv_at hl 1 rfl) ?_
      refine lv_iconst (v := 0) hx hb dX8_openWants_18 (by decide) ?_
      refine lv_iconst (v := 1) hx hb dX8_openWants_19 (by decide) ?_
      obtain ⟨S_4, hq5, hm⟩ := bd_some hm
      refine pw_cv (va_runVN (As := [.int x1, .int 0, .int 1]) (rest := []) ⟨hx, hb, hml, hown, hU⟩ (c_X9_put l C X n S hw.wf _ q3 x1 0 1 (Tq3) S_4 hq5) ⟨va_cnB (host := "WickNights") 3 hU (pq_g1 tc_X9_put) rfl rfl rfl (hw.nw 110 rfl) (hU _ tw5) cd_X9_put.2 ⟨Nat.le_of_ble_eq_true rfl, Nat.le_of_ble_eq_true rfl⟩, hU _ tw673, hU _ ts23⟩ (pw_preV hw Tq3 (by decide) rfl) rfl rfl hl.1 rfl (lv_room (Nat.le_of_ble_eq_true rfl)) dX8_openWants_20 ⟨Nat.zero_le _, Nat.zero_le _⟩) hw (fun H locs hw hx6 => ?_)
      have Ta0 : TY S_4 a0 8 := ty_ext hx6 Ta0
      have hE : Ext S0 S_4 := Ext.tr hE hx6
      refine lv_iinc (v := (x1 + 1)) (lv' := [(1, .int (x1 + 1)), (0, .ref a0)]) hx hb dX8_openWants_23 hl (k := 1) rfl rfl (by decide) rfl (fun ls hl => ?_)
      refine lv_goto (tgt := 2) hx hb dX8_openWants_26 (by decide) ?_
      exact ih a0 (x1 + 1) S_4 _ _ _ hw hE Ta0 (lv_sub hl [1, 0] rfl) hm
def m_X8_openWants (n : Nat) (a0 : Nat) (S0 : pq_S) : Option pq_S := b_X8_openWants_2 n n a0 0 S0
theorem tc_X8_openWants : Cond.code yX8_openWants cX8_openWants 2 none ∈ pq_U := tw725
theorem cd_X8_openWants : yX8_openWants.cls = RX8 ∧ yX8_openWants.cls ≠ "java/lang/invoke/MethodHandle" ∧ yX8_openWants.cls ≠ "java/lang/invoke/VarHandle" ∧ (parseMethodDescriptor yX8_openWants.desc).map (fun d => d.parameters.length) = some 0 := by decide +kernel
set_option maxHeartbeats 4000000 in
set_option maxRecDepth 100000 in
theorem c_X8_openWants (l : Launch) (C : pq_C) (X : va_W) (n : Nat) (S0 : pq_S) (hF : WF S0) (sz : Nat) (a0 : Nat) (Ta0 : TY S0 a0 8) (S1 : pq_S) (hm : m_X8_openWants n a0 S0 = some S1) : MV l yX8_openWants (.code yX8_openWants cX8_openWants 2 none :: pq_U) rm_X8_openWants C X S0 sz [.ref a0] S1 0 0 := by
  refine Met.ofW (cc := cX8_openWants) (maxL := 2) (ret := none) (by decide) rfl ?_
  intro p e s m args below meth c s₁ B hml hv
  obtain ⟨rfl, hv⟩ := hv
  have hsz := hv.1
  subst hsz
  have hw := pw_entry hF hv
  have hts := atoms_spec (ws := .code yX8_openWants cX8_openWants 2 none :: pq_U) B.pre
  have hU : ∀ w ∈ pq_U, w.before _ s = true := fun w h => hts w (List.mem_cons_of_mem _ h)
  have hx := B.exec
  have hb := B.bytes
  have hr := B.returns
  have hown : s.vm.findClass RX8 = some m.cls := findClass_of_methodNamed B.named
  have hlk := B.notSynchronized
  have hl := lv_entry ([.ref a0]) (n := 2) (Nat.le_of_ble_eq_true rfl)
  rw [lg_entry_eq]
  generalize (lg_sl ([.ref a0]) ++ List.replicate (2 - (lg_sl ([.ref a0])).length) Slot.unset).toArray = ls at hl ⊢
  have hl : lv_has ls 2 [(0, .ref a0)] := hl
  have hE : Ext S0 S0 := Ext.rf _
  have cx : Cx p s m _ meth c cX8_openWants 2 RX8 none := ⟨hx, hb, hml, hown, hU, hr, hlk⟩
  rw [m_X8_openWants] at hm
  refine lv_iconst (v := 0) hx hb dX8_openWants_0 (by decide) ?_
  refine lv_istore_n (lv' := [(1, .int 0), (0, .ref a0)]) hx hb dX8_openWants_1 rfl hl (by decide) rfl (fun ls hl => ?_)
  exact wb_X8_openWants_2 cx C X S0 n S1 n a0 0 S0 _ _ _ hw hE Ta0 (lv_sub hl [1, 0] rfl) hm
abbrev rm_X8_bring : Room := { frames := 1, cells := 0, slots := 0, locals := 40 }
def m_X8_bring (n : Nat) (a0 : Nat) (x1 : Int32) (x2 : Int32) (x3 : Int32) (S0 : pq_S) : Option pq_S := Option.bind (pR S0 800 a0) fun q1 => Option.bind (pR S0 800 a0) fun q2 => cb (m_X9_at n q2 x1 x2 S0) fun r5 S_3 => Option.bind (m_X9_put n q1 x1 x2 (if 999 < (r5 + x3) then 999 else (r5 + x3)) S_3) fun S_7 => some S_7
theorem tc_X8_bring : Cond.code yX8_bring cX8_bring 4 none ∈ pq_U := tw898
theorem cd_X8_bring : yX8_bring.cls = RX8 ∧ yX8_bring.cls ≠ "java/lang/invoke/MethodHandle" ∧ yX8_bring.cls ≠ "java/lang/invoke/VarHandle" ∧ (parseMethodDescriptor yX8_bring.desc).map (fun d => d.parameters.length) = some 3 := by decide +kernel
set_option maxHeartbeats 4000000 in
set_option maxRecDepth 100000 in
theorem c_X8_bring (l : Launch) (C : pq_C) (X : va_W) (n : Nat) (S0 : pq_S) (hF : WF S0) (sz : Nat) (a0 : Nat) (x1 : Int32) (x2 : Int32) (x3 : Int32) (Ta0 : TY S0 a0 8) (S1 : pq_S) (hm : m_X8_bring n a0 x1 x2 x3 S0 = some S1) : MV l yX8_bring (.code yX8_bring cX8_bring 4 none :: pq_U) rm_X8_bring C X S0 sz [.ref a0, .int x1, .int x2, .int x3] S1 0 0 := by
  refine Met.ofW (cc := cX8_bring) (maxL := 4) (ret := none) (by decide) rfl ?_
  intro p e s m args below meth c s₁ B hml hv
  obtain ⟨rfl, hv⟩ := hv
  have hsz := hv.1
  subst hsz
  have hw := pw_entry hF hv
  have hts := atoms_spec (ws := .code yX8_bring cX8_bring 4 none :: pq_U) B.pre
  have hU : ∀ w ∈ pq_U, w.before _ s = true := fun w h => hts w (List.mem_cons_of_mem _ h)
  have hx := B.exec
  have hb := B.bytes
  have hr := B.returns
  have hown : s.vm.findClass RX8 = some m.cls := findClass_of_methodNamed B.named
  have hlk := B.notSynchronized
  have hl := lv_entry ([.ref a0, .int x1, .int x2, .int x3]) (n := 4) (Nat.le_of_ble_eq_true rfl)
  rw [lg_entry_eq]
  generalize (lg_sl ([.ref a0, .int x1, .int x2, .int x3]) ++ List.replicate (4 - (lg_sl ([.ref a0, .int x1, .int x2, .int x3])).length) Slot.unset).toArray = ls at hl ⊢
  have hl : lv_has ls 4 [(0, .ref a0), (1, .int x1), (2, .int x2), (3, .int x3)] := hl
  have hE : Ext S0 S0 := Ext.rf _
  have cx : Cx p s m _ meth c cX8_bring 4 RX8 none := ⟨hx, hb, hml, hown, hU, hr, hlk⟩
  rw [m_X8_bring] at hm
  refine lv_aload_n hx hb dX8_bring_0 rfl (lv_at hl 0 rfl) ?_
  obtain ⟨q1, hq1, hm⟩ := bd_some hm
  have Tq1 : TY S0 q1 9 := hw.wf.ref (k := 8) (j := 0) Ta0 (by decide) (by decide) hq1
  refine pg_rb (k := 8) (j := 0) (f := 800) hx hb hown hU iu8 hw Ta0 (by decide) rfl (hU _ tw155) rfl hq1 dX8_bring_1 ?_
  refine lv_iload_n hx hb dX8_bring_4 rfl (lv_at hl 1 rfl) ?_
  refine lv_iload_n hx hb dX8_bring_5 rfl (lv_at hl 2 rfl) ?_
  refine lv_aload_n hx hb dX8_bring_6 rfl (lv_at hl 0 rfl) ?_
  obtain ⟨q2, hq2, hm⟩ := bd_some hm
  have Tq2 : TY S0 q2 9 := hw.wf.ref (k := 8) (j := 0) Ta0 (by decide) (by decide) hq2
  refine pg_rb (k := 8) (j := 0) (f := 800) hx hb hown hU iu8 hw Ta0 (by decide) rfl (hU _ tw155) rfl hq2 dX8_bring_7 ?_
  refine lv_iload_n hx hb dX8_bring_10 rfl (lv_at hl 1 rfl) ?_
  refine lv_iload_n hx hb dX8_bring_11 rfl (lv_at hl 2 rfl) ?_
  obtain ⟨r5, S_3, hq4, hm⟩ := cb_some hm
  refine pw_ci (va_runVN (As := [.int x1, .int x2]) (rest := [.int x2, .int x1, .ref q1]) ⟨hx, hb, hml, hown, hU⟩ (c_X9_at l C X n S0 hw.wf _ q2 x1 x2 (Tq2) r5 S_3 hq4) ⟨va_cnB (host := "WickNights") 2 hU (pq_g1 tc_X9_at) rfl rfl rfl (hw.nw 109 rfl) (hU _ tw5) cd_X9_at.2 ⟨Nat.le_of_ble_eq_true rfl, Nat.le_of_ble_eq_true rfl⟩, hU _ tw719, hU _ ts32⟩ (pw_preV hw Tq2 (by decide) rfl) rfl rfl hl.1 rfl (lv_room (Nat.le_of_ble_eq_true rfl)) dX8_bring_12 ⟨Nat.zero_le _, Nat.zero_le _⟩) hw (fun H locs hw hx6 => ?_)
  have Tq1 : TY S_3 q1 9 := ty_ext hx6 Tq1
  have Ta0 : TY S_3 a0 8 := ty_ext hx6 Ta0
  have hE : Ext S0 S_3 := Ext.tr hE hx6
  refine lv_iload_n hx hb dX8_bring_15 rfl (lv_at hl 3 rfl) ?_
  refine lv_iadd hx hb dX8_bring_16 ?_
  refine lv_sipush (v := 999) hx hb dX8_bring_17 (by decide) ?_
  refine va_mmin hx hb (by rw [hml]; exact hl.1.symm) hown (hU _ tw899) (hU _ twm_min_s) (hU _ twm_i) (hU _ twm_min_c) (Nat.le_of_ble_eq_true rfl) (Nat.le_of_ble_eq_true rfl) (Nat.zero_le _) (Nat.zero_le _) dX8_bring_20 ?_
  obtain ⟨S_7, hq8, hm⟩ := bd_some hm
  refine pw_cv (va_runVN (As := [.int x1, .int x2, .int (if 999 < (r5 + x3) then 999 else (r5 + x3))]) (rest := []) ⟨hx, hb, hml, hown, hU⟩ (c_X9_put l C X n S_3 hw.wf _ q1 x1 x2 (if 999 < (r5 + x3) then 999 else (r5 + x3)) (Tq1) S_7 hq8) ⟨va_cnB (host := "WickNights") 3 hU (pq_g1 tc_X9_put) rfl rfl rfl (hw.nw 110 rfl) (hU _ tw5) cd_X9_put.2 ⟨Nat.le_of_ble_eq_true rfl, Nat.le_of_ble_eq_true rfl⟩, hU _ tw673, hU _ ts23⟩ (pw_preV hw Tq1 (by decide) rfl) rfl rfl hl.1 rfl (lv_room (Nat.le_of_ble_eq_true rfl)) dX8_bring_23 ⟨Nat.zero_le _, Nat.zero_le _⟩) hw (fun H locs hw hx9 => ?_)
  have Ta0 : TY S_7 a0 8 := ty_ext hx9 Ta0
  have hE : Ext S0 S_7 := Ext.tr hE hx9
  cases hm
  exact pw_vret hx hb hr hlk hw hE dX8_bring_26
abbrev rm_X8_copyFrom : Room := { frames := 2, cells := 0, slots := 0, locals := 101 }
def m_X8_copyFrom (n : Nat) (a0 : Nat) (a1 : Nat) (S0 : pq_S) : Option pq_S := Option.bind (pR S0 800 a0) fun q1 => Option.bind (pR S0 800 a1) fun q2 => Option.bind (m_X9_copyFrom n q1 q2 S0) fun S_3 => Option.bind (pR S_3 801 a0) fun q6 => Option.bind (pR S_3 801 a1) fun q7 => Option.bind (m_X9_copyFrom n q6 q7 S_3) fun S_8 => Option.bind (pR S_8 802 a0) fun q11 => Option.bind (pR S_8 802 a1) fun q12 => Option.bind (m_X9_copyFrom n q11 q12 S_8) fun S_13 => lt_ (sI (sI S_13 803 a0 (pI S_13 803 a1)) 804 a0 (pI (sI S_13 803 a0 (pI S_13 803 a1)) 804 a1)) fun S_16 => some S_16
theorem tc_X8_copyFrom : Cond.code yX8_copyFrom cX8_copyFrom 2 none ∈ pq_U := tw438
theorem cd_X8_copyFrom : yX8_copyFrom.cls = RX8 ∧ yX8_copyFrom.cls ≠ "java/lang/invoke/MethodHandle" ∧ yX8_copyFrom.cls ≠ "java/lang/invoke/VarHandle" ∧ (parseMethodDescriptor yX8_copyFrom.desc).map (fun d => d.parameters.length) = some 1 := by decide +kernel
set_option maxHeartbeats 4000000 in
set_option maxRecDepth 100000 in
theorem c_X8_copyFrom (l : Launch) (C : pq_C) (X : va_W) (n : Nat) (S0 : pq_S) (hF : WF S0) (sz : Nat) (a0 : Nat) (a1 : Nat) (Ta0 : TY S0 a0 8) (Ta1 : TY S0 a1 8) (S1 : pq_S) (hm : m_X8_copyFrom n a0 a1 S0 = some S1) : MV l yX8_copyFrom (.code yX8_copyFrom cX8_copyFrom 2 none :: pq_U) rm_X8_copyFrom C X S0 sz [.ref a0, .ref a1] S1 0 0 := by
  refine Met.ofW (cc := cX8_copyFrom) (maxL := 2) (ret := none) (by decide) rfl ?_
  intro p e s m args below meth c s₁ B hml hv
  obtain ⟨rfl, hv⟩ := hv
  have hsz := hv.1
  subst hsz
  have hw := pw_entry hF hv
  have hts := atoms_spec (ws := .code yX8_copyFrom cX8_copyFrom 2 none :: pq_U) B.pre
  have hU : ∀ w ∈ pq_U, w.before _ s = true := fun w h => hts w (List.mem_cons_of_mem _ h)
  have hx := B.exec
  have hb := B.bytes
  have hr := B.returns
  have hown : s.vm.findClass RX8 = some m.cls := findClass_of_methodNamed B.named
  have hlk := B.notSynchronized
  have hl := lv_entry ([.ref a0, .ref a1]) (n := 2) (Nat.le_of_ble_eq_true rfl)
  rw [lg_entry_eq]
  generalize (lg_sl ([.ref a0, .ref a1]) ++ List.replicate (2 - (lg_sl ([.ref a0, .ref a1])).length) Slot.unset).toArray = ls at hl ⊢
  have hl : lv_has ls 2 [(0, .ref a0), (1, .ref a1)] := hl
  have hE : Ext S0 S0 := Ext.rf _
  have cx : Cx p s m _ meth c cX8_copyFrom 2 RX8 none := ⟨hx, hb, hml, hown, hU, hr, hlk⟩
  rw [m_X8_copyFrom] at hm
  refine lv_aload_n hx hb dX8_copyFrom_0 rfl (lv_at hl 0 rfl) ?_
  obtain ⟨q1, hq1, hm⟩ := bd_some hm
  have Tq1 : TY S0 q1 9 := hw.wf.ref (k := 8) (j := 0) Ta0 (by decide) (by decide) hq1
  refine pg_rb (k := 8) (j := 0) (f := 800) hx hb hown hU iu8 hw Ta0 (by decide) rfl (hU _ tw155) rfl hq1 dX8_copyFrom_1 ?_
  refine lv_aload_n hx hb dX8_copyFrom_4 rfl (lv_at hl 1 rfl) ?_
  obtain ⟨q2, hq2, hm⟩ := bd_some hm
  have Tq2 : TY S0 q2 9 := hw.wf.ref (k := 8) (j := 0) Ta1 (by decide) (by decide) hq2
  refine pg_rb (k := 8) (j := 0) (f := 800) hx hb hown hU iu8 hw Ta1 (by decide) rfl (hU _ tw155) rfl hq2 dX8_copyFrom_5 ?_
  obtain ⟨S_3, hq4, hm⟩ := bd_some hm
  refine pw_cv (va_runVN (As := [.ref q2]) (rest := []) ⟨hx, hb, hml, hown, hU⟩ (c_X9_copyFrom l C X n S0 hw.wf _ q1 q2 (Tq1) (Tq2) S_3 hq4) ⟨va_cnB (host := "WickNights") 1 hU (pq_g1 tc_X9_copyFrom) rfl rfl rfl (hw.nw 86 rfl) (hU _ tw5) cd_X9_copyFrom.2 ⟨Nat.le_of_ble_eq_true rfl, Nat.le_of_ble_eq_true rfl⟩, hU _ tw441, hU _ ts3⟩ (pw_preV hw Tq1 (by decide) rfl) rfl rfl hl.1 rfl (lv_room (Nat.le_of_ble_eq_true rfl)) dX8_copyFrom_8 ⟨Nat.zero_le _, Nat.zero_le _⟩) hw (fun H locs hw hx5 => ?_)
  have Ta0 : TY S_3 a0 8 := ty_ext hx5 Ta0
  have Ta1 : TY S_3 a1 8 := ty_ext hx5 Ta1
  have hE : Ext S0 S_3 := Ext.tr hE hx5
  refine lv_aload_n hx hb dX8_copyFrom_11 rfl (lv_at hl 0 rfl) ?_
  obtain ⟨q6, hq6, hm⟩ := bd_some hm
  have Tq6 : TY S_3 q6 9 := hw.wf.ref (k := 8) (j := 1) Ta0 (by decide) (by decide) hq6
  refine pg_rb (k := 8) (j := 1) (f := 801) hx hb hown hU iu8 hw Ta0 (by decide) rfl (hU _ tw159) rfl hq6 dX8_copyFrom_12 ?_
  refine lv_aload_n hx hb dX8_copyFrom_15 rfl (lv_at hl 1 rfl) ?_
  obtain ⟨q7, hq7, hm⟩ := bd_some hm
  have Tq7 : TY S_3 q7 9 := hw.wf.ref (k := 8) (j := 1) Ta1 (by decide) (by decide) hq7
  refine pg_rb (k := 8) (j := 1) (f := 801) hx hb hown hU iu8 hw Ta1 (by decide) rfl (hU _ tw159) rfl hq7 dX8_copyFrom_16 ?_
  obtain ⟨S_8, hq9, hm⟩ := bd_some hm
  refine pw_cv (va_runVN (As := [.ref q7]) (rest := []) ⟨hx, hb, hml, hown, hU⟩ (c_X9_copyFrom l C X n S_3 hw.wf _ q6 q7 (Tq6) (Tq7) S_8 hq9) ⟨va_cnB (host := "WickNights") 1 hU (pq_g1 tc_X9_copyFrom) rfl rfl rfl (hw.nw 86 rfl) (hU _ tw5) cd_X9_copyFrom.2 ⟨Nat.le_of_ble_eq_true rfl, Nat.le_of_ble_eq_true rfl⟩, hU _ tw441, hU _ ts3⟩ (pw_preV hw Tq6 (by decide) rfl) rfl rfl hl.1 rfl (lv_room (Nat.le_of_ble_eq_true rfl)) dX8_copyFrom_19 ⟨Nat.zero_le _, Nat.zero_le _⟩) hw (fun H locs hw hx10 => ?_)
  have Ta0 : TY S_8 a0 8 := ty_ext hx10 Ta0
  have Ta1 : TY S_8 a1 8 := ty_ext hx10 Ta1
  have hE : Ext S0 S_8 := Ext.tr hE hx10
  refine lv_aload_n hx hb dX8_copyFrom_22 rfl (lv_at hl 0 rfl) ?_
  obtain ⟨q11, hq11, hm⟩ := bd_some hm
  have Tq11 : TY S_8 q11 9 := hw.wf.ref (k := 8) (j := 2) Ta0 (by decide) (by decide) hq11
  refine pg_rb (k := 8) (j := 2) (f := 802) hx hb hown hU iu8 hw Ta0 (by decide) rfl (hU _ tw162) rfl hq11 dX8_copyFrom_23 ?_
  refine lv_aload_n hx hb dX8_copyFrom_26 rfl (lv_at hl 1 rfl) ?_
  obtain ⟨q12, hq12, hm⟩ := bd_some hm
  have Tq12 : TY S_8 q12 9 := hw.wf.ref (k := 8) (j := 2) Ta1 (by decide) (by decide) hq12
  refine pg_rb (k := 8) (j := 2) (f := 802) hx hb hown hU iu8 hw Ta1 (by decide) rfl (hU _ tw162) rfl hq12 dX8_copyFrom_27 ?_
  obtain ⟨S_13, hq14, hm⟩ := bd_some hm
  refine pw_cv (va_runVN (As := [.ref q12]) (rest := []) ⟨hx, hb, hml, hown, hU⟩ (c_X9_copyFrom l C X n S_8 hw.wf _ q11 q12 (Tq11) (Tq12) S_13 hq14) ⟨va_cnB (host := "WickNights") 1 hU (pq_g1 tc_X9_copyFrom) rfl rfl rfl (hw.nw 86 rfl) (hU _ tw5) cd_X9_copyFrom.2 ⟨Nat.le_of_ble_eq_true rfl, Nat.le_of_ble_eq_true rfl⟩, hU _ tw441, hU _ ts3⟩ (pw_preV hw Tq11 (by decide) rfl) rfl rfl hl.1 rfl (lv_room (Nat.le_of_ble_eq_true rfl)) dX8_copyFrom_30 ⟨Nat.zero_le _, Nat.zero_le _⟩) hw (fun H locs hw hx15 => ?_)
  have Ta0 : TY S_13 a0 8 := ty_ext hx15 Ta0
  have Ta1 : TY S_13 a1 8 := ty_ext hx15 Ta1
  have hE : Ext S0 S_13 := Ext.tr hE hx15
  refine lv_aload_n hx hb dX8_copyFrom_33 rfl (lv_at hl 0 rfl) ?_
  refine lv_aload_n hx hb dX8_copyFrom_34 rfl (lv_at hl 1 rfl) ?_
  refine pg_i (k := 8) (j := 3) (f := 803) hx hb hown hU iu8 hw Ta1 (by decide) rfl (hU _ tw165) rfl dX8_copyFrom_35 ?_
  refine pp_i (k := 8) (j := 3) (f := 803) hx hb hown hU iu8 tyX8_ok nmX8 hw Ta0 (by decide) rfl (hU _ tw165) rfl rfl rfl dX8_copyFrom_38 (fun H locs hw => ?_)
  refine lv_aload_n hx hb dX8_copyFrom_41 rfl (lv_at hl 0 rfl) ?_
  refine lv_aload_n hx hb dX8_copyFrom_42 rfl (lv_at hl 1 rfl) ?_
  refine pg_i (k := 8) (j := 4) (f := 804) hx hb hown hU iu8 hw Ta1 (by decide) rfl (hU _ tw168) rfl dX8_copyFrom_43 ?_
  refine pp_i (k := 8) (j := 4) (f := 804) hx hb hown hU iu8 tyX8_ok nmX8 hw Ta0 (by decide) rfl (hU _ tw168) rfl rfl rfl dX8_copyFrom_46 (fun H locs hw => ?_)
  obtain ⟨S_16, eS_16, hm⟩ := lt_some hm
  rw [← eS_16] at hw
  have Ta0 : TY S_16 a0 8 := by rw [eS_16]; exact Ta0
  have Ta1 : TY S_16 a1 8 := by rw [eS_16]; exact Ta1
  have hE : Ext S0 S_16 := by rw [eS_16]; exact hE
  cases hm
  exact pw_vret hx hb hr hlk hw hE dX8_copyFrom_49
abbrev rmg_tryW (d : Nat) : Room := { frames := 2 + d, cells := 0, slots := 0, locals := 45 + d * 28 }
theorem rmg_tryW_l (d : Nat) {q : Nat} (h : q ≤ 9) : 8 + (q + 11) + (rmg_tryW d).locals ≤ (rmg_tryW (d + 1)).locals := by show 8 + (q + 11) + (45 + d * 28) ≤ 45 + (d + 1) * 28; omega
theorem tc_X3_tryWants : Cond.code yX3_tryWants cX3_tryWants 9 none ∈ pq_U := tw1099
theorem cd_X3_tryWants : yX3_tryWants.cls = RX3 ∧ yX3_tryWants.cls ≠ "java/lang/invoke/MethodHandle" ∧ yX3_tryWants.cls ≠ "java/lang/invoke/VarHandle" ∧ (parseMethodDescriptor yX3_tryWants.desc).map (fun d => d.parameters.length) = some 6 := by decide +kernel
def HG_tryW (n d : Nat) (rec : (Nat → Int32 → Int32 → Nat → Int32 → Int32 → Int32 → pq_S → Option pq_S)) : Prop := (∀ (l : Launch) (C : pq_C) (X : va_W) (S0 : pq_S) (_ : WF S0) (sz : Nat) (a0 : Nat) (x1 : Int32) (x2 : Int32) (a3 : Nat) (x4 : Int32) (x5 : Int32) (x6 : Int32) (_Ta0 : TY S0 a0 3) (_Ta3 : TY S0 a3 14) (S1 : pq_S), rec a0 x1 x2 a3 x4 x5 x6 S0 = some S1 → MV l yX3_tryWants (.code yX3_tryWants cX3_tryWants 9 none :: pq_U) (rmg_tryW d) C X S0 sz [.ref a0, .int x1, .int x2, .ref a3, .int x4, .int x5, .int x6] S1 0 0)
def g_X3_tryWants (n : Nat) (rec : (Nat → Int32 → Int32 → Nat → Int32 → Int32 → Int32 → pq_S → Option pq_S)) (a0 : Nat) (x1 : Int32) (x2 : Int32) (a3 : Nat) (x4 : Int32) (x5 : Int32) (x6 : Int32) (S0 : pq_S) : Option pq_S := Option.bind (pR S0 300 a0) fun q1 => Option.bind (pR S0 700 q1) fun q2 => Option.bind (pR S0 101 q2) fun q3 => if x2 < (pI S0 902 q3) then Option.bind (rec a0 x1 (x2 + (1 : Int32)) a3 x4 x5 x6 S0) fun S_5 => Option.bind (pR S_5 300 a0) fun q8 => cb (m_X7_isOpenAt n q8 x2 x1 S_5) fun r11 S_9 => if r11 = 0 then some S_9 else Option.bind (pR S_9 300 a0) fun q15 => Option.bind (pR S_9 700 q15) fun q16 => Option.bind (pR S_9 101 q16) fun q17 => cb (m_X9_at n q17 x2 1 S_9) fun r20 S_18 => Option.bind (pR S_18 300 a0) fun q22 => Option.bind (pR S_18 700 q22) fun q23 => Option.bind (pR S_18 101 q23) fun q24 => cb (m_X9_at n q24 x2 3 S_18) fun r27 S_25 => Option.bind (pR S_25 300 a0) fun q29 => Option.bind (pR S_25 700 q29) fun q30 => Option.bind (pR S_25 101 q30) fun q31 => cb (m_X9_at n q31 x2 2 S_25) fun r34 S_32 => Option.bind (rec a0 x1 (x2 + (1 : Int32)) a3 (x4 + (r20 * r34)) (x5 + r20) ((x6 + (r27 * (4096 : Int32))) - ((1 : Int32) <<< (x2 &&& (31 : Int32)))) S_32) fun S_36 => some S_36 else if (if x4 < x5 then x5 else x4) < 0 then some S0 else if (Int32.ofNat (pN S0 a3)) ≤ (if x4 < x5 then x5 else x4) then some S0 else ck (ix (if x4 < x5 then x5 else x4) (pN S0 a3)) (dix _ _) (ck (ix (if x4 < x5 then x5 else x4) (pN S0 a3)) (dix _ _) (lt_ (sA S0 a3 (Int32.toNatClampNeg (if x4 < x5 then x5 else x4)) (if (pA S0 a3 (Int32.toNatClampNeg (if x4 < x5 then x5 else x4))) < x6 then x6 else (pA S0 a3 (Int32.toNatClampNeg (if x4 < x5 then x5 else x4))))) fun S_43 => some S_43))
set_option maxHeartbeats 4000000 in
set_option maxRecDepth 100000 in
theorem cg_X3_tryWants (n d : Nat) (rec : (Nat → Int32 → Int32 → Nat → Int32 → Int32 → Int32 → pq_S → Option pq_S)) (hrec : HG_tryW n d rec) (l : Launch) (C : pq_C) (X : va_W) (S0 : pq_S) (hF : WF S0) (sz : Nat) (a0 : Nat) (x1 : Int32) (x2 : Int32) (a3 : Nat) (x4 : Int32) (x5 : Int32) (x6 : Int32) (Ta0 : TY S0 a0 3) (Ta3 : TY S0 a3 14) (S1 : pq_S) (hm : g_X3_tryWants n rec a0 x1 x2 a3 x4 x5 x6 S0 = some S1) : MV l yX3_tryWants (.code yX3_tryWants cX3_tryWants 9 none :: pq_U) (rmg_tryW (d + 1)) C X S0 sz [.ref a0, .int x1, .int x2, .ref a3, .int x4, .int x5, .int x6] S1 0 0 := by
  refine Met.ofW (cc := cX3_tryWants) (maxL := 9) (ret := none) (by decide) rfl ?_
  intro p e s m args below meth c s₁ B hml hv
  obtain ⟨rfl, hv⟩ := hv
  have hsz := hv.1
  subst hsz
  have hw := pw_entry hF hv
  have hts := atoms_spec (ws := .code yX3_tryWants cX3_tryWants 9 none :: pq_U) B.pre
  have hU : ∀ w ∈ pq_U, w.before _ s = true := fun w h => hts w (List.mem_cons_of_mem _ h)
  have hx := B.exec
  have hb := B.bytes
  have hr := B.returns
  have hown : s.vm.findClass RX3 = some m.cls := findClass_of_methodNamed B.named
  have hlk := B.notSynchronized
  have hl := lv_entry ([.ref a0, .int x1, .int x2, .ref a3, .int x4, .int x5, .int x6]) (n := 9) (Nat.le_of_ble_eq_true rfl)
  rw [lg_entry_eq]
  generalize (lg_sl ([.ref a0, .int x1, .int x2, .ref a3, .int x4, .int x5, .int x6]) ++ List.replicate (9 - (lg_sl ([.ref a0, .int x1, .int x2, .ref a3, .int x4, .int x5, .int x6])).length) Slot.unset).toArray = ls at hl ⊢
  have hl : lv_has ls 9 [(0, .ref a0), (1, .int x1), (2, .int x2), (3, .ref a3), (4, .int x4), (5, .int x5), (6, .int x6)] := hl
  have hE : Ext S0 S0 := Ext.rf _
  have cx : Cx p s m _ meth c cX3_tryWants 9 RX3 none := ⟨hx, hb, hml, hown, hU, hr, hlk⟩
  rw [g_X3_tryWants] at hm
  refine lv_iload_n hx hb dX3_tryWants_0 rfl (lv_at hl 2 rfl) ?_
  refine lv_aload_n hx hb dX3_tryWants_1 rfl (lv_at hl 0 rfl) ?_
  obtain ⟨q1, hq1, hm⟩ := bd_some hm
  have Tq1 : TY S0 q1 7 := hw.wf.ref (k := 3) (j := 0) Ta0 (by decide) (by decide) hq1
  refine pg_rb (k := 3) (j := 0) (f := 300) hx hb hown hU iu3 hw Ta0 (by decide) rfl (hU _ tw239) rfl hq1 dX3_tryWants_2 ?_
  obtain ⟨q2, hq2, hm⟩ := bd_some hm
  have Tq2 : TY S0 q2 1 := hw.wf.ref (k := 7) (j := 0) Tq1 (by decide) (by decide) hq2
  refine pgN_rb (k := 7) (j := 0) (f := 700) hx hb hown hU iu7 hw Tq1 (by decide) rfl 57 rfl rfl hq2 dX3_tryWants_5 ?_
  obtain ⟨q3, hq3, hm⟩ := bd_some hm
  have Tq3 : TY S0 q3 9 := hw.wf.ref (k := 1) (j := 1) Tq2 (by decide) (by decide) hq3
  refine pgN_rb (k := 1) (j := 1) (f := 101) hx hb hown hU iu1 hw Tq2 (by decide) rfl 30 rfl rfl hq3 dX3_tryWants_8 ?_
  refine pgN_i (k := 9) (j := 2) (f := 902) hx hb hown hU iu9 hw Tq3 (by decide) rfl 17 rfl rfl dX3_tryWants_11 ?_
  refine lv_icmp_lt (tgt := 52) hx hb dX3_tryWants_14 (by decide) (fun h4 => ?_) (fun h4 => ?_)
  · rw [if_pos h4] at hm
    refine lv_aload_n hx hb dX3_tryWants_52 rfl (lv_at hl 0 rfl) ?_
    refine lv_iload_n hx hb dX3_tryWants_53 rfl (lv_at hl 1 rfl) ?_
    refine lv_iload_n hx hb dX3_tryWants_54 rfl (lv_at hl 2 rfl) ?_
    refine lv_iconst (v := 1) hx hb dX3_tryWants_55 (by decide) ?_
    refine lv_iadd hx hb dX3_tryWants_56 ?_
    refine lv_aload_n hx hb dX3_tryWants_57 rfl (lv_at hl 3 rfl) ?_
    refine lv_iload hx hb dX3_tryWants_58 (lv_at hl 4 rfl) ?_
    refine lv_iload hx hb dX3_tryWants_60 (lv_at hl 5 rfl) ?_
    refine lv_iload hx hb dX3_tryWants_62 (lv_at hl 6 rfl) ?_
    obtain ⟨S_5, hq6, hm⟩ := bd_some hm
    refine pw_cv (va_runV (As := [.int x1, .int (x2 + (1 : Int32)), .ref a3, .int x4, .int x5, .int x6]) (rest := []) ⟨hx, hb, hml, hown, hU⟩ (hrec l C X S0 hw.wf _ a0 x1 (x2 + (1 : Int32)) a3 x4 x5 x6 (Ta0) (Ta3) S_5 hq6) (cwV 6 hU (pq_gV tw1096 tw1098 ts85 tw8 tc_X3_tryWants) rfl rfl rfl cd_X3_tryWants ⟨Nat.le_refl _, rmg_tryW_l d (by decide)⟩) (pw_preV hw Ta0 (by decide) rfl) rfl rfl hl.1 rfl (lv_room (Nat.le_of_ble_eq_true rfl)) dX3_tryWants_64 ⟨Nat.zero_le _, Nat.zero_le _⟩) hw (fun H locs hw hx7 => ?_)
    have Ta0 : TY S_5 a0 3 := ty_ext hx7 Ta0
    have Ta3 : TY S_5 a3 14 := ty_ext hx7 Ta3
    have hE : Ext S0 S_5 := Ext.tr hE hx7
    refine lv_aload_n hx hb dX3_tryWants_67 rfl (lv_at hl 0 rfl) ?_
    obtain ⟨q8, hq8, hm⟩ := bd_some hm
    have Tq8 : TY S_5 q8 7 := hw.wf.ref (k := 3) (j := 0) Ta0 (by decide) (by decide) hq8
    refine pg_rb (k := 3) (j := 0) (f := 300) hx hb hown hU iu3 hw Ta0 (by decide) rfl (hU _ tw239) rfl hq8 dX3_tryWants_68 ?_
    refine lv_iload_n hx hb dX3_tryWants_71 rfl (lv_at hl 2 rfl) ?_
    refine lv_iload_n hx hb dX3_tryWants_72 rfl (lv_at hl 1 rfl) ?_
    obtain ⟨r11, S_9, hq10, hm⟩ := cb_some hm
    refine pw_cz (va_runVN (As := [.int x2, .int x1]) (rest := []) ⟨hx, hb, hml, hown, hU⟩ (c_X7_isOpenAt l C X n S_5 hw.wf _ q8 x2 x1 (Tq8) r11 S_9 hq10) ⟨va_cnB (host := "WickNights") 2 hU (pq_g1 tc_X7_isOpenAt) rfl rfl rfl (hw.nw 165 rfl) (hU _ tw3) cd_X7_isOpenAt.2 ⟨Nat.le_trans (Nat.le_of_ble_eq_true rfl) (Nat.le_add_right _ _), Nat.le_trans (Nat.le_of_ble_eq_true rfl) (Nat.le_add_right _ _)⟩, hU _ tw1030, hU _ ts80⟩ (pw_preV hw Tq8 (by decide) rfl) rfl rfl hl.1 rfl (lv_room (Nat.le_of_ble_eq_true rfl)) dX3_tryWants_73 ⟨Nat.zero_le _, Nat.zero_le _⟩) hw (fun H locs hw hx12 hz13 => ?_)
    have Ta0 : TY S_9 a0 3 := ty_ext hx12 Ta0
    have Ta3 : TY S_9 a3 14 := ty_ext hx12 Ta3
    have hE : Ext S0 S_9 := Ext.tr hE hx12
    refine lv_if_eq (tgt := 161) hx hb dX3_tryWants_76 (by decide) (fun h14 => ?_) (fun h14 => ?_)
    · rw [if_pos h14] at hm
      cases hm
      exact pw_vret hx hb hr hlk hw hE dX3_tryWants_161
    · rw [if_neg h14] at hm
      refine lv_aload_n hx hb dX3_tryWants_79 rfl (lv_at hl 0 rfl) ?_
      obtain ⟨q15, hq15, hm⟩ := bd_some hm
      have Tq15 : TY S_9 q15 7 := hw.wf.ref (k := 3) (j := 0) Ta0 (by decide) (by decide) hq15
      refine pg_rb (k := 3) (j := 0) (f := 300) hx hb hown hU iu3 hw Ta0 (by decide) rfl (hU _ tw239) rfl hq15 dX3_tryWants_80 ?_
      obtain ⟨q16, hq16, hm⟩ := bd_some hm
      have Tq16 : TY S_9 q16 1 := hw.wf.ref (k := 7) (j := 0) Tq15 (by decide) (by decide) hq16
      refine pgN_rb (k := 7) (j := 0) (f := 700) hx hb hown hU iu7 hw Tq15 (by decide) rfl 57 rfl rfl hq16 dX3_tryWants_83 ?_
      obtain ⟨q17, hq17, hm⟩ := bd_some hm
      have Tq17 : TY S_9 q17 9 := hw.wf.ref (k := 1) (j := 1) Tq16 (by decide) (by decide) hq17
      refine pgN_rb (k := 1) (j := 1) (f := 101) hx hb hown hU iu1 hw Tq16 (by decide) rfl 30 rfl rfl hq17 dX3_tryWants_86 ?_
      refine lv_iload_n hx hb dX3_tryWants_89 rfl (lv_at hl 2 rfl) ?_
      refine lv_iconst (v := 1) hx hb dX3_tryWants_90 (by decide) ?_
      obtain ⟨r20, S_18, hq19, hm⟩ := cb_some hm
      refine pw_ci (va_runVN (As := [.int x2, .int 1]) (rest := []) ⟨hx, hb, hml, hown, hU⟩ (c_X9_at l C X n S_9 hw.wf _ q17 x2 1 (Tq17) r20 S_18 hq19) ⟨va_cnB (host := "WickNights") 2 hU (pq_g1 tc_X9_at) rfl rfl rfl (hw.nw 164 rfl) (hU _ tw5) cd_X9_at.2 ⟨Nat.le_trans (Nat.le_of_ble_eq_true rfl) (Nat.le_add_right _ _), Nat.le_trans (Nat.le_of_ble_eq_true rfl) (Nat.le_add_right _ _)⟩, hU _ tw719, hU _ ts32⟩ (pw_preV hw Tq17 (by decide) rfl) rfl rfl hl.1 rfl (lv_room (Nat.le_of_ble_eq_true rfl)) dX3_tryWants_91 ⟨Nat.zero_le _, Nat.zero_le _⟩) hw (fun H locs hw hx21 => ?_)
      have Ta0 : TY S_18 a0 3 := ty_ext hx21 Ta0
      have Ta3 : TY S_18 a3 14 := ty_ext hx21 Ta3
      have hE : Ext S0 S_18 := Ext.tr hE hx21
      refine lv_istore (lv' := [(7, .int r20), (0, .ref a0), (1, .int x1), (2, .int x2), (3, .ref a3), (4, .int x4), (5, .int x5), (6, .int x6)]) hx hb dX3_tryWants_94 hl (by decide) rfl (fun ls hl => ?_)
      refine lv_aload_n hx hb dX3_tryWants_96 rfl (lv_at hl 1 rfl) ?_
      obtain ⟨q22, hq22, hm⟩ := bd_some hm
      have Tq22 : TY S_18 q22 7 := hw.wf.ref (k := 3) (j := 0) Ta0 (by decide) (by decide) hq22
      refine pg_rb (k := 3) (j := 0) (f := 300) hx hb hown hU iu3 hw Ta0 (by decide) rfl (hU _ tw239) rfl hq22 dX3_tryWants_97 ?_
      obtain ⟨q23, hq23, hm⟩ := bd_some hm
      have Tq23 : TY S_18 q23 1 := hw.wf.ref (k := 7) (j := 0) Tq22 (by decide) (by decide) hq23
      refine pgN_rb (k := 7) (j := 0) (f := 700) hx hb hown hU iu7 hw Tq22 (by decide) rfl 57 rfl rfl hq23 dX3_tryWants_100 ?_
      obtain ⟨q24, hq24, hm⟩ := bd_some hm
      have Tq24 : TY S_18 q24 9 := hw.wf.ref (k := 1) (j := 1) Tq23 (by decide) (by decide) hq24
      refine pgN_rb (k := 1) (j := 1) (f := 101) hx hb hown hU iu1 hw Tq23 (by decide) rfl 30 rfl rfl hq24 dX3_tryWants_103 ?_
      refine lv_iload_n hx hb dX3_tryWants_106 rfl (lv_at hl 3 rfl) ?_
      refine lv_iconst (v := 3) hx hb dX3_tryWants_107 (by decide) ?_
      obtain ⟨r27, S_25, hq26, hm⟩ := cb_some hm
      refine pw_ci (va_runVN (As := [.int x2, .int 3]) (rest := []) ⟨hx, hb, hml, hown, hU⟩ (c_X9_at l C X n S_18 hw.wf _ q24 x2 3 (Tq24) r27 S_25 hq26) ⟨va_cnB (host := "WickNights") 2 hU (pq_g1 tc_X9_at) rfl rfl rfl (hw.nw 164 rfl) (hU _ tw5) cd_X9_at.2 ⟨Nat.le_trans (Nat.le_of_ble_eq_true rfl) (Nat.le_add_right _ _), Nat.le_trans (Nat.le_of_ble_eq_true rfl) (Nat.le_add_right _ _)⟩, hU _ tw719, hU _ ts32⟩ (pw_preV hw Tq24 (by decide) rfl) rfl rfl hl.1 rfl (lv_room (Nat.le_of_ble_eq_true rfl)) dX3_tryWants_108 ⟨Nat.zero_le _, Nat.zero_le _⟩) hw (fun H locs hw hx28 => ?_)
      have Ta0 : TY S_25 a0 3 := ty_ext hx28 Ta0
      have Ta3 : TY S_25 a3 14 := ty_ext hx28 Ta3
      have hE : Ext S0 S_25 := Ext.tr hE hx28
      refine lv_istore (lv' := [(8, .int r27), (7, .int r20), (0, .ref a0), (1, .int x1), (2, .int x2), (3, .ref a3), (4, .int x4), (5, .int x5), (6, .int x6)]) hx hb dX3_tryWants_111 hl (by decide) rfl (fun ls hl => ?_)
      refine lv_aload_n hx hb dX3_tryWants_113 rfl (lv_at hl 2 rfl) ?_
      refine lv_iload_n hx hb dX3_tryWants_114 rfl (lv_at hl 3 rfl) ?_
      refine lv_iload_n hx hb dX3_tryWants_115 rfl (lv_at hl 4 rfl) ?_
      refine lv_iconst (v := 1) hx hb dX3_tryWants_116 (by decide) ?_
      refine lv_iadd hx hb dX3_tryWants_117 ?_
      refine lv_aload_n hx hb dX3_tryWants_118 rfl (lv_at hl 5 rfl) ?_
      refine lv_iload hx hb dX3_tryWants_119 (lv_at hl 6 rfl) ?_
      refine lv_iload hx hb dX3_tryWants_121 (lv_at hl 1 rfl) ?_
      refine lv_aload_n hx hb dX3_tryWants_123 rfl (lv_at hl 2 rfl) ?_
      obtain ⟨q29, hq29, hm⟩ := bd_some hm
      have Tq29 : TY S_25 q29 7 := hw.wf.ref (k := 3) (j := 0) Ta0 (by decide) (by decide) hq29
      refine pg_rb (k := 3) (j := 0) (f := 300) hx hb hown hU iu3 hw Ta0 (by decide) rfl (hU _ tw239) rfl hq29 dX3_tryWants_124 ?_
      obtain ⟨q30, hq30, hm⟩ := bd_some hm
      have Tq30 : TY S_25 q30 1 := hw.wf.ref (k := 7) (j := 0) Tq29 (by decide) (by decide) hq30
      refine pgN_rb (k := 7) (j := 0) (f := 700) hx hb hown hU iu7 hw Tq29 (by decide) rfl 57 rfl rfl hq30 dX3_tryWants_127 ?_
      obtain ⟨q31, hq31, hm⟩ := bd_some hm
      have Tq31 : TY S_25 q31 9 := hw.wf.ref (k := 1) (j := 1) Tq30 (by decide) (by decide) hq31
      refine pgN_rb (k := 1) (j := 1) (f := 101) hx hb hown hU iu1 hw Tq30 (by decide) rfl 30 rfl rfl hq31 dX3_tryWants_130 ?_
      refine lv_iload_n hx hb dX3_tryWants_133 rfl (lv_at hl 4 rfl) ?_
      refine lv_iconst (v := 2) hx hb dX3_tryWants_134 (by decide) ?_
      obtain ⟨r34, S_32, hq33, hm⟩ := cb_some hm
      refine pw_ci (va_runVN (As := [.int x2, .int 2]) (rest := [.int r20, .int x4, .ref a3, .int (x2 + (1 : Int32)), .int x1, .ref a0]) ⟨hx, hb, hml, hown, hU⟩ (c_X9_at l C X n S_25 hw.wf _ q31 x2 2 (Tq31) r34 S_32 hq33) ⟨va_cnB (host := "WickNights") 2 hU (pq_g1 tc_X9_at) rfl rfl rfl (hw.nw 164 rfl) (hU _ tw5) cd_X9_at.2 ⟨Nat.le_trans (Nat.le_of_ble_eq_true rfl) (Nat.le_add_right _ _), Nat.le_trans (Nat.le_of_ble_eq_true rfl) (Nat.le_add_right _ _)⟩, hU _ tw719, hU _ ts32⟩ (pw_preV hw Tq31 (by decide) rfl) rfl rfl hl.1 rfl (lv_room (Nat.le_of_ble_eq_true rfl)) dX3_tryWants_135 ⟨Nat.zero_le _, Nat.zero_le _⟩) hw (fun H locs hw hx35 => ?_)
      have Ta0 : TY S_32 a0 3 := ty_ext hx35 Ta0
      have Ta3 : TY S_32 a3 14 := ty_ext hx35 Ta3
      have hE : Ext S0 S_32 := Ext.tr hE hx35
      refine lv_imul hx hb dX3_tryWants_138 ?_
      refine lv_iadd hx hb dX3_tryWants_139 ?_
      refine lv_iload hx hb dX3_tryWants_140 (lv_at hl 7 rfl) ?_
      refine lv_iload hx hb dX3_tryWants_142 (lv_at hl 1 rfl) ?_
      refine lv_iadd hx hb dX3_tryWants_144 ?_
      refine lv_iload hx hb dX3_tryWants_145 (lv_at hl 8 rfl) ?_
      refine lv_iload hx hb dX3_tryWants_147 (lv_at hl 0 rfl) ?_
      refine lv_sipush (v := 4096) hx hb dX3_tryWants_149 (by decide) ?_
      refine lv_imul hx hb dX3_tryWants_152 ?_
      refine lv_iadd hx hb dX3_tryWants_153 ?_
      refine lv_iconst (v := 1) hx hb dX3_tryWants_154 (by decide) ?_
      refine lv_iload_n hx hb dX3_tryWants_155 rfl (lv_at hl 4 rfl) ?_
      refine lv_ishl hx hb dX3_tryWants_156 ?_
      refine lv_isub hx hb dX3_tryWants_157 ?_
      obtain ⟨S_36, hq37, hm⟩ := bd_some hm
      refine pw_cv (va_runV (As := [.int x1, .int (x2 + (1 : Int32)), .ref a3, .int (x4 + (r20 * r34)), .int (x5 + r20), .int ((x6 + (r27 * (4096 : Int32))) - ((1 : Int32) <<< (x2 &&& (31 : Int32))))]) (rest := []) ⟨hx, hb, hml, hown, hU⟩ (hrec l C X S_32 hw.wf _ a0 x1 (x2 + (1 : Int32)) a3 (x4 + (r20 * r34)) (x5 + r20) ((x6 + (r27 * (4096 : Int32))) - ((1 : Int32) <<< (x2 &&& (31 : Int32)))) (Ta0) (Ta3) S_36 hq37) (cwV 6 hU (pq_gV tw1096 tw1098 ts85 tw8 tc_X3_tryWants) rfl rfl rfl cd_X3_tryWants ⟨Nat.le_refl _, rmg_tryW_l d (by decide)⟩) (pw_preV hw Ta0 (by decide) rfl) rfl rfl hl.1 rfl (lv_room (Nat.le_of_ble_eq_true rfl)) dX3_tryWants_158 ⟨Nat.zero_le _, Nat.zero_le _⟩) hw (fun H locs hw hx38 => ?_)
      have Ta0 : TY S_36 a0 3 := ty_ext hx38 Ta0
      have Ta3 : TY S_36 a3 14 := ty_ext hx38 Ta3
      have hE : Ext S0 S_36 := Ext.tr hE hx38
      cases hm
      exact pw_vret hx hb hr hlk hw hE dX3_tryWants_161
  · rw [if_neg h4] at hm
    refine lv_iload hx hb dX3_tryWants_17 (lv_at hl 4 rfl) ?_
    refine lv_iload hx hb dX3_tryWants_19 (lv_at hl 5 rfl) ?_
    refine va_mmax hx hb (by rw [hml]; exact hl.1.symm) hown (hU _ tw1100) (hU _ twm_max_s) (hU _ twm_i) (hU _ twm_max_c) (Nat.le_trans (Nat.le_of_ble_eq_true rfl) (Nat.le_add_right _ _)) (Nat.le_trans (Nat.le_of_ble_eq_true rfl) (Nat.le_add_right _ _)) (Nat.zero_le _) (Nat.zero_le _) dX3_tryWants_21 ?_
    refine lv_istore (lv' := [(7, .int (if x4 < x5 then x5 else x4)), (0, .ref a0), (1, .int x1), (2, .int x2), (3, .ref a3), (4, .int x4), (5, .int x5), (6, .int x6)]) hx hb dX3_tryWants_24 hl (by decide) rfl (fun ls hl => ?_)
    refine lv_iload hx hb dX3_tryWants_26 (lv_at hl 0 rfl) ?_
    refine lv_if_lt (tgt := 51) hx hb dX3_tryWants_28 (by decide) (fun h39 => ?_) (fun h39 => ?_)
    · rw [if_pos h39] at hm
      cases hm
      exact pw_vret hx hb hr hlk hw hE dX3_tryWants_51
    · rw [if_neg h39] at hm
      refine lv_iload hx hb dX3_tryWants_31 (lv_at hl 0 rfl) ?_
      refine lv_aload_n hx hb dX3_tryWants_33 rfl (lv_at hl 4 rfl) ?_
      refine pw_alenI (v := (Int32.ofNat (pN S0 a3))) hx hb hw Ta3 rfl dX3_tryWants_34 ?_
      refine lv_icmp_ge (tgt := 51) hx hb dX3_tryWants_35 (by decide) (fun h40 => ?_) (fun h40 => ?_)
      · rw [if_pos h40] at hm
        cases hm
        exact pw_vret hx hb hr hlk hw hE dX3_tryWants_51
      · rw [if_neg h40] at hm
        refine lv_aload_n hx hb dX3_tryWants_38 rfl (lv_at hl 4 rfl) ?_
        refine lv_iload hx hb dX3_tryWants_39 (lv_at hl 0 rfl) ?_
        refine lv_aload_n hx hb dX3_tryWants_41 rfl (lv_at hl 4 rfl) ?_
        refine lv_iload hx hb dX3_tryWants_42 (lv_at hl 0 rfl) ?_
        obtain ⟨hi41, hm⟩ := ck_some hm
        refine pw_iald hx hb hw Ta3 hi41 dX3_tryWants_44 ?_
        refine lv_iload hx hb dX3_tryWants_45 (lv_at hl 7 rfl) ?_
        refine va_mmax hx hb (by rw [hml]; exact hl.1.symm) hown (hU _ tw1100) (hU _ twm_max_s) (hU _ twm_i) (hU _ twm_max_c) (Nat.le_trans (Nat.le_of_ble_eq_true rfl) (Nat.le_add_right _ _)) (Nat.le_trans (Nat.le_of_ble_eq_true rfl) (Nat.le_add_right _ _)) (Nat.zero_le _) (Nat.zero_le _) dX3_tryWants_47 ?_
        obtain ⟨hi42, hm⟩ := ck_some hm
        refine pw_iast hx hb hw Ta3 hi42 dX3_tryWants_50 (fun H locs hw => ?_)
        obtain ⟨S_43, eS_43, hm⟩ := lt_some hm
        rw [← eS_43] at hw
        have Ta0 : TY S_43 a0 3 := by rw [eS_43]; exact Ta0
        have Ta3 : TY S_43 a3 14 := by rw [eS_43]; exact Ta3
        have hE : Ext S0 S_43 := by rw [eS_43]; exact hE
        cases hm
        exact pw_vret hx hb hr hlk hw hE dX3_tryWants_51
def m_tryW_d (n : Nat) : Nat → ((Nat → Int32 → Int32 → Nat → Int32 → Int32 → Int32 → pq_S → Option pq_S))
  | 0 => (fun _ _ _ _ _ _ _ _ => none)
  | d + 1 => (g_X3_tryWants n (m_tryW_d n d))
theorem hg_tryW (n : Nat) : ∀ d : Nat, HG_tryW n d (m_tryW_d n d) := by
  intro d
  induction d with
  | zero =>
    exact fun _ _ _ _ _ _ _ _ _ _ _ _ _ _ _ _ hm => by cases hm
  | succ d ih =>
    exact (fun q0 q1 q2 q3 q4 q5 q6 q7 q8 q9 q10 q11 q12 q13 q14 q15 hm => cg_X3_tryWants n d _ ih q0 q1 q2 q3 q4 q5 q6 q7 q8 q9 q10 q11 q12 q13 q14 q15 hm)
def m_X3_tryWants (n : Nat) (a0 : Nat) (x1 : Int32) (x2 : Int32) (a3 : Nat) (x4 : Int32) (x5 : Int32) (x6 : Int32) (S : pq_S) : Option pq_S := (m_tryW_d n 64) a0 x1 x2 a3 x4 x5 x6 S
abbrev rm_X3_tryWants : Room := { frames := 66, cells := 0, slots := 0, locals := 1837 }
theorem c_X3_tryWants (l : Launch) (C : pq_C) (X : va_W) (n : Nat) (S0 : pq_S) (hF : WF S0) (sz : Nat) (a0 : Nat) (x1 : Int32) (x2 : Int32) (a3 : Nat) (x4 : Int32) (x5 : Int32) (x6 : Int32) (Ta0 : TY S0 a0 3) (Ta3 : TY S0 a3 14) (S1 : pq_S) (hm : m_X3_tryWants n a0 x1 x2 a3 x4 x5 x6 S0 = some S1) : MV l yX3_tryWants (.code yX3_tryWants cX3_tryWants 9 none :: pq_U) rm_X3_tryWants C X S0 sz [.ref a0, .int x1, .int x2, .ref a3, .int x4, .int x5, .int x6] S1 0 0 := (hg_tryW n 64) l C X S0 hF sz a0 x1 x2 a3 x4 x5 x6 Ta0 Ta3 S1 hm
abbrev rmg_tryS (d : Nat) : Room := { frames := 4 + d, cells := 0, slots := 0, locals := 115 + d * 31 }
theorem rmg_tryS_l (d : Nat) {q : Nat} (h : q ≤ 12) : 8 + (q + 11) + (rmg_tryS d).locals ≤ (rmg_tryS (d + 1)).locals := by show 8 + (q + 11) + (115 + d * 31) ≤ 115 + (d + 1) * 31; omega
theorem tc_X7_tryShafts : Cond.code yX7_tryShafts cX7_tryShafts 12 none ∈ pq_U := tw1322
theorem cd_X7_tryShafts : yX7_tryShafts.cls = RX7 ∧ yX7_tryShafts.cls ≠ "java/lang/invoke/MethodHandle" ∧ yX7_tryShafts.cls ≠ "java/lang/invoke/VarHandle" ∧ (parseMethodDescriptor yX7_tryShafts.desc).map (fun d => d.parameters.length) = some 7 := by decide +kernel
def HG_tryS (n d : Nat) (rec : (Nat → Int32 → Int32 → Int32 → Int32 → Int32 → Int32 → Int32 → pq_S → Option pq_S)) : Prop := (∀ (l : Launch) (C : pq_C) (X : va_W) (S0 : pq_S) (_ : WF S0) (sz : Nat) (a0 : Nat) (x1 : Int32) (x2 : Int32) (x3 : Int32) (x4 : Int32) (x5 : Int32) (x6 : Int32) (x7 : Int32) (_Ta0 : TY S0 a0 7) (S1 : pq_S), rec a0 x1 x2 x3 x4 x5 x6 x7 S0 = some S1 → MV l yX7_tryShafts (.code yX7_tryShafts cX7_tryShafts 12 none :: pq_U) (rmg_tryS d) C X S0 sz [.ref a0, .int x1, .int x2, .int x3, .int x4, .int x5, .int x6, .int x7] S1 0 0)
def b_X7_tryShafts_71 (n : Nat) (rec : (Nat → Int32 → Int32 → Int32 → Int32 → Int32 → Int32 → Int32 → pq_S → Option pq_S)) : Nat → Nat → Int32 → Int32 → Int32 → Int32 → Int32 → Int32 → Int32 → Int32 → Int32 → Int32 → pq_S → Option pq_S
  | 0, _, _, _, _, _, _, _, _, _, _, _, _ => none
  | f + 1, a0, x1, x2, x3, x4, x5, x6, x7, x8, x9, x10, S => if x9 < x10 then some S else cb (m_X7_comingOut n a0 x10 x5 x8 S) fun r14 S_12 => Option.bind (rec a0 x1 (x2 - (1 : Int32)) x3 (x4 + (1 : Int32)) (x5 - r14) ((x6 + r14) - x10) ((x7 * (10 : Int32)) + x10) S_12) fun S_16 => b_X7_tryShafts_71 n rec f a0 x1 x2 x3 x4 x5 x6 x7 x8 x9 (x10 + 1) S_16
set_option maxHeartbeats 4000000 in
set_option maxRecDepth 100000 in
theorem wb_X7_tryShafts_71 {p : Program} {l : Launch} {e : Env} {s : State} {m : MethodId} {args : Array Value} {below : List Frame} {meth : Method} {c : Code} (cx : Cx p s m args meth c cX7_tryShafts 12 RX7 none) (C : pq_C) (X : va_W) (S0 : pq_S) (n : Nat) (d : Nat) (rec : (Nat → Int32 → Int32 → Int32 → Int32 → Int32 → Int32 → Int32 → pq_S → Option pq_S)) (hrec : HG_tryS n d rec) (S1 : pq_S) : ∀ (f : Nat) (a0 : Nat) (x1 : Int32) (x2 : Int32) (x3 : Int32) (x4 : Int32) (x5 : Int32) (x6 : Int32) (x7 : Int32) (x8 : Int32) (x9 : Int32) (x10 : Int32) (S : pq_S) (H : Heap) (locs : List Loc) (ls : Array Slot), PW C X S (pq_F C X S0 s.heap.size) H locs s → Ext S0 S → TY S a0 7 → lv_has ls 12 [(0, .ref a0), (1, .int x1), (2, .int x2), (3, .int x3), (4, .int x4), (5, .int x5), (6, .int x6), (7, .int x7), (8, .int x8), (9, .int x9), (10, .int x10)] → b_X7_tryShafts_71 n rec f a0 x1 x2 x3 x4 x5 x6 x7 x8 x9 x10 S = some S1 → W p l e (rmg_tryS (d + 1)) s m args below meth c H locs 0 0 (MQ below (QcV C X S0 s.heap.size S1) args s 0 0 (pq_F C X S0 s.heap.size)) (F0 m 71 ls []) := by
  obtain ⟨hx, hb, hml, hown, hU, hr, hlk⟩ := id cx
  intro f
  induction f with
  | zero =>
    intro a0 x1 x2 x3 x4 x5 x6 x7 x8 x9 x10 S H locs ls hw hE Ta0 hl hm
    cases hm
  | succ f ih =>
    intro a0 x1 x2 x3 x4 x5 x6 x7 x8 x9 x10 S H locs ls hw hE Ta0 hl hm
    rw [b_X7_tryShafts_71] at hm
    refine lv_iload hx hb dX7_tryShafts_71 (lv_at hl 10 rfl) ?_
    refine lv_iload hx hb dX7_tryShafts_73 (lv_at hl 9 rfl) ?_
    refine lv_icmp_gt (tgt := 130) hx hb dX7_tryShafts_75 (by decide) (fun h11 => ?_) (fun h11 => ?_)
    · rw [if_pos h11] at hm
      cases hm
      exact pw_vret hx hb hr hlk hw hE dX7_tryShafts_130
    · rw [if_neg h11] at hm
      refine lv_aload_n hx hb dX7_tryShafts_78 rfl (lv_at hl 0 rfl) ?_
      refine lv_iload hx hb dX7_tryShafts_79 (lv_at hl 10 rfl) ?_
      refine lv_iload hx hb dX7_tryShafts_81 (lv_at hl 5 rfl) ?_
      refine lv_iload hx hb dX7_tryShafts_83 (lv_at hl 8 rfl) ?_
      obtain ⟨r14, S_12, hq13, hm⟩ := cb_some hm
      refine pw_ci (va_runV (As := [.int x10, .int x5, .int x8]) (rest := []) ⟨hx, hb, hml, hown, hU⟩ (c_X7_comingOut l C X n S hw.wf _ a0 x10 x5 x8 (Ta0) r14 S_12 hq13) (cwV 3 hU (pq_gV tw925 tw927 ts66 tw3 tc_X7_comingOut) rfl rfl rfl cd_X7_comingOut ⟨Nat.le_trans (Nat.le_of_ble_eq_true rfl) (Nat.le_add_right _ _), Nat.le_trans (Nat.le_of_ble_eq_true rfl) (Nat.le_add_right _ _)⟩) (pw_preV hw Ta0 (by decide) rfl) rfl rfl hl.1 rfl (lv_room (Nat.le_of_ble_eq_true rfl)) dX7_tryShafts_85 ⟨Nat.zero_le _, Nat.zero_le _⟩) hw (fun H locs hw hx15 => ?_)
      have Ta0 : TY S_12 a0 7 := ty_ext hx15 Ta0
      have hE : Ext S0 S_12 := Ext.tr hE hx15
      refine lv_istore (lv' := [(11, .int r14), (0, .ref a0), (1, .int x1), (2, .int x2), (3, .int x3), (4, .int x4), (5, .int x5), (6, .int x6), (7, .int x7), (8, .int x8), (9, .int x9), (10, .int x10)]) hx hb dX7_tryShafts_88 hl (by decide) rfl (fun ls hl => ?_)
      refine lv_aload_n hx hb dX7_tryShafts_90 rfl (lv_at hl 1 rfl) ?_
      refine lv_iload_n hx hb dX7_tryShafts_91 rfl (lv_at hl 2 rfl) ?_
      refine lv_iload_n hx hb dX7_tryShafts_92 rfl (lv_at hl 3 rfl) ?_
      refine lv_iconst (v := 1) hx hb dX7_tryShafts_93 (by decide) ?_
      refine lv_isub hx hb dX7_tryShafts_94 ?_
      refine lv_iload_n hx hb dX7_tryShafts_95 rfl (lv_at hl 4 rfl) ?_
      refine lv_iload hx hb dX7_tryShafts_96 (lv_at hl 5 rfl) ?_
      refine lv_iconst (v := 1) hx hb dX7_tryShafts_98 (by decide) ?_
      refine lv_iadd hx hb dX7_tryShafts_99 ?_
      refine lv_iload hx hb dX7_tryShafts_100 (lv_at hl 6 rfl) ?_
      refine lv_iload hx hb dX7_tryShafts_102 (lv_at hl 0 rfl) ?_
      refine lv_isub hx hb dX7_tryShafts_104 ?_
      refine lv_iload hx hb dX7_tryShafts_105 (lv_at hl 7 rfl) ?_
      refine lv_iload hx hb dX7_tryShafts_107 (lv_at hl 0 rfl) ?_
      refine lv_iadd hx hb dX7_tryShafts_109 ?_
      refine lv_iload hx hb dX7_tryShafts_110 (lv_at hl 11 rfl) ?_
      refine lv_isub hx hb dX7_tryShafts_112 ?_
      refine lv_iload hx hb dX7_tryShafts_113 (lv_at hl 8 rfl) ?_
      refine lv_bipush (v := 10) hx hb dX7_tryShafts_115 (by decide) ?_
      refine lv_imul hx hb dX7_tryShafts_117 ?_
      refine lv_iload hx hb dX7_tryShafts_118 (lv_at hl 11 rfl) ?_
      refine lv_iadd hx hb dX7_tryShafts_120 ?_
      obtain ⟨S_16, hq17, hm⟩ := bd_some hm
      refine pw_cv (va_runV (As := [.int x1, .int (x2 - (1 : Int32)), .int x3, .int (x4 + (1 : Int32)), .int (x5 - r14), .int ((x6 + r14) - x10), .int ((x7 * (10 : Int32)) + x10)]) (rest := []) ⟨hx, hb, hml, hown, hU⟩ (hrec l C X S_12 hw.wf _ a0 x1 (x2 - (1 : Int32)) x3 (x4 + (1 : Int32)) (x5 - r14) ((x6 + r14) - x10) ((x7 * (10 : Int32)) + x10) (Ta0) S_16 hq17) (cwV 7 hU (pq_gV tw1319 tw1321 ts108 tw3 tc_X7_tryShafts) rfl rfl rfl cd_X7_tryShafts ⟨Nat.le_refl _, rmg_tryS_l d (by decide)⟩) (pw_preV hw Ta0 (by decide) rfl) rfl rfl hl.1 rfl (lv_room (Nat.le_of_ble_eq_true rfl)) dX7_tryShafts_121 ⟨Nat.zero_le _, Nat.zero_le _⟩) hw (fun H locs hw hx18 => ?_)
      have Ta0 : TY S_16 a0 7 := ty_ext hx18 Ta0
      have hE : Ext S0 S_16 := Ext.tr hE hx18
      refine lv_iinc (v := (x10 + 1)) (lv' := [(10, .int (x10 + 1)), (11, .int r14), (0, .ref a0), (1, .int x1), (2, .int x2), (3, .int x3), (4, .int x4), (5, .int x5), (6, .int x6), (7, .int x7), (8, .int x8), (9, .int x9)]) hx hb dX7_tryShafts_124 hl (k := 11) rfl rfl (by decide) rfl (fun ls hl => ?_)
      refine lv_goto (tgt := 71) hx hb dX7_tryShafts_127 (by decide) ?_
      exact ih a0 x1 x2 x3 x4 x5 x6 x7 x8 x9 (x10 + 1) S_16 _ _ _ hw hE Ta0 (lv_sub hl [2, 3, 4, 5, 6, 7, 8, 9, 10, 11, 0] rfl) hm
def b_X7_tryShafts_66 (n : Nat) (rec : (Nat → Int32 → Int32 → Int32 → Int32 → Int32 → Int32 → Int32 → pq_S → Option pq_S)) (a0 : Nat) (x1 : Int32) (x2 : Int32) (x3 : Int32) (x4 : Int32) (x5 : Int32) (x6 : Int32) (x7 : Int32) (x8 : Int32) (z0 : Int32) (S : pq_S) : Option pq_S := b_X7_tryShafts_71 n rec n a0 x1 x2 x3 x4 x5 x6 x7 x8 z0 0 S
set_option maxHeartbeats 4000000 in
set_option maxRecDepth 100000 in
theorem wb_X7_tryShafts_66 {p : Program} {l : Launch} {e : Env} {s : State} {m : MethodId} {args : Array Value} {below : List Frame} {meth : Method} {c : Code} (cx : Cx p s m args meth c cX7_tryShafts 12 RX7 none) (C : pq_C) (X : va_W) (S0 : pq_S) (n : Nat) (d : Nat) (rec : (Nat → Int32 → Int32 → Int32 → Int32 → Int32 → Int32 → Int32 → pq_S → Option pq_S)) (hrec : HG_tryS n d rec) (S1 : pq_S) : ∀ (a0 : Nat) (x1 : Int32) (x2 : Int32) (x3 : Int32) (x4 : Int32) (x5 : Int32) (x6 : Int32) (x7 : Int32) (x8 : Int32) (z0 : Int32) (S : pq_S) (H : Heap) (locs : List Loc) (ls : Array Slot), PW C X S (pq_F C X S0 s.heap.size) H locs s → Ext S0 S → TY S a0 7 → lv_has ls 12 [(0, .ref a0), (1, .int x1), (2, .int x2), (3, .int x3), (4, .int x4), (5, .int x5), (6, .int x6), (7, .int x7), (8, .int x8)] → b_X7_tryShafts_66 n rec a0 x1 x2 x3 x4 x5 x6 x7 x8 z0 S = some S1 → W p l e (rmg_tryS (d + 1)) s m args below meth c H locs 0 0 (MQ below (QcV C X S0 s.heap.size S1) args s 0 0 (pq_F C X S0 s.heap.size)) (F0 m 66 ls [.int z0]) := by
  obtain ⟨hx, hb, hml, hown, hU, hr, hlk⟩ := id cx
  intro a0 x1 x2 x3 x4 x5 x6 x7 x8 z0 S H locs ls hw hE Ta0 hl hm
  rw [b_X7_tryShafts_66] at hm
  refine lv_istore (lv' := [(9, .int z0), (0, .ref a0), (1, .int x1), (2, .int x2), (3, .int x3), (4, .int x4), (5, .int x5), (6, .int x6), (7, .int x7), (8, .int x8)]) hx hb dX7_tryShafts_66 hl (by decide) rfl (fun ls hl => ?_)
  refine lv_iconst (v := 0) hx hb dX7_tryShafts_68 (by decide) ?_
  refine lv_istore (lv' := [(10, .int 0), (9, .int z0), (0, .ref a0), (1, .int x1), (2, .int x2), (3, .int x3), (4, .int x4), (5, .int x5), (6, .int x6), (7, .int x7), (8, .int x8)]) hx hb dX7_tryShafts_69 hl (by decide) rfl (fun ls hl => ?_)
  exact wb_X7_tryShafts_71 cx C X S0 n d rec hrec S1 n a0 x1 x2 x3 x4 x5 x6 x7 x8 z0 0 S _ _ _ hw hE Ta0 (lv_sub hl [2, 3, 4, 5, 6, 7, 8, 9, 10, 1, 0] rfl) hm
def g_X7_tryShafts (n : Nat) (rec : (Nat → Int32 → Int32 → Int32 → Int32 → Int32 → Int32 → Int32 → pq_S → Option pq_S)) (a0 : Nat) (x1 : Int32) (x2 : Int32) (x3 : Int32) (x4 : Int32) (x5 : Int32) (x6 : Int32) (x7 : Int32) (S0 : pq_S) : Option pq_S := if (pI S0 704 a0) < (x6 + x5) then if 0 < x2 then Option.bind (pR S0 701 a0) fun q3 => cb (m_X7_isMineOpen n a0 x1 ((pI S0 803 q3) + x4) S0) fun r6 S_4 => if r6 = 0 then b_X7_tryShafts_66 n rec a0 x1 x2 x3 x4 x5 x6 x7 ((pI S0 803 q3) + x4) 0 S_4 else b_X7_tryShafts_66 n rec a0 x1 x2 x3 x4 x5 x6 x7 ((pI S0 803 q3) + x4) x3 S_4 else if x6 ≤ (pI S0 704 a0) then some S0 else some (sI (sI S0 704 a0 x6) 705 a0 x7) else some S0
set_option maxHeartbeats 4000000 in
set_option maxRecDepth 100000 in
theorem cg_X7_tryShafts (n d : Nat) (rec : (Nat → Int32 → Int32 → Int32 → Int32 → Int32 → Int32 → Int32 → pq_S → Option pq_S)) (hrec : HG_tryS n d rec) (l : Launch) (C : pq_C) (X : va_W) (S0 : pq_S) (hF : WF S0) (sz : Nat) (a0 : Nat) (x1 : Int32) (x2 : Int32) (x3 : Int32) (x4 : Int32) (x5 : Int32) (x6 : Int32) (x7 : Int32) (Ta0 : TY S0 a0 7) (S1 : pq_S) (hm : g_X7_tryShafts n rec a0 x1 x2 x3 x4 x5 x6 x7 S0 = some S1) : MV l yX7_tryShafts (.code yX7_tryShafts cX7_tryShafts 12 none :: pq_U) (rmg_tryS (d + 1)) C X S0 sz [.ref a0, .int x1, .int x2, .int x3, .int x4, .int x5, .int x6, .int x7] S1 0 0 := by
  refine Met.ofW (cc := cX7_tryShafts) (maxL := 12) (ret := none) (by decide) rfl ?_
  intro p e s m args below meth c s₁ B hml hv
  obtain ⟨rfl, hv⟩ := hv
  have hsz := hv.1
  subst hsz
  have hw := pw_entry hF hv
  have hts := atoms_spec (ws := .code yX7_tryShafts cX7_tryShafts 12 none :: pq_U) B.pre
  have hU : ∀ w ∈ pq_U, w.before _ s = true := fun w h => hts w (List.mem_cons_of_mem _ h)
  have hx := B.exec
  have hb := B.bytes
  have hr := B.returns
  have hown : s.vm.findClass RX7 = some m.cls := findClass_of_methodNamed B.named
  have hlk := B.notSynchronized
  have hl := lv_entry ([.ref a0, .int x1, .int x2, .int x3, .int x4, .int x5, .int x6, .int x7]) (n := 12) (Nat.le_of_ble_eq_true rfl)
  rw [lg_entry_eq]
  generalize (lg_sl ([.ref a0, .int x1, .int x2, .int x3, .int x4, .int x5, .int x6, .int x7]) ++ List.replicate (12 - (lg_sl ([.ref a0, .int x1, .int x2, .int x3, .int x4, .int x5, .int x6, .int x7])).length) Slot.unset).toArray = ls at hl ⊢
  have hl : lv_has ls 12 [(0, .ref a0), (1, .int x1), (2, .int x2), (3, .int x3), (4, .int x4), (5, .int x5), (6, .int x6), (7, .int x7)] := hl
  have hE : Ext S0 S0 := Ext.rf _
  have cx : Cx p s m _ meth c cX7_tryShafts 12 RX7 none := ⟨hx, hb, hml, hown, hU, hr, hlk⟩
  rw [g_X7_tryShafts] at hm
  refine lv_iload hx hb dX7_tryShafts_0 (lv_at hl 6 rfl) ?_
  refine lv_iload hx hb dX7_tryShafts_2 (lv_at hl 5 rfl) ?_
  refine lv_iadd hx hb dX7_tryShafts_4 ?_
  refine lv_aload_n hx hb dX7_tryShafts_5 rfl (lv_at hl 0 rfl) ?_
  refine pg_i (k := 7) (j := 4) (f := 704) hx hb hown hU iu7 hw Ta0 (by decide) rfl (hU _ tw216) rfl dX7_tryShafts_6 ?_
  refine lv_icmp_gt (tgt := 13) hx hb dX7_tryShafts_9 (by decide) (fun h1 => ?_) (fun h1 => ?_)
  · rw [if_pos h1] at hm
    refine lv_iload_n hx hb dX7_tryShafts_13 rfl (lv_at hl 2 rfl) ?_
    refine lv_if_gt (tgt := 39) hx hb dX7_tryShafts_14 (by decide) (fun h2 => ?_) (fun h2 => ?_)
    · rw [if_pos h2] at hm
      refine lv_aload_n hx hb dX7_tryShafts_39 rfl (lv_at hl 0 rfl) ?_
      obtain ⟨q3, hq3, hm⟩ := bd_some hm
      have Tq3 : TY S0 q3 8 := hw.wf.ref (k := 7) (j := 1) Ta0 (by decide) (by decide) hq3
      refine pg_rb (k := 7) (j := 1) (f := 701) hx hb hown hU iu7 hw Ta0 (by decide) rfl (hU _ tw209) rfl hq3 dX7_tryShafts_40 ?_
      refine pgN_i (k := 8) (j := 3) (f := 803) hx hb hown hU iu8 hw Tq3 (by decide) rfl 49 rfl rfl dX7_tryShafts_43 ?_
      refine lv_iload hx hb dX7_tryShafts_46 (lv_at hl 4 rfl) ?_
      refine lv_iadd hx hb dX7_tryShafts_48 ?_
      refine lv_istore (lv' := [(8, .int ((pI S0 803 q3) + x4)), (0, .ref a0), (1, .int x1), (2, .int x2), (3, .int x3), (4, .int x4), (5, .int x5), (6, .int x6), (7, .int x7)]) hx hb dX7_tryShafts_49 hl (by decide) rfl (fun ls hl => ?_)
      refine lv_aload_n hx hb dX7_tryShafts_51 rfl (lv_at hl 1 rfl) ?_
      refine lv_iload_n hx hb dX7_tryShafts_52 rfl (lv_at hl 2 rfl) ?_
      refine lv_iload hx hb dX7_tryShafts_53 (lv_at hl 0 rfl) ?_
      obtain ⟨r6, S_4, hq5, hm⟩ := cb_some hm
      refine pw_cz (va_runV (As := [.int x1, .int ((pI S0 803 q3) + x4)]) (rest := []) ⟨hx, hb, hml, hown, hU⟩ (c_X7_isMineOpen l C X n S0 hw.wf _ a0 x1 ((pI S0 803 q3) + x4) (Ta0) r6 S_4 hq5) (cwV 2 hU (pq_gV tw921 tw923 ts65 tw3 tc_X7_isMineOpen) rfl rfl rfl cd_X7_isMineOpen ⟨Nat.le_trans (Nat.le_of_ble_eq_true rfl) (Nat.le_add_right _ _), Nat.le_trans (Nat.le_of_ble_eq_true rfl) (Nat.le_add_right _ _)⟩) (pw_preV hw Ta0 (by decide) rfl) rfl rfl hl.1 rfl (lv_room (Nat.le_of_ble_eq_true rfl)) dX7_tryShafts_55 ⟨Nat.zero_le _, Nat.zero_le _⟩) hw (fun H locs hw hx7 hz8 => ?_)
      have Ta0 : TY S_4 a0 7 := ty_ext hx7 Ta0
      have hE : Ext S0 S_4 := Ext.tr hE hx7
      refine lv_if_eq (tgt := 65) hx hb dX7_tryShafts_58 (by decide) (fun h9 => ?_) (fun h9 => ?_)
      · rw [if_pos h9] at hm
        refine lv_iconst (v := 0) hx hb dX7_tryShafts_65 (by decide) ?_
        exact wb_X7_tryShafts_66 cx C X S0 n d rec hrec S1 a0 x1 x2 x3 x4 x5 x6 x7 ((pI S0 803 q3) + x4) 0 S_4 _ _ _ hw hE Ta0 (lv_sub hl [1, 2, 3, 4, 5, 6, 7, 8, 0] rfl) hm
      · rw [if_neg h9] at hm
        refine lv_iload_n hx hb dX7_tryShafts_61 rfl (lv_at hl 4 rfl) ?_
        refine lv_goto (tgt := 66) hx hb dX7_tryShafts_62 (by decide) ?_
        exact wb_X7_tryShafts_66 cx C X S0 n d rec hrec S1 a0 x1 x2 x3 x4 x5 x6 x7 ((pI S0 803 q3) + x4) x3 S_4 _ _ _ hw hE Ta0 (lv_sub hl [1, 2, 3, 4, 5, 6, 7, 8, 0] rfl) hm
    · rw [if_neg h2] at hm
      refine lv_iload hx hb dX7_tryShafts_17 (lv_at hl 6 rfl) ?_
      refine lv_aload_n hx hb dX7_tryShafts_19 rfl (lv_at hl 0 rfl) ?_
      refine pg_i (k := 7) (j := 4) (f := 704) hx hb hown hU iu7 hw Ta0 (by decide) rfl (hU _ tw216) rfl dX7_tryShafts_20 ?_
      refine lv_icmp_le (tgt := 38) hx hb dX7_tryShafts_23 (by decide) (fun h10 => ?_) (fun h10 => ?_)
      · rw [if_pos h10] at hm
        cases hm
        exact pw_vret hx hb hr hlk hw hE dX7_tryShafts_38
      · rw [if_neg h10] at hm
        refine lv_aload_n hx hb dX7_tryShafts_26 rfl (lv_at hl 0 rfl) ?_
        refine lv_iload hx hb dX7_tryShafts_27 (lv_at hl 6 rfl) ?_
        refine pp_i (k := 7) (j := 4) (f := 704) hx hb hown hU iu7 tyX7_ok nmX7 hw Ta0 (by decide) rfl (hU _ tw216) rfl rfl rfl dX7_tryShafts_29 (fun H locs hw => ?_)
        refine lv_aload_n hx hb dX7_tryShafts_32 rfl (lv_at hl 0 rfl) ?_
        refine lv_iload hx hb dX7_tryShafts_33 (lv_at hl 7 rfl) ?_
        refine pp_i (k := 7) (j := 5) (f := 705) hx hb hown hU iu7 tyX7_ok nmX7 hw Ta0 (by decide) rfl (hU _ tw218) rfl rfl rfl dX7_tryShafts_35 (fun H locs hw => ?_)
        cases hm
        exact pw_vret hx hb hr hlk hw hE dX7_tryShafts_38
  · rw [if_neg h1] at hm
    cases hm
    exact pw_vret hx hb hr hlk hw hE dX7_tryShafts_12
def m_tryS_d (n : Nat) : Nat → ((Nat → Int32 → Int32 → Int32 → Int32 → Int32 → Int32 → Int32 → pq_S → Option pq_S))
  | 0 => (fun _ _ _ _ _ _ _ _ _ => none)
  | d + 1 => (g_X7_tryShafts n (m_tryS_d n d))
theorem hg_tryS (n : Nat) : ∀ d : Nat, HG_tryS n d (m_tryS_d n d) := by
  intro d
  induction d with
  | zero =>
    exact fun _ _ _ _ _ _ _ _ _ _ _ _ _ _ _ _ hm => by cases hm
  | succ d ih =>
    exact (fun q0 q1 q2 q3 q4 q5 q6 q7 q8 q9 q10 q11 q12 q13 q14 q15 hm => cg_X7_tryShafts n d _ ih q0 q1 q2 q3 q4 q5 q6 q7 q8 q9 q10 q11 q12 q13 q14 q15 hm)
def m_X7_tryShafts (n : Nat) (a0 : Nat) (x1 : Int32) (x2 : Int32) (x3 : Int32) (x4 : Int32) (x5 : Int32) (x6 : Int32) (x7 : Int32) (S : pq_S) : Option pq_S := (m_tryS_d n 64) a0 x1 x2 x3 x4 x5 x6 x7 S
abbrev rm_X7_tryShafts : Room := { frames := 68, cells := 0, slots := 0, locals := 2099 }
theorem c_X7_tryShafts (l : Launch) (C : pq_C) (X : va_W) (n : Nat) (S0 : pq_S) (hF : WF S0) (sz : Nat) (a0 : Nat) (x1 : Int32) (x2 : Int32) (x3 : Int32) (x4 : Int32) (x5 : Int32) (x6 : Int32) (x7 : Int32) (Ta0 : TY S0 a0 7) (S1 : pq_S) (hm : m_X7_tryShafts n a0 x1 x2 x3 x4 x5 x6 x7 S0 = some S1) : MV l yX7_tryShafts (.code yX7_tryShafts cX7_tryShafts 12 none :: pq_U) rm_X7_tryShafts C X S0 sz [.ref a0, .int x1, .int x2, .int x3, .int x4, .int x5, .int x6, .int x7] S1 0 0 := (hg_tryS n 64) l C X S0 hF sz a0 x1 x2 x3 x4 x5 x6 x7 Ta0 S1 hm
abbrev rmg_seaM (d : Nat) : Room := { frames := 3 + d, cells := 0, slots := 0, locals := 68 + d * 28 }
theorem rmg_seaM_l (d : Nat) {q : Nat} (h : q ≤ 9) : 8 + (q + 11) + (rmg_seaM d).locals ≤ (rmg_seaM (d + 1)).locals := by show 8 + (q + 11) + (68 + d * 28) ≤ 68 + (d + 1) * 28; omega
theorem tc_X12_seams : Cond.code yX12_seams cX12_seams 9 none ∈ pq_U := tw2053
theorem cd_X12_seams : yX12_seams.cls = RX12 ∧ yX12_seams.cls ≠ "java/lang/invoke/MethodHandle" ∧ yX12_seams.cls ≠ "java/lang/invoke/VarHandle" ∧ (parseMethodDescriptor yX12_seams.desc).map (fun d => d.parameters.length) = some 5 := by decide +kernel
def HG_seaM (n d : Nat) (rec : (Nat → Int32 → Int32 → Int32 → Int32 → Int32 → pq_S → Option pq_S)) : Prop := (∀ (l : Launch) (C : pq_C) (X : va_W) (S0 : pq_S) (_ : WF S0) (sz : Nat) (a0 : Nat) (x1 : Int32) (x2 : Int32) (x3 : Int32) (x4 : Int32) (x5 : Int32) (_Ta0 : TY S0 a0 12) (S1 : pq_S), rec a0 x1 x2 x3 x4 x5 S0 = some S1 → MV l yX12_seams (.code yX12_seams cX12_seams 9 none :: pq_U) (rmg_seaM d) C X S0 sz [.ref a0, .int x1, .int x2, .int x3, .int x4, .int x5] S1 0 0)
def b_X12_seams_60 (n : Nat) (rec : (Nat → Int32 → Int32 → Int32 → Int32 → Int32 → pq_S → Option pq_S))  (S : pq_S) : Option pq_S := some S
set_option maxHeartbeats 4000000 in
set_option maxRecDepth 100000 in
theorem wb_X12_seams_60 {p : Program} {l : Launch} {e : Env} {s : State} {m : MethodId} {args : Array Value} {below : List Frame} {meth : Method} {c : Code} (cx : Cx p s m args meth c cX12_seams 9 RX12 none) (C : pq_C) (X : va_W) (S0 : pq_S) (n : Nat) (d : Nat) (rec : (Nat → Int32 → Int32 → Int32 → Int32 → Int32 → pq_S → Option pq_S)) (hrec : HG_seaM n d rec) (S1 : pq_S) : ∀  (S : pq_S) (H : Heap) (locs : List Loc) (ls : Array Slot), PW C X S (pq_F C X S0 s.heap.size) H locs s → Ext S0 S → lv_has ls 9 [] → b_X12_seams_60 n rec  S = some S1 → W p l e (rmg_seaM (d + 1)) s m args below meth c H locs 0 0 (MQ below (QcV C X S0 s.heap.size S1) args s 0 0 (pq_F C X S0 s.heap.size)) (F0 m 60 ls []) := by
  obtain ⟨hx, hb, hml, hown, hU, hr, hlk⟩ := id cx
  intro S H locs ls hw hE hl hm
  rw [b_X12_seams_60] at hm
  refine lv_goto (tgt := 159) hx hb dX12_seams_60 (by decide) ?_
  cases hm
  exact pw_vret hx hb hr hlk hw hE dX12_seams_159
def b_X12_seams_79 (n : Nat) (rec : (Nat → Int32 → Int32 → Int32 → Int32 → Int32 → pq_S → Option pq_S)) (k23 : Nat → Int32 → Int32 → Int32 → Int32 → Int32 → Int32 → Int32 → pq_S → Option pq_S) (a0 : Nat) (x1 : Int32) (x2 : Int32) (x3 : Int32) (x4 : Int32) (x5 : Int32) (x6 : Int32) (x7 : Int32) (z0 : Int32) (S : pq_S) : Option pq_S := Option.bind (pR S 1247 a0) fun q19 => ck (ix ((42 : Int32) + x1) (pN S q19)) (dix _ _) (ck (ix ((42 : Int32) + x1) (pN S q19)) (dix _ _) (lt_ (sA S q19 (Int32.toNatClampNeg ((42 : Int32) + x1)) ((pA S q19 (Int32.toNatClampNeg ((42 : Int32) + x1))) - z0)) fun S_22 => Option.bind (pR S_22 1247 a0) fun q23 => ck (ix 48 (pN S_22 q23)) (dix _ _) (ck (ix 48 (pN S_22 q23)) (dix _ _) (lt_ (sA S_22 q23 (Int32.toNatClampNeg 48) ((pA S_22 q23 (Int32.toNatClampNeg 48)) + (1 : Int32))) fun S_26 => Option.bind (rec a0 x1 (x2 - (1 : Int32)) x3 ((x4 + z0) - x7) (((10 : Int32) * x5) + x7) S_26) fun S_27 => Option.bind (pR S_27 1247 a0) fun q30 => ck (ix 48 (pN S_27 q30)) (dix _ _) (ck (ix 48 (pN S_27 q30)) (dix _ _) (lt_ (sA S_27 q30 (Int32.toNatClampNeg 48) ((pA S_27 q30 (Int32.toNatClampNeg 48)) - (1 : Int32))) fun S_33 => Option.bind (pR S_33 1247 a0) fun q34 => ck (ix ((42 : Int32) + x1) (pN S_33 q34)) (dix _ _) (k23 a0 x1 x2 x3 x4 x5 x6 (x7 + 1) (sA S_33 q34 (Int32.toNatClampNeg ((42 : Int32) + x1)) x6))))))))
set_option maxHeartbeats 4000000 in
set_option maxRecDepth 100000 in
theorem wb_X12_seams_79 {p : Program} {l : Launch} {e : Env} {s : State} {m : MethodId} {args : Array Value} {below : List Frame} {meth : Method} {c : Code} (cx : Cx p s m args meth c cX12_seams 9 RX12 none) (C : pq_C) (X : va_W) (S0 : pq_S) (n : Nat) (d : Nat) (rec : (Nat → Int32 → Int32 → Int32 → Int32 → Int32 → pq_S → Option pq_S)) (hrec : HG_seaM n d rec) (S1 : pq_S) (k23 : Nat → Int32 → Int32 → Int32 → Int32 → Int32 → Int32 → Int32 → pq_S → Option pq_S) (hk23 : ∀ (a0 : Nat) (x1 : Int32) (x2 : Int32) (x3 : Int32) (x4 : Int32) (x5 : Int32) (x6 : Int32) (x7 : Int32) (S : pq_S) (H : Heap) (locs : List Loc) (ls : Array Slot), PW C X S (pq_F C X S0 s.heap.size) H locs s → Ext S0 S → TY S a0 12 → lv_has ls 9 [(0, .ref a0), (1, .int x1), (2, .int x2), (3, .int x3), (4, .int x4), (5, .int x5), (6, .int x6), (7, .int x7)] → k23 a0 x1 x2 x3 x4 x5 x6 x7 S = some S1 → W p l e (rmg_seaM (d + 1)) s m args below meth c H locs 0 0 (MQ below (QcV C X S0 s.heap.size S1) args s 0 0 (pq_F C X S0 s.heap.size)) (F0 m 41 ls [])) : ∀ (a0 : Nat) (x1 : Int32) (x2 : Int32) (x3 : Int32) (x4 : Int32) (x5 : Int32) (x6 : Int32) (x7 : Int32) (z0 : Int32) (S : pq_S) (H : Heap) (locs : List Loc) (ls : Array Slot), PW C X S (pq_F C X S0 s.heap.size) H locs s → Ext S0 S → TY S a0 12 → lv_has ls 9 [(0, .ref a0), (1, .int x1), (2, .int x2), (3, .int x3), (4, .int x4), (5, .int x5), (6, .int x6), (7, .int x7)] → b_X12_seams_79 n rec k23 a0 x1 x2 x3 x4 x5 x6 x7 z0 S = some S1 → W p l e (rmg_seaM (d + 1)) s m args below meth c H locs 0 0 (MQ below (QcV C X S0 s.heap.size S1) args s 0 0 (pq_F C X S0 s.heap.size)) (F0 m 79 ls [.int z0]) := by
  obtain ⟨hx, hb, hml, hown, hU, hr, hlk⟩ := id cx
  intro a0 x1 x2 x3 x4 x5 x6 x7 z0 S H locs ls hw hE Ta0 hl hm
  rw [b_X12_seams_79] at hm
  refine lv_istore (lv' := [(8, .int z0), (0, .ref a0), (1, .int x1), (2, .int x2), (3, .int x3), (4, .int x4), (5, .int x5), (6, .int x6), (7, .int x7)]) hx hb dX12_seams_79 hl (by decide) rfl (fun ls hl => ?_)
  refine lv_aload_n hx hb dX12_seams_81 rfl (lv_at hl 1 rfl) ?_
  obtain ⟨q19, hq19, hm⟩ := bd_some hm
  have Tq19 : TY S q19 14 := hw.wf.ref (k := 12) (j := 47) Ta0 (by decide) (by decide) hq19
  refine pg_rb (k := 12) (j := 47) (f := 1247) hx hb hown hU iu12 hw Ta0 (by decide) rfl (hU _ tw1518) rfl hq19 dX12_seams_82 ?_
  refine lv_bipush (v := 42) hx hb dX12_seams_85 (by decide) ?_
  refine lv_iload_n hx hb dX12_seams_87 rfl (lv_at hl 2 rfl) ?_
  refine lv_iadd hx hb dX12_seams_88 ?_
  refine lv_dup2_11 hx hb dX12_seams_89 rfl rfl ?_
  obtain ⟨hi20, hm⟩ := ck_some hm
  refine pw_iald hx hb hw Tq19 hi20 dX12_seams_90 ?_
  refine lv_iload hx hb dX12_seams_91 (lv_at hl 0 rfl) ?_
  refine lv_isub hx hb dX12_seams_93 ?_
  obtain ⟨hi21, hm⟩ := ck_some hm
  refine pw_iast hx hb hw Tq19 hi21 dX12_seams_94 (fun H locs hw => ?_)
  obtain ⟨S_22, eS_22, hm⟩ := lt_some hm
  rw [← eS_22] at hw
  have Ta0 : TY S_22 a0 12 := by rw [eS_22]; exact Ta0
  have hE : Ext S0 S_22 := by rw [eS_22]; exact hE
  refine lv_aload_n hx hb dX12_seams_95 rfl (lv_at hl 1 rfl) ?_
  obtain ⟨q23, hq23, hm⟩ := bd_some hm
  have Tq23 : TY S_22 q23 14 := hw.wf.ref (k := 12) (j := 47) Ta0 (by decide) (by decide) hq23
  refine pg_rb (k := 12) (j := 47) (f := 1247) hx hb hown hU iu12 hw Ta0 (by decide) rfl (hU _ tw1518) rfl hq23 dX12_seams_96 ?_
  refine lv_bipush (v := 48) hx hb dX12_seams_99 (by decide) ?_
  refine lv_dup2_11 hx hb dX12_seams_101 rfl rfl ?_
  obtain ⟨hi24, hm⟩ := ck_some hm
  refine pw_iald hx hb hw Tq23 hi24 dX12_seams_102 ?_
  refine lv_iconst (v := 1) hx hb dX12_seams_103 (by decide) ?_
  refine lv_iadd hx hb dX12_seams_104 ?_
  obtain ⟨hi25, hm⟩ := ck_some hm
  refine pw_iast hx hb hw Tq23 hi25 dX12_seams_105 (fun H locs hw => ?_)
  obtain ⟨S_26, eS_26, hm⟩ := lt_some hm
  rw [← eS_26] at hw
  have Ta0 : TY S_26 a0 12 := by rw [eS_26]; exact Ta0
  have hE : Ext S0 S_26 := by rw [eS_26]; exact hE
  refine lv_aload_n hx hb dX12_seams_106 rfl (lv_at hl 1 rfl) ?_
  refine lv_iload_n hx hb dX12_seams_107 rfl (lv_at hl 2 rfl) ?_
  refine lv_iload_n hx hb dX12_seams_108 rfl (lv_at hl 3 rfl) ?_
  refine lv_iconst (v := 1) hx hb dX12_seams_109 (by decide) ?_
  refine lv_isub hx hb dX12_seams_110 ?_
  refine lv_iload_n hx hb dX12_seams_111 rfl (lv_at hl 4 rfl) ?_
  refine lv_iload hx hb dX12_seams_112 (lv_at hl 5 rfl) ?_
  refine lv_iload hx hb dX12_seams_114 (lv_at hl 0 rfl) ?_
  refine lv_iadd hx hb dX12_seams_116 ?_
  refine lv_iload hx hb dX12_seams_117 (lv_at hl 8 rfl) ?_
  refine lv_isub hx hb dX12_seams_119 ?_
  refine lv_bipush (v := 10) hx hb dX12_seams_120 (by decide) ?_
  refine lv_iload hx hb dX12_seams_122 (lv_at hl 6 rfl) ?_
  refine lv_imul hx hb dX12_seams_124 ?_
  refine lv_iload hx hb dX12_seams_125 (lv_at hl 8 rfl) ?_
  refine lv_iadd hx hb dX12_seams_127 ?_
  obtain ⟨S_27, hq28, hm⟩ := bd_some hm
  refine pw_cv (va_runV (As := [.int x1, .int (x2 - (1 : Int32)), .int x3, .int ((x4 + z0) - x7), .int (((10 : Int32) * x5) + x7)]) (rest := []) ⟨hx, hb, hml, hown, hU⟩ (hrec l C X S_26 hw.wf _ a0 x1 (x2 - (1 : Int32)) x3 ((x4 + z0) - x7) (((10 : Int32) * x5) + x7) (Ta0) S_27 hq28) (cwV 5 hU (pq_gV tw2050 tw2052 ts173 tw14 tc_X12_seams) rfl rfl rfl cd_X12_seams ⟨Nat.le_refl _, rmg_seaM_l d (by decide)⟩) (pw_preV hw Ta0 (by decide) rfl) rfl rfl hl.1 rfl (lv_room (Nat.le_of_ble_eq_true rfl)) dX12_seams_128 ⟨Nat.zero_le _, Nat.zero_le _⟩) hw (fun H locs hw hx29 => ?_)
  have Ta0 : TY S_27 a0 12 := ty_ext hx29 Ta0
  have hE : Ext S0 S_27 := Ext.tr hE hx29
  refine lv_aload_n hx hb dX12_seams_131 rfl (lv_at hl 1 rfl) ?_
  obtain ⟨q30, hq30, hm⟩ := bd_some hm
  have Tq30 : TY S_27 q30 14 := hw.wf.ref (k := 12) (j := 47) Ta0 (by decide) (by decide) hq30
  refine pg_rb (k := 12) (j := 47) (f := 1247) hx hb hown hU iu12 hw Ta0 (by decide) rfl (hU _ tw1518) rfl hq30 dX12_seams_132 ?_
  refine lv_bipush (v := 48) hx hb dX12_seams_135 (by decide) ?_
  refine lv_dup2_11 hx hb dX12_seams_137 rfl rfl ?_
  obtain ⟨hi31, hm⟩ := ck_some hm
  refine pw_iald hx hb hw Tq30 hi31 dX12_seams_138 ?_
  refine lv_iconst (v := 1) hx hb dX12_seams_139 (by decide) ?_
  refine lv_isub hx hb dX12_seams_140 ?_
  obtain ⟨hi32, hm⟩ := ck_some hm
  refine pw_iast hx hb hw Tq30 hi32 dX12_seams_141 (fun H locs hw => ?_)
  obtain ⟨S_33, eS_33, hm⟩ := lt_some hm
  rw [← eS_33] at hw
  have Ta0 : TY S_33 a0 12 := by rw [eS_33]; exact Ta0
  have hE : Ext S0 S_33 := by rw [eS_33]; exact hE
  refine lv_aload_n hx hb dX12_seams_142 rfl (lv_at hl 1 rfl) ?_
  obtain ⟨q34, hq34, hm⟩ := bd_some hm
  have Tq34 : TY S_33 q34 14 := hw.wf.ref (k := 12) (j := 47) Ta0 (by decide) (by decide) hq34
  refine pg_rb (k := 12) (j := 47) (f := 1247) hx hb hown hU iu12 hw Ta0 (by decide) rfl (hU _ tw1518) rfl hq34 dX12_seams_143 ?_
  refine lv_bipush (v := 42) hx hb dX12_seams_146 (by decide) ?_
  refine lv_iload_n hx hb dX12_seams_148 rfl (lv_at hl 2 rfl) ?_
  refine lv_iadd hx hb dX12_seams_149 ?_
  refine lv_iload hx hb dX12_seams_150 (lv_at hl 7 rfl) ?_
  obtain ⟨hi35, hm⟩ := ck_some hm
  refine pw_iast hx hb hw Tq34 hi35 dX12_seams_152 (fun H locs hw => ?_)
  refine lv_iinc (v := (x7 + 1)) (lv' := [(7, .int (x7 + 1)), (8, .int z0), (0, .ref a0), (1, .int x1), (2, .int x2), (3, .int x3), (4, .int x4), (5, .int x5), (6, .int x6)]) hx hb dX12_seams_153 hl (k := 8) rfl rfl (by decide) rfl (fun ls hl => ?_)
  refine lv_goto (tgt := 41) hx hb dX12_seams_156 (by decide) ?_
  exact hk23 a0 x1 x2 x3 x4 x5 x6 (x7 + 1) (sA S_33 q34 (Int32.toNatClampNeg ((42 : Int32) + x1)) x6) _ _ _ hw hE Ta0 (lv_sub hl [2, 3, 4, 5, 6, 7, 8, 0] rfl) hm
def b_X12_seams_63 (n : Nat) (rec : (Nat → Int32 → Int32 → Int32 → Int32 → Int32 → pq_S → Option pq_S)) (k23 : Nat → Int32 → Int32 → Int32 → Int32 → Int32 → Int32 → Int32 → pq_S → Option pq_S) (a0 : Nat) (x1 : Int32) (x2 : Int32) (x3 : Int32) (x4 : Int32) (x5 : Int32) (x6 : Int32) (x7 : Int32) (S : pq_S) : Option pq_S := if x7 = 0 then b_X12_seams_79 n rec k23 a0 x1 x2 x3 x4 x5 x6 x7 0 S else cb (m_X12_digOf n a0 x1 x7 S) fun r17 S_15 => b_X12_seams_79 n rec k23 a0 x1 x2 x3 x4 x5 x6 x7 r17 S_15
set_option maxHeartbeats 4000000 in
set_option maxRecDepth 100000 in
theorem wb_X12_seams_63 {p : Program} {l : Launch} {e : Env} {s : State} {m : MethodId} {args : Array Value} {below : List Frame} {meth : Method} {c : Code} (cx : Cx p s m args meth c cX12_seams 9 RX12 none) (C : pq_C) (X : va_W) (S0 : pq_S) (n : Nat) (d : Nat) (rec : (Nat → Int32 → Int32 → Int32 → Int32 → Int32 → pq_S → Option pq_S)) (hrec : HG_seaM n d rec) (S1 : pq_S) (k23 : Nat → Int32 → Int32 → Int32 → Int32 → Int32 → Int32 → Int32 → pq_S → Option pq_S) (hk23 : ∀ (a0 : Nat) (x1 : Int32) (x2 : Int32) (x3 : Int32) (x4 : Int32) (x5 : Int32) (x6 : Int32) (x7 : Int32) (S : pq_S) (H : Heap) (locs : List Loc) (ls : Array Slot), PW C X S (pq_F C X S0 s.heap.size) H locs s → Ext S0 S → TY S a0 12 → lv_has ls 9 [(0, .ref a0), (1, .int x1), (2, .int x2), (3, .int x3), (4, .int x4), (5, .int x5), (6, .int x6), (7, .int x7)] → k23 a0 x1 x2 x3 x4 x5 x6 x7 S = some S1 → W p l e (rmg_seaM (d + 1)) s m args below meth c H locs 0 0 (MQ below (QcV C X S0 s.heap.size S1) args s 0 0 (pq_F C X S0 s.heap.size)) (F0 m 41 ls [])) : ∀ (a0 : Nat) (x1 : Int32) (x2 : Int32) (x3 : Int32) (x4 : Int32) (x5 : Int32) (x6 : Int32) (x7 : Int32) (S : pq_S) (H : Heap) (locs : List Loc) (ls : Array Slot), PW C X S (pq_F C X S0 s.heap.size) H locs s → Ext S0 S → TY S a0 12 → lv_has ls 9 [(0, .ref a0), (1, .int x1), (2, .int x2), (3, .int x3), (4, .int x4), (5, .int x5), (6, .int x6), (7, .int x7)] → b_X12_seams_63 n rec k23 a0 x1 x2 x3 x4 x5 x6 x7 S = some S1 → W p l e (rmg_seaM (d + 1)) s m args below meth c H locs 0 0 (MQ below (QcV C X S0 s.heap.size S1) args s 0 0 (pq_F C X S0 s.heap.size)) (F0 m 63 ls []) := by
  obtain ⟨hx, hb, hml, hown, hU, hr, hlk⟩ := id cx
  intro a0 x1 x2 x3 x4 x5 x6 x7 S H locs ls hw hE Ta0 hl hm
  rw [b_X12_seams_63] at hm
  refine lv_iload hx hb dX12_seams_63 (lv_at hl 7 rfl) ?_
  refine lv_if_ne (tgt := 72) hx hb dX12_seams_65 (by decide) (fun h14 => ?_) (fun h14 => ?_)
  · rw [if_neg h14] at hm
    refine lv_aload_n hx hb dX12_seams_72 rfl (lv_at hl 0 rfl) ?_
    refine lv_iload_n hx hb dX12_seams_73 rfl (lv_at hl 1 rfl) ?_
    refine lv_iload hx hb dX12_seams_74 (lv_at hl 7 rfl) ?_
    obtain ⟨r17, S_15, hq16, hm⟩ := cb_some hm
    refine pw_ci (va_runV (As := [.int x1, .int x7]) (rest := []) ⟨hx, hb, hml, hown, hU⟩ (c_X12_digOf l C X n S hw.wf _ a0 x1 x7 (Ta0) r17 S_15 hq16) (cwV 2 hU (pq_gV tw1890 tw1892 ts157 tw14 tc_X12_digOf) rfl rfl rfl cd_X12_digOf ⟨Nat.le_trans (Nat.le_of_ble_eq_true rfl) (Nat.le_add_right _ _), Nat.le_trans (Nat.le_of_ble_eq_true rfl) (Nat.le_add_right _ _)⟩) (pw_preV hw Ta0 (by decide) rfl) rfl rfl hl.1 rfl (lv_room (Nat.le_of_ble_eq_true rfl)) dX12_seams_76 ⟨Nat.zero_le _, Nat.zero_le _⟩) hw (fun H locs hw hx18 => ?_)
    have Ta0 : TY S_15 a0 12 := ty_ext hx18 Ta0
    have hE : Ext S0 S_15 := Ext.tr hE hx18
    exact wb_X12_seams_79 cx C X S0 n d rec hrec S1 _ hk23 a0 x1 x2 x3 x4 x5 x6 x7 r17 S_15 _ _ _ hw hE Ta0 (lv_sub hl [0, 1, 2, 3, 4, 5, 6, 7] rfl) hm
  · rw [if_pos h14] at hm
    refine lv_iconst (v := 0) hx hb dX12_seams_68 (by decide) ?_
    refine lv_goto (tgt := 79) hx hb dX12_seams_69 (by decide) ?_
    exact wb_X12_seams_79 cx C X S0 n d rec hrec S1 _ hk23 a0 x1 x2 x3 x4 x5 x6 x7 0 S _ _ _ hw hE Ta0 (lv_sub hl [0, 1, 2, 3, 4, 5, 6, 7] rfl) hm
def b_X12_seams_41 (n : Nat) (rec : (Nat → Int32 → Int32 → Int32 → Int32 → Int32 → pq_S → Option pq_S)) : Nat → Nat → Int32 → Int32 → Int32 → Int32 → Int32 → Int32 → Int32 → pq_S → Option pq_S
  | 0, _, _, _, _, _, _, _, _, _ => none
  | f + 1, a0, x1, x2, x3, x4, x5, x6, x7, S => if x3 < x7 then some S else if x7 ≤ 0 then b_X12_seams_63 n rec (b_X12_seams_41 n rec f) a0 x1 x2 x3 x4 x5 x6 x7 S else cb (m_X12_isOpenMine n a0 x1 S) fun r10 S_8 => if r10 = 0 then b_X12_seams_60 n rec  S_8 else b_X12_seams_63 n rec (b_X12_seams_41 n rec f) a0 x1 x2 x3 x4 x5 x6 x7 S_8
set_option maxHeartbeats 4000000 in
set_option maxRecDepth 100000 in
theorem wb_X12_seams_41 {p : Program} {l : Launch} {e : Env} {s : State} {m : MethodId} {args : Array Value} {below : List Frame} {meth : Method} {c : Code} (cx : Cx p s m args meth c cX12_seams 9 RX12 none) (C : pq_C) (X : va_W) (S0 : pq_S) (n : Nat) (d : Nat) (rec : (Nat → Int32 → Int32 → Int32 → Int32 → Int32 → pq_S → Option pq_S)) (hrec : HG_seaM n d rec) (S1 : pq_S) : ∀ (f : Nat) (a0 : Nat) (x1 : Int32) (x2 : Int32) (x3 : Int32) (x4 : Int32) (x5 : Int32) (x6 : Int32) (x7 : Int32) (S : pq_S) (H : Heap) (locs : List Loc) (ls : Array Slot), PW C X S (pq_F C X S0 s.heap.size) H locs s → Ext S0 S → TY S a0 12 → lv_has ls 9 [(0, .ref a0), (1, .int x1), (2, .int x2), (3, .int x3), (4, .int x4), (5, .int x5), (6, .int x6), (7, .int x7)] → b_X12_seams_41 n rec f a0 x1 x2 x3 x4 x5 x6 x7 S = some S1 → W p l e (rmg_seaM (d + 1)) s m args below meth c H locs 0 0 (MQ below (QcV C X S0 s.heap.size S1) args s 0 0 (pq_F C X S0 s.heap.size)) (F0 m 41 ls []) := by
  obtain ⟨hx, hb, hml, hown, hU, hr, hlk⟩ := id cx
  intro f
  induction f with
  | zero =>
    intro a0 x1 x2 x3 x4 x5 x6 x7 S H locs ls hw hE Ta0 hl hm
    cases hm
  | succ f ih =>
    intro a0 x1 x2 x3 x4 x5 x6 x7 S H locs ls hw hE Ta0 hl hm
    rw [b_X12_seams_41] at hm
    refine lv_iload hx hb dX12_seams_41 (lv_at hl 7 rfl) ?_
    refine lv_iload_n hx hb dX12_seams_43 rfl (lv_at hl 3 rfl) ?_
    refine lv_icmp_gt (tgt := 159) hx hb dX12_seams_44 (by decide) (fun h6 => ?_) (fun h6 => ?_)
    · rw [if_pos h6] at hm
      cases hm
      exact pw_vret hx hb hr hlk hw hE dX12_seams_159
    · rw [if_neg h6] at hm
      refine lv_iload hx hb dX12_seams_47 (lv_at hl 7 rfl) ?_
      refine lv_if_le (tgt := 63) hx hb dX12_seams_49 (by decide) (fun h7 => ?_) (fun h7 => ?_)
      · rw [if_pos h7] at hm
        exact wb_X12_seams_63 cx C X S0 n d rec hrec S1 _ ih a0 x1 x2 x3 x4 x5 x6 x7 S _ _ _ hw hE Ta0 (lv_sub hl [0, 1, 2, 3, 4, 5, 6, 7] rfl) hm
      · rw [if_neg h7] at hm
        refine lv_aload_n hx hb dX12_seams_52 rfl (lv_at hl 0 rfl) ?_
        refine lv_iload_n hx hb dX12_seams_53 rfl (lv_at hl 1 rfl) ?_
        obtain ⟨r10, S_8, hq9, hm⟩ := cb_some hm
        refine pw_cz (va_runV (As := [.int x1]) (rest := []) ⟨hx, hb, hml, hown, hU⟩ (c_X12_isOpenMine l C X n S hw.wf _ a0 x1 (Ta0) r10 S_8 hq9) (cwV 1 hU (pq_gV tw1886 tw1888 ts156 tw14 tc_X12_isOpenMine) rfl rfl rfl cd_X12_isOpenMine ⟨Nat.le_trans (Nat.le_of_ble_eq_true rfl) (Nat.le_add_right _ _), Nat.le_trans (Nat.le_of_ble_eq_true rfl) (Nat.le_add_right _ _)⟩) (pw_preV hw Ta0 (by decide) rfl) rfl rfl hl.1 rfl (lv_room (Nat.le_of_ble_eq_true rfl)) dX12_seams_54 ⟨Nat.zero_le _, Nat.zero_le _⟩) hw (fun H locs hw hx11 hz12 => ?_)
        have Ta0 : TY S_8 a0 12 := ty_ext hx11 Ta0
        have hE : Ext S0 S_8 := Ext.tr hE hx11
        refine lv_if_ne (tgt := 63) hx hb dX12_seams_57 (by decide) (fun h13 => ?_) (fun h13 => ?_)
        · rw [if_neg h13] at hm
          exact wb_X12_seams_63 cx C X S0 n d rec hrec S1 _ ih a0 x1 x2 x3 x4 x5 x6 x7 S_8 _ _ _ hw hE Ta0 (lv_sub hl [0, 1, 2, 3, 4, 5, 6, 7] rfl) hm
        · rw [if_pos h13] at hm
          exact wb_X12_seams_60 cx C X S0 n d rec hrec S1  S_8 _ _ _ hw hE  (lv_sub hl [] rfl) hm
def g_X12_seams (n : Nat) (rec : (Nat → Int32 → Int32 → Int32 → Int32 → Int32 → pq_S → Option pq_S)) (a0 : Nat) (x1 : Int32) (x2 : Int32) (x3 : Int32) (x4 : Int32) (x5 : Int32) (S0 : pq_S) : Option pq_S := if x2 = 0 then if (pI S0 1265 a0) < x4 then some (sI (sI S0 1265 a0 x4) 1266 a0 x5) else some S0 else Option.bind (pR S0 1247 a0) fun q2 => ck (ix ((42 : Int32) + x1) (pN S0 q2)) (dix _ _) (lt_ (pA S0 q2 (Int32.toNatClampNeg ((42 : Int32) + x1))) fun v4 => b_X12_seams_41 n rec n a0 x1 x2 x3 x4 x5 v4 0 S0)
set_option maxHeartbeats 4000000 in
set_option maxRecDepth 100000 in
theorem cg_X12_seams (n d : Nat) (rec : (Nat → Int32 → Int32 → Int32 → Int32 → Int32 → pq_S → Option pq_S)) (hrec : HG_seaM n d rec) (l : Launch) (C : pq_C) (X : va_W) (S0 : pq_S) (hF : WF S0) (sz : Nat) (a0 : Nat) (x1 : Int32) (x2 : Int32) (x3 : Int32) (x4 : Int32) (x5 : Int32) (Ta0 : TY S0 a0 12) (S1 : pq_S) (hm : g_X12_seams n rec a0 x1 x2 x3 x4 x5 S0 = some S1) : MV l yX12_seams (.code yX12_seams cX12_seams 9 none :: pq_U) (rmg_seaM (d + 1)) C X S0 sz [.ref a0, .int x1, .int x2, .int x3, .int x4, .int x5] S1 0 0 := by
  refine Met.ofW (cc := cX12_seams) (maxL := 9) (ret := none) (by decide) rfl ?_
  intro p e s m args below meth c s₁ B hml hv
  obtain ⟨rfl, hv⟩ := hv
  have hsz := hv.1
  subst hsz
  have hw := pw_entry hF hv
  have hts := atoms_spec (ws := .code yX12_seams cX12_seams 9 none :: pq_U) B.pre
  have hU : ∀ w ∈ pq_U, w.before _ s = true := fun w h => hts w (List.mem_cons_of_mem _ h)
  have hx := B.exec
  have hb := B.bytes
  have hr := B.returns
  have hown : s.vm.findClass RX12 = some m.cls := findClass_of_methodNamed B.named
  have hlk := B.notSynchronized
  have hl := lv_entry ([.ref a0, .int x1, .int x2, .int x3, .int x4, .int x5]) (n := 9) (Nat.le_of_ble_eq_true rfl)
  rw [lg_entry_eq]
  generalize (lg_sl ([.ref a0, .int x1, .int x2, .int x3, .int x4, .int x5]) ++ List.replicate (9 - (lg_sl ([.ref a0, .int x1, .int x2, .int x3, .int x4, .int x5])).length) Slot.unset).toArray = ls at hl ⊢
  have hl : lv_has ls 9 [(0, .ref a0), (1, .int x1), (2, .int x2), (3, .int x3), (4, .int x4), (5, .int x5)] := hl
  have hE : Ext S0 S0 := Ext.rf _
  have cx : Cx p s m _ meth c cX12_seams 9 RX12 none := ⟨hx, hb, hml, hown, hU, hr, hlk⟩
  rw [g_X12_seams] at hm
  refine lv_iload_n hx hb dX12_seams_0 rfl (lv_at hl 2 rfl) ?_
  refine lv_if_ne (tgt := 27) hx hb dX12_seams_1 (by decide) (fun h1 => ?_) (fun h1 => ?_)
  · rw [if_neg h1] at hm
    refine lv_aload_n hx hb dX12_seams_27 rfl (lv_at hl 0 rfl) ?_
    obtain ⟨q2, hq2, hm⟩ := bd_some hm
    have Tq2 : TY S0 q2 14 := hw.wf.ref (k := 12) (j := 47) Ta0 (by decide) (by decide) hq2
    refine pg_rb (k := 12) (j := 47) (f := 1247) hx hb hown hU iu12 hw Ta0 (by decide) rfl (hU _ tw1518) rfl hq2 dX12_seams_28 ?_
    refine lv_bipush (v := 42) hx hb dX12_seams_31 (by decide) ?_
    refine lv_iload_n hx hb dX12_seams_33 rfl (lv_at hl 1 rfl) ?_
    refine lv_iadd hx hb dX12_seams_34 ?_
    obtain ⟨hi3, hm⟩ := ck_some hm
    refine pw_iald hx hb hw Tq2 hi3 dX12_seams_35 ?_
    obtain ⟨v4, ev4, hm⟩ := lt_some hm
    refine lv_nmI ev4 ?_
    refine lv_istore (lv' := [(6, .int v4), (0, .ref a0), (1, .int x1), (2, .int x2), (3, .int x3), (4, .int x4), (5, .int x5)]) hx hb dX12_seams_36 hl (by decide) rfl (fun ls hl => ?_)
    refine lv_iconst (v := 0) hx hb dX12_seams_38 (by decide) ?_
    refine lv_istore (lv' := [(7, .int 0), (6, .int v4), (0, .ref a0), (1, .int x1), (2, .int x2), (3, .int x3), (4, .int x4), (5, .int x5)]) hx hb dX12_seams_39 hl (by decide) rfl (fun ls hl => ?_)
    exact wb_X12_seams_41 cx C X S0 n d rec hrec S1 n a0 x1 x2 x3 x4 x5 v4 0 S0 _ _ _ hw hE Ta0 (lv_sub hl [2, 3, 4, 5, 6, 7, 1, 0] rfl) hm
  · rw [if_pos h1] at hm
    refine lv_iload hx hb dX12_seams_4 (lv_at hl 4 rfl) ?_
    refine lv_aload_n hx hb dX12_seams_6 rfl (lv_at hl 0 rfl) ?_
    refine pg_i (k := 12) (j := 65) (f := 1265) hx hb hown hU iu12 hw Ta0 (by decide) rfl (hU _ tw1536) rfl dX12_seams_7 ?_
    refine lv_icmp_gt (tgt := 14) hx hb dX12_seams_10 (by decide) (fun h5 => ?_) (fun h5 => ?_)
    · rw [if_pos h5] at hm
      refine lv_aload_n hx hb dX12_seams_14 rfl (lv_at hl 0 rfl) ?_
      refine lv_iload hx hb dX12_seams_15 (lv_at hl 4 rfl) ?_
      refine pp_i (k := 12) (j := 65) (f := 1265) hx hb hown hU iu12 tyX12_ok nmX12 hw Ta0 (by decide) rfl (hU _ tw1536) rfl rfl rfl dX12_seams_17 (fun H locs hw => ?_)
      refine lv_aload_n hx hb dX12_seams_20 rfl (lv_at hl 0 rfl) ?_
      refine lv_iload hx hb dX12_seams_21 (lv_at hl 5 rfl) ?_
      refine pp_i (k := 12) (j := 66) (f := 1266) hx hb hown hU iu12 tyX12_ok nmX12 hw Ta0 (by decide) rfl (hU _ tw1537) rfl rfl rfl dX12_seams_23 (fun H locs hw => ?_)
      cases hm
      exact pw_vret hx hb hr hlk hw hE dX12_seams_26
    · rw [if_neg h5] at hm
      cases hm
      exact pw_vret hx hb hr hlk hw hE dX12_seams_13
def m_seaM_d (n : Nat) : Nat → ((Nat → Int32 → Int32 → Int32 → Int32 → Int32 → pq_S → Option pq_S))
  | 0 => (fun _ _ _ _ _ _ _ => none)
  | d + 1 => (g_X12_seams n (m_seaM_d n d))
theorem hg_seaM (n : Nat) : ∀ d : Nat, HG_seaM n d (m_seaM_d n d) := by
  intro d
  induction d with
  | zero =>
    exact fun _ _ _ _ _ _ _ _ _ _ _ _ _ _ hm => by cases hm
  | succ d ih =>
    exact (fun q0 q1 q2 q3 q4 q5 q6 q7 q8 q9 q10 q11 q12 q13 hm => cg_X12_seams n d _ ih q0 q1 q2 q3 q4 q5 q6 q7 q8 q9 q10 q11 q12 q13 hm)
def m_X12_seams (n : Nat) (a0 : Nat) (x1 : Int32) (x2 : Int32) (x3 : Int32) (x4 : Int32) (x5 : Int32) (S : pq_S) : Option pq_S := (m_seaM_d n 64) a0 x1 x2 x3 x4 x5 S
abbrev rm_X12_seams : Room := { frames := 67, cells := 0, slots := 0, locals := 1860 }
theorem c_X12_seams (l : Launch) (C : pq_C) (X : va_W) (n : Nat) (S0 : pq_S) (hF : WF S0) (sz : Nat) (a0 : Nat) (x1 : Int32) (x2 : Int32) (x3 : Int32) (x4 : Int32) (x5 : Int32) (Ta0 : TY S0 a0 12) (S1 : pq_S) (hm : m_X12_seams n a0 x1 x2 x3 x4 x5 S0 = some S1) : MV l yX12_seams (.code yX12_seams cX12_seams 9 none :: pq_U) rm_X12_seams C X S0 sz [.ref a0, .int x1, .int x2, .int x3, .int x4, .int x5] S1 0 0 := (hg_seaM n 64) l C X S0 hF sz a0 x1 x2 x3 x4 x5 Ta0 S1 hm
abbrev rmg_goeS (d : Nat) : Room := { frames := 5 + d, cells := 0, slots := 0, locals := 120 + d * 25 }
theorem rmg_goeS_l (d : Nat) {q : Nat} (h : q ≤ 6) : 8 + (q + 11) + (rmg_goeS d).locals ≤ (rmg_goeS (d + 1)).locals := by show 8 + (q + 11) + (120 + d * 25) ≤ 120 + (d + 1) * 25; omega
theorem tc_X12_goesSteps : Cond.code yX12_goesSteps cX12_goesSteps 6 none ∈ pq_U := tw1840
theorem cd_X12_goesSteps : yX12_goesSteps.cls = RX12 ∧ yX12_goesSteps.cls ≠ "java/lang/invoke/MethodHandle" ∧ yX12_goesSteps.cls ≠ "java/lang/invoke/VarHandle" ∧ (parseMethodDescriptor yX12_goesSteps.desc).map (fun d => d.parameters.length) = some 2 := by decide +kernel
def HG_goeS (n d : Nat) (rec : (Nat → Int32 → Int32 → pq_S → Option pq_S)) : Prop := (∀ (l : Launch) (C : pq_C) (X : va_W) (S0 : pq_S) (_ : WF S0) (sz : Nat) (a0 : Nat) (x1 : Int32) (x2 : Int32) (_Ta0 : TY S0 a0 12) (S1 : pq_S), rec a0 x1 x2 S0 = some S1 → MV l yX12_goesSteps (.code yX12_goesSteps cX12_goesSteps 6 none :: pq_U) (rmg_goeS d) C X S0 sz [.ref a0, .int x1, .int x2] S1 0 0)
def b_X12_goesSteps_125 (n : Nat) (rec : (Nat → Int32 → Int32 → pq_S → Option pq_S)) (k2 : Nat → Int32 → Int32 → pq_S → Option pq_S) (a0 : Nat) (x2 : Int32) (x3 : Int32) (S : pq_S) : Option pq_S := k2 a0 x2 (x3 + 5) S
set_option maxHeartbeats 4000000 in
set_option maxRecDepth 100000 in
theorem wb_X12_goesSteps_125 {p : Program} {l : Launch} {e : Env} {s : State} {m : MethodId} {args : Array Value} {below : List Frame} {meth : Method} {c : Code} (cx : Cx p s m args meth c cX12_goesSteps 6 RX12 none) (C : pq_C) (X : va_W) (S0 : pq_S) (n : Nat) (d : Nat) (rec : (Nat → Int32 → Int32 → pq_S → Option pq_S)) (hrec : HG_goeS n d rec) (S1 : pq_S) (k2 : Nat → Int32 → Int32 → pq_S → Option pq_S) (hk2 : ∀ (a0 : Nat) (x2 : Int32) (x3 : Int32) (S : pq_S) (H : Heap) (locs : List Loc) (ls : Array Slot), PW C X S (pq_F C X S0 s.heap.size) H locs s → Ext S0 S → TY S a0 12 → lv_has ls 6 [(0, .ref a0), (2, .int x2), (3, .int x3)] → k2 a0 x2 x3 S = some S1 → W p l e (rmg_goeS (d + 1)) s m args below meth c H locs 0 0 (MQ below (QcV C X S0 s.heap.size S1) args s 0 0 (pq_F C X S0 s.heap.size)) (F0 m 2 ls [])) : ∀ (a0 : Nat) (x2 : Int32) (x3 : Int32) (S : pq_S) (H : Heap) (locs : List Loc) (ls : Array Slot), PW C X S (pq_F C X S0 s.heap.size) H locs s → Ext S0 S → TY S a0 12 → lv_has ls 6 [(0, .ref a0), (2, .int x2), (3, .int x3)] → b_X12_goesSteps_125 n rec k2 a0 x2 x3 S = some S1 → W p l e (rmg_goeS (d + 1)) s m args below meth c H locs 0 0 (MQ below (QcV C X S0 s.heap.size S1) args s 0 0 (pq_F C X S0 s.heap.size)) (F0 m 125 ls []) := by
  obtain ⟨hx, hb, hml, hown, hU, hr, hlk⟩ := id cx
  intro a0 x2 x3 S H locs ls hw hE Ta0 hl hm
  rw [b_X12_goesSteps_125] at hm
  refine lv_iinc (v := (x3 + 5)) (lv' := [(3, .int (x3 + 5)), (0, .ref a0), (2, .int x2)]) hx hb dX12_goesSteps_125 hl (k := 2) rfl rfl (by decide) rfl (fun ls hl => ?_)
  refine lv_goto (tgt := 2) hx hb dX12_goesSteps_128 (by decide) ?_
  exact hk2 a0 x2 (x3 + 5) S _ _ _ hw hE Ta0 (lv_sub hl [1, 2, 0] rfl) hm
def b_X12_goesSteps_88 (n : Nat) (rec : (Nat → Int32 → Int32 → pq_S → Option pq_S)) (k2 : Nat → Int32 → Int32 → pq_S → Option pq_S) (a0 : Nat) (x2 : Int32) (x4 : Int32) (S : pq_S) : Option pq_S := k2 a0 x2 x4 S
set_option maxHeartbeats 4000000 in
set_option maxRecDepth 100000 in
theorem wb_X12_goesSteps_88 {p : Program} {l : Launch} {e : Env} {s : State} {m : MethodId} {args : Array Value} {below : List Frame} {meth : Method} {c : Code} (cx : Cx p s m args meth c cX12_goesSteps 6 RX12 none) (C : pq_C) (X : va_W) (S0 : pq_S) (n : Nat) (d : Nat) (rec : (Nat → Int32 → Int32 → pq_S → Option pq_S)) (hrec : HG_goeS n d rec) (S1 : pq_S) (k2 : Nat → Int32 → Int32 → pq_S → Option pq_S) (hk2 : ∀ (a0 : Nat) (x2 : Int32) (x3 : Int32) (S : pq_S) (H : Heap) (locs : List Loc) (ls : Array Slot), PW C X S (pq_F C X S0 s.heap.size) H locs s → Ext S0 S → TY S a0 12 → lv_has ls 6 [(0, .ref a0), (2, .int x2), (3, .int x3)] → k2 a0 x2 x3 S = some S1 → W p l e (rmg_goeS (d + 1)) s m args below meth c H locs 0 0 (MQ below (QcV C X S0 s.heap.size S1) args s 0 0 (pq_F C X S0 s.heap.size)) (F0 m 2 ls [])) : ∀ (a0 : Nat) (x2 : Int32) (x4 : Int32) (S : pq_S) (H : Heap) (locs : List Loc) (ls : Array Slot), PW C X S (pq_F C X S0 s.heap.size) H locs s → Ext S0 S → TY S a0 12 → lv_has ls 6 [(0, .ref a0), (2, .int x2), (4, .int x4)] → b_X12_goesSteps_88 n rec k2 a0 x2 x4 S = some S1 → W p l e (rmg_goeS (d + 1)) s m args below meth c H locs 0 0 (MQ below (QcV C X S0 s.heap.size S1) args s 0 0 (pq_F C X S0 s.heap.size)) (F0 m 88 ls []) := by
  obtain ⟨hx, hb, hml, hown, hU, hr, hlk⟩ := id cx
  intro a0 x2 x4 S H locs ls hw hE Ta0 hl hm
  rw [b_X12_goesSteps_88] at hm
  refine lv_iload hx hb dX12_goesSteps_88 (lv_at hl 2 rfl) ?_
  refine lv_istore_n (lv' := [(3, .int x4), (0, .ref a0), (2, .int x2), (4, .int x4)]) hx hb dX12_goesSteps_90 rfl hl (by decide) rfl (fun ls hl => ?_)
  refine lv_goto (tgt := 2) hx hb dX12_goesSteps_91 (by decide) ?_
  exact hk2 a0 x2 x4 S _ _ _ hw hE Ta0 (lv_sub hl [1, 2, 0] rfl) hm
def b_X12_goesSteps_50 (n : Nat) (rec : (Nat → Int32 → Int32 → pq_S → Option pq_S)) (k2 : Nat → Int32 → Int32 → pq_S → Option pq_S) : Nat → Nat → Int32 → Int32 → Int32 → Int32 → pq_S → Option pq_S
  | 0, _, _, _, _, _, _ => none
  | f + 1, a0, x2, x3, x4, x5, S => Option.bind (pR S 1239 a0) fun q15 => ck (ix (x3 + (1 : Int32)) (pN S q15)) (dix _ _) (if (pA S q15 (Int32.toNatClampNeg (x3 + (1 : Int32)))) ≤ x5 then b_X12_goesSteps_88 n rec k2 a0 x2 x4 S else if 200 ≤ (pI S 1243 a0) then b_X12_goesSteps_88 n rec k2 a0 x2 x4 S else Option.bind (rec a0 (x3 + (5 : Int32)) x4 S) fun S_19 => b_X12_goesSteps_50 n rec k2 f a0 x2 x3 x4 (x5 + 1) S_19)
set_option maxHeartbeats 4000000 in
set_option maxRecDepth 100000 in
theorem wb_X12_goesSteps_50 {p : Program} {l : Launch} {e : Env} {s : State} {m : MethodId} {args : Array Value} {below : List Frame} {meth : Method} {c : Code} (cx : Cx p s m args meth c cX12_goesSteps 6 RX12 none) (C : pq_C) (X : va_W) (S0 : pq_S) (n : Nat) (d : Nat) (rec : (Nat → Int32 → Int32 → pq_S → Option pq_S)) (hrec : HG_goeS n d rec) (S1 : pq_S) (k2 : Nat → Int32 → Int32 → pq_S → Option pq_S) (hk2 : ∀ (a0 : Nat) (x2 : Int32) (x3 : Int32) (S : pq_S) (H : Heap) (locs : List Loc) (ls : Array Slot), PW C X S (pq_F C X S0 s.heap.size) H locs s → Ext S0 S → TY S a0 12 → lv_has ls 6 [(0, .ref a0), (2, .int x2), (3, .int x3)] → k2 a0 x2 x3 S = some S1 → W p l e (rmg_goeS (d + 1)) s m args below meth c H locs 0 0 (MQ below (QcV C X S0 s.heap.size S1) args s 0 0 (pq_F C X S0 s.heap.size)) (F0 m 2 ls [])) : ∀ (f : Nat) (a0 : Nat) (x2 : Int32) (x3 : Int32) (x4 : Int32) (x5 : Int32) (S : pq_S) (H : Heap) (locs : List Loc) (ls : Array Slot), PW C X S (pq_F C X S0 s.heap.size) H locs s → Ext S0 S → TY S a0 12 → lv_has ls 6 [(0, .ref a0), (2, .int x2), (3, .int x3), (4, .int x4), (5, .int x5)] → b_X12_goesSteps_50 n rec k2 f a0 x2 x3 x4 x5 S = some S1 → W p l e (rmg_goeS (d + 1)) s m args below meth c H locs 0 0 (MQ below (QcV C X S0 s.heap.size S1) args s 0 0 (pq_F C X S0 s.heap.size)) (F0 m 50 ls []) := by
  obtain ⟨hx, hb, hml, hown, hU, hr, hlk⟩ := id cx
  intro f
  induction f with
  | zero =>
    intro a0 x2 x3 x4 x5 S H locs ls hw hE Ta0 hl hm
    cases hm
  | succ f ih =>
    intro a0 x2 x3 x4 x5 S H locs ls hw hE Ta0 hl hm
    rw [b_X12_goesSteps_50] at hm
    refine lv_iload hx hb dX12_goesSteps_50 (lv_at hl 4 rfl) ?_
    refine lv_aload_n hx hb dX12_goesSteps_52 rfl (lv_at hl 0 rfl) ?_
    obtain ⟨q15, hq15, hm⟩ := bd_some hm
    have Tq15 : TY S q15 14 := hw.wf.ref (k := 12) (j := 39) Ta0 (by decide) (by decide) hq15
    refine pg_rb (k := 12) (j := 39) (f := 1239) hx hb hown hU iu12 hw Ta0 (by decide) rfl (hU _ tw1510) rfl hq15 dX12_goesSteps_53 ?_
    refine lv_iload_n hx hb dX12_goesSteps_56 rfl (lv_at hl 2 rfl) ?_
    refine lv_iconst (v := 1) hx hb dX12_goesSteps_57 (by decide) ?_
    refine lv_iadd hx hb dX12_goesSteps_58 ?_
    obtain ⟨hi16, hm⟩ := ck_some hm
    refine pw_iald hx hb hw Tq15 hi16 dX12_goesSteps_59 ?_
    refine lv_icmp_ge (tgt := 88) hx hb dX12_goesSteps_60 (by decide) (fun h17 => ?_) (fun h17 => ?_)
    · rw [if_pos h17] at hm
      exact wb_X12_goesSteps_88 cx C X S0 n d rec hrec S1 _ hk2 a0 x2 x4 S _ _ _ hw hE Ta0 (lv_sub hl [0, 1, 3] rfl) hm
    · rw [if_neg h17] at hm
      refine lv_aload_n hx hb dX12_goesSteps_63 rfl (lv_at hl 0 rfl) ?_
      refine pg_i (k := 12) (j := 43) (f := 1243) hx hb hown hU iu12 hw Ta0 (by decide) rfl (hU _ tw1514) rfl dX12_goesSteps_64 ?_
      refine lv_sipush (v := 200) hx hb dX12_goesSteps_67 (by decide) ?_
      refine lv_icmp_ge (tgt := 88) hx hb dX12_goesSteps_70 (by decide) (fun h18 => ?_) (fun h18 => ?_)
      · rw [if_pos h18] at hm
        exact wb_X12_goesSteps_88 cx C X S0 n d rec hrec S1 _ hk2 a0 x2 x4 S _ _ _ hw hE Ta0 (lv_sub hl [0, 1, 3] rfl) hm
      · rw [if_neg h18] at hm
        refine lv_aload_n hx hb dX12_goesSteps_73 rfl (lv_at hl 0 rfl) ?_
        refine lv_iload_n hx hb dX12_goesSteps_74 rfl (lv_at hl 2 rfl) ?_
        refine lv_iconst (v := 5) hx hb dX12_goesSteps_75 (by decide) ?_
        refine lv_iadd hx hb dX12_goesSteps_76 ?_
        refine lv_iload hx hb dX12_goesSteps_77 (lv_at hl 3 rfl) ?_
        obtain ⟨S_19, hq20, hm⟩ := bd_some hm
        refine pw_cv (va_runV (As := [.int (x3 + (5 : Int32)), .int x4]) (rest := []) ⟨hx, hb, hml, hown, hU⟩ (hrec l C X S hw.wf _ a0 (x3 + (5 : Int32)) x4 (Ta0) S_19 hq20) (cwV 2 hU (pq_gV tw1837 tw1839 ts146 tw14 tc_X12_goesSteps) rfl rfl rfl cd_X12_goesSteps ⟨Nat.le_refl _, rmg_goeS_l d (by decide)⟩) (pw_preV hw Ta0 (by decide) rfl) rfl rfl hl.1 rfl (lv_room (Nat.le_of_ble_eq_true rfl)) dX12_goesSteps_79 ⟨Nat.zero_le _, Nat.zero_le _⟩) hw (fun H locs hw hx21 => ?_)
        have Ta0 : TY S_19 a0 12 := ty_ext hx21 Ta0
        have hE : Ext S0 S_19 := Ext.tr hE hx21
        refine lv_iinc (v := (x5 + 1)) (lv' := [(5, .int (x5 + 1)), (0, .ref a0), (2, .int x2), (3, .int x3), (4, .int x4)]) hx hb dX12_goesSteps_82 hl (k := 4) rfl rfl (by decide) rfl (fun ls hl => ?_)
        refine lv_goto (tgt := 50) hx hb dX12_goesSteps_85 (by decide) ?_
        exact ih a0 x2 x3 x4 (x5 + 1) S_19 _ _ _ hw hE Ta0 (lv_sub hl [1, 2, 3, 4, 0] rfl) hm
def b_X12_goesSteps_2 (n : Nat) (rec : (Nat → Int32 → Int32 → pq_S → Option pq_S)) : Nat → Nat → Int32 → Int32 → pq_S → Option pq_S
  | 0, _, _, _, _ => none
  | f + 1, a0, x2, x3, S => if x2 ≤ x3 then some S else if 200 ≤ (pI S 1243 a0) then some S else Option.bind (pR (sI S 1243 a0 ((pI S 1243 a0) + (1 : Int32))) 1239 a0) fun q3 => ck (ix x3 (pN (sI S 1243 a0 ((pI S 1243 a0) + (1 : Int32))) q3)) (dix _ _) (if (pA (sI S 1243 a0 ((pI S 1243 a0) + (1 : Int32))) q3 (Int32.toNatClampNeg x3)) = 5 then Option.bind (pR (sI S 1243 a0 ((pI S 1243 a0) + (1 : Int32))) 1239 a0) fun q12 => ck (ix (x3 + (2 : Int32)) (pN (sI S 1243 a0 ((pI S 1243 a0) + (1 : Int32))) q12)) (dix _ _) (lt_ (pA (sI S 1243 a0 ((pI S 1243 a0) + (1 : Int32))) q12 (Int32.toNatClampNeg (x3 + (2 : Int32)))) fun v14 => b_X12_goesSteps_50 n rec (b_X12_goesSteps_2 n rec f) n a0 x2 x3 v14 0 (sI S 1243 a0 ((pI S 1243 a0) + (1 : Int32)))) else cb (m_X12_goes n a0 x3 (sI S 1243 a0 ((pI S 1243 a0) + (1 : Int32)))) fun r8 S_6 => if r8 = 0 then b_X12_goesSteps_125 n rec (b_X12_goesSteps_2 n rec f) a0 x2 x3 (sI S_6 1245 a0 ((pI S_6 1245 a0) + (1 : Int32))) else b_X12_goesSteps_125 n rec (b_X12_goesSteps_2 n rec f) a0 x2 x3 (sI S_6 1244 a0 ((pI S_6 1244 a0) + (1 : Int32))))
set_option maxHeartbeats 4000000 in
set_option maxRecDepth 100000 in
theorem wb_X12_goesSteps_2 {p : Program} {l : Launch} {e : Env} {s : State} {m : MethodId} {args : Array Value} {below : List Frame} {meth : Method} {c : Code} (cx : Cx p s m args meth c cX12_goesSteps 6 RX12 none) (C : pq_C) (X : va_W) (S0 : pq_S) (n : Nat) (d : Nat) (rec : (Nat → Int32 → Int32 → pq_S → Option pq_S)) (hrec : HG_goeS n d rec) (S1 : pq_S) : ∀ (f : Nat) (a0 : Nat) (x2 : Int32) (x3 : Int32) (S : pq_S) (H : Heap) (locs : List Loc) (ls : Array Slot), PW C X S (pq_F C X S0 s.heap.size) H locs s → Ext S0 S → TY S a0 12 → lv_has ls 6 [(0, .ref a0), (2, .int x2), (3, .int x3)] → b_X12_goesSteps_2 n rec f a0 x2 x3 S = some S1 → W p l e (rmg_goeS (d + 1)) s m args below meth c H locs 0 0 (MQ below (QcV C X S0 s.heap.size S1) args s 0 0 (pq_F C X S0 s.heap.size)) (F0 m 2 ls []) := by
  obtain ⟨hx, hb, hml, hown, hU, hr, hlk⟩ := id cx
  intro f
  induction f with
  | zero =>
    intro a0 x2 x3 S H locs ls hw hE Ta0 hl hm
    cases hm
  | succ f ih =>
    intro a0 x2 x3 S H locs ls hw hE Ta0 hl hm
    rw [b_X12_goesSteps_2] at hm
    refine lv_iload_n hx hb dX12_goesSteps_2 rfl (lv_at hl 2 rfl) ?_
    refine lv_iload_n hx hb dX12_goesSteps_3 rfl (lv_at hl 1 rfl) ?_
    refine lv_icmp_ge (tgt := 131) hx hb dX12_goesSteps_4 (by decide) (fun h1 => ?_) (fun h1 => ?_)
    · rw [if_pos h1] at hm
      cases hm
      exact pw_vret hx hb hr hlk hw hE dX12_goesSteps_131
    · rw [if_neg h1] at hm
      refine lv_aload_n hx hb dX12_goesSteps_7 rfl (lv_at hl 0 rfl) ?_
      refine pg_i (k := 12) (j := 43) (f := 1243) hx hb hown hU iu12 hw Ta0 (by decide) rfl (hU _ tw1514) rfl dX12_goesSteps_8 ?_
      refine lv_sipush (v := 200) hx hb dX12_goesSteps_11 (by decide) ?_
      refine lv_icmp_ge (tgt := 131) hx hb dX12_goesSteps_14 (by decide) (fun h2 => ?_) (fun h2 => ?_)
      · rw [if_pos h2] at hm
        cases hm
        exact pw_vret hx hb hr hlk hw hE dX12_goesSteps_131
      · rw [if_neg h2] at hm
        refine lv_aload_n hx hb dX12_goesSteps_17 rfl (lv_at hl 0 rfl) ?_
        refine lv_dup hx hb dX12_goesSteps_18 rfl ?_
        refine pg_i (k := 12) (j := 43) (f := 1243) hx hb hown hU iu12 hw Ta0 (by decide) rfl (hU _ tw1514) rfl dX12_goesSteps_19 ?_
        refine lv_iconst (v := 1) hx hb dX12_goesSteps_22 (by decide) ?_
        refine lv_iadd hx hb dX12_goesSteps_23 ?_
        refine pp_i (k := 12) (j := 43) (f := 1243) hx hb hown hU iu12 tyX12_ok nmX12 hw Ta0 (by decide) rfl (hU _ tw1514) rfl rfl rfl dX12_goesSteps_24 (fun H locs hw => ?_)
        refine lv_aload_n hx hb dX12_goesSteps_27 rfl (lv_at hl 0 rfl) ?_
        obtain ⟨q3, hq3, hm⟩ := bd_some hm
        have Tq3 : TY (sI S 1243 a0 ((pI S 1243 a0) + (1 : Int32))) q3 14 := hw.wf.ref (k := 12) (j := 39) Ta0 (by decide) (by decide) hq3
        refine pg_rb (k := 12) (j := 39) (f := 1239) hx hb hown hU iu12 hw Ta0 (by decide) rfl (hU _ tw1510) rfl hq3 dX12_goesSteps_28 ?_
        refine lv_iload_n hx hb dX12_goesSteps_31 rfl (lv_at hl 2 rfl) ?_
        obtain ⟨hi4, hm⟩ := ck_some hm
        refine pw_iald hx hb hw Tq3 hi4 dX12_goesSteps_32 ?_
        refine lv_iconst (v := 5) hx hb dX12_goesSteps_33 (by decide) ?_
        refine lv_icmp_ne (tgt := 94) hx hb dX12_goesSteps_34 (by decide) (fun h5 => ?_) (fun h5 => ?_)
        · rw [if_neg h5] at hm
          refine lv_aload_n hx hb dX12_goesSteps_94 rfl (lv_at hl 0 rfl) ?_
          refine lv_iload_n hx hb dX12_goesSteps_95 rfl (lv_at hl 2 rfl) ?_
          obtain ⟨r8, S_6, hq7, hm⟩ := cb_some hm
          refine pw_cz (va_runV (As := [.int x3]) (rest := []) ⟨hx, hb, hml, hown, hU⟩ (c_X12_goes l C X n (sI S 1243 a0 ((pI S 1243 a0) + (1 : Int32))) hw.wf _ a0 x3 (Ta0) r8 S_6 hq7) (cwV 1 hU (pq_gV tw1841 tw1843 ts147 tw14 tc_X12_goes) rfl rfl rfl cd_X12_goes ⟨Nat.le_trans (Nat.le_of_ble_eq_true rfl) (Nat.le_add_right _ _), Nat.le_trans (Nat.le_of_ble_eq_true rfl) (Nat.le_add_right _ _)⟩) (pw_preV hw Ta0 (by decide) rfl) rfl rfl hl.1 rfl (lv_room (Nat.le_of_ble_eq_true rfl)) dX12_goesSteps_96 ⟨Nat.zero_le _, Nat.zero_le _⟩) hw (fun H locs hw hx9 hz10 => ?_)
          have Ta0 : TY S_6 a0 12 := ty_ext hx9 Ta0
          have hE : Ext S0 S_6 := Ext.tr hE hx9
          refine lv_if_eq (tgt := 115) hx hb dX12_goesSteps_99 (by decide) (fun h11 => ?_) (fun h11 => ?_)
          · rw [if_pos h11] at hm
            refine lv_aload_n hx hb dX12_goesSteps_115 rfl (lv_at hl 0 rfl) ?_
            refine lv_dup hx hb dX12_goesSteps_116 rfl ?_
            refine pg_i (k := 12) (j := 45) (f := 1245) hx hb hown hU iu12 hw Ta0 (by decide) rfl (hU _ tw1516) rfl dX12_goesSteps_117 ?_
            refine lv_iconst (v := 1) hx hb dX12_goesSteps_120 (by decide) ?_
            refine lv_iadd hx hb dX12_goesSteps_121 ?_
            refine pp_i (k := 12) (j := 45) (f := 1245) hx hb hown hU iu12 tyX12_ok nmX12 hw Ta0 (by decide) rfl (hU _ tw1516) rfl rfl rfl dX12_goesSteps_122 (fun H locs hw => ?_)
            exact wb_X12_goesSteps_125 cx C X S0 n d rec hrec S1 _ ih a0 x2 x3 (sI S_6 1245 a0 ((pI S_6 1245 a0) + (1 : Int32))) _ _ _ hw hE Ta0 (lv_sub hl [0, 1, 2] rfl) hm
          · rw [if_neg h11] at hm
            refine lv_aload_n hx hb dX12_goesSteps_102 rfl (lv_at hl 0 rfl) ?_
            refine lv_dup hx hb dX12_goesSteps_103 rfl ?_
            refine pg_i (k := 12) (j := 44) (f := 1244) hx hb hown hU iu12 hw Ta0 (by decide) rfl (hU _ tw1515) rfl dX12_goesSteps_104 ?_
            refine lv_iconst (v := 1) hx hb dX12_goesSteps_107 (by decide) ?_
            refine lv_iadd hx hb dX12_goesSteps_108 ?_
            refine pp_i (k := 12) (j := 44) (f := 1244) hx hb hown hU iu12 tyX12_ok nmX12 hw Ta0 (by decide) rfl (hU _ tw1515) rfl rfl rfl dX12_goesSteps_109 (fun H locs hw => ?_)
            refine lv_goto (tgt := 125) hx hb dX12_goesSteps_112 (by decide) ?_
            exact wb_X12_goesSteps_125 cx C X S0 n d rec hrec S1 _ ih a0 x2 x3 (sI S_6 1244 a0 ((pI S_6 1244 a0) + (1 : Int32))) _ _ _ hw hE Ta0 (lv_sub hl [0, 1, 2] rfl) hm
        · rw [if_pos h5] at hm
          refine lv_aload_n hx hb dX12_goesSteps_37 rfl (lv_at hl 0 rfl) ?_
          obtain ⟨q12, hq12, hm⟩ := bd_some hm
          have Tq12 : TY (sI S 1243 a0 ((pI S 1243 a0) + (1 : Int32))) q12 14 := hw.wf.ref (k := 12) (j := 39) Ta0 (by decide) (by decide) hq12
          refine pg_rb (k := 12) (j := 39) (f := 1239) hx hb hown hU iu12 hw Ta0 (by decide) rfl (hU _ tw1510) rfl hq12 dX12_goesSteps_38 ?_
          refine lv_iload_n hx hb dX12_goesSteps_41 rfl (lv_at hl 2 rfl) ?_
          refine lv_iconst (v := 2) hx hb dX12_goesSteps_42 (by decide) ?_
          refine lv_iadd hx hb dX12_goesSteps_43 ?_
          obtain ⟨hi13, hm⟩ := ck_some hm
          refine pw_iald hx hb hw Tq12 hi13 dX12_goesSteps_44 ?_
          obtain ⟨v14, ev14, hm⟩ := lt_some hm
          refine lv_nmI ev14 ?_
          refine lv_istore (lv' := [(4, .int v14), (0, .ref a0), (2, .int x2), (3, .int x3)]) hx hb dX12_goesSteps_45 hl (by decide) rfl (fun ls hl => ?_)
          refine lv_iconst (v := 0) hx hb dX12_goesSteps_47 (by decide) ?_
          refine lv_istore (lv' := [(5, .int 0), (4, .int v14), (0, .ref a0), (2, .int x2), (3, .int x3)]) hx hb dX12_goesSteps_48 hl (by decide) rfl (fun ls hl => ?_)
          exact wb_X12_goesSteps_50 cx C X S0 n d rec hrec S1 _ ih n a0 x2 x3 v14 0 (sI S 1243 a0 ((pI S 1243 a0) + (1 : Int32))) _ _ _ hw hE Ta0 (lv_sub hl [2, 3, 4, 1, 0] rfl) hm
def g_X12_goesSteps (n : Nat) (rec : (Nat → Int32 → Int32 → pq_S → Option pq_S)) (a0 : Nat) (x1 : Int32) (x2 : Int32) (S0 : pq_S) : Option pq_S := b_X12_goesSteps_2 n rec n a0 x2 x1 S0
set_option maxHeartbeats 4000000 in
set_option maxRecDepth 100000 in
theorem cg_X12_goesSteps (n d : Nat) (rec : (Nat → Int32 → Int32 → pq_S → Option pq_S)) (hrec : HG_goeS n d rec) (l : Launch) (C : pq_C) (X : va_W) (S0 : pq_S) (hF : WF S0) (sz : Nat) (a0 : Nat) (x1 : Int32) (x2 : Int32) (Ta0 : TY S0 a0 12) (S1 : pq_S) (hm : g_X12_goesSteps n rec a0 x1 x2 S0 = some S1) : MV l yX12_goesSteps (.code yX12_goesSteps cX12_goesSteps 6 none :: pq_U) (rmg_goeS (d + 1)) C X S0 sz [.ref a0, .int x1, .int x2] S1 0 0 := by
  refine Met.ofW (cc := cX12_goesSteps) (maxL := 6) (ret := none) (by decide) rfl ?_
  intro p e s m args below meth c s₁ B hml hv
  obtain ⟨rfl, hv⟩ := hv
  have hsz := hv.1
  subst hsz
  have hw := pw_entry hF hv
  have hts := atoms_spec (ws := .code yX12_goesSteps cX12_goesSteps 6 none :: pq_U) B.pre
  have hU : ∀ w ∈ pq_U, w.before _ s = true := fun w h => hts w (List.mem_cons_of_mem _ h)
  have hx := B.exec
  have hb := B.bytes
  have hr := B.returns
  have hown : s.vm.findClass RX12 = some m.cls := findClass_of_methodNamed B.named
  have hlk := B.notSynchronized
  have hl := lv_entry ([.ref a0, .int x1, .int x2]) (n := 6) (Nat.le_of_ble_eq_true rfl)
  rw [lg_entry_eq]
  generalize (lg_sl ([.ref a0, .int x1, .int x2]) ++ List.replicate (6 - (lg_sl ([.ref a0, .int x1, .int x2])).length) Slot.unset).toArray = ls at hl ⊢
  have hl : lv_has ls 6 [(0, .ref a0), (1, .int x1), (2, .int x2)] := hl
  have hE : Ext S0 S0 := Ext.rf _
  have cx : Cx p s m _ meth c cX12_goesSteps 6 RX12 none := ⟨hx, hb, hml, hown, hU, hr, hlk⟩
  rw [g_X12_goesSteps] at hm
  refine lv_iload_n hx hb dX12_goesSteps_0 rfl (lv_at hl 1 rfl) ?_
  refine lv_istore_n (lv' := [(3, .int x1), (0, .ref a0), (1, .int x1), (2, .int x2)]) hx hb dX12_goesSteps_1 rfl hl (by decide) rfl (fun ls hl => ?_)
  exact wb_X12_goesSteps_2 cx C X S0 n d rec hrec S1 n a0 x2 x1 S0 _ _ _ hw hE Ta0 (lv_sub hl [1, 3, 0] rfl) hm
def m_goeS_d (n : Nat) : Nat → ((Nat → Int32 → Int32 → pq_S → Option pq_S))
  | 0 => (fun _ _ _ _ => none)
  | d + 1 => (g_X12_goesSteps n (m_goeS_d n d))
theorem hg_goeS (n : Nat) : ∀ d : Nat, HG_goeS n d (m_goeS_d n d) := by
  intro d
  induction d with
  | zero =>
    exact fun _ _ _ _ _ _ _ _ _ _ _ hm => by cases hm
  | succ d ih =>
    exact (fun q0 q1 q2 q3 q4 q5 q6 q7 q8 q9 q10 hm => cg_X12_goesSteps n d _ ih q0 q1 q2 q3 q4 q5 q6 q7 q8 q9 q10 hm)
def m_X12_goesSteps (n : Nat) (a0 : Nat) (x1 : Int32) (x2 : Int32) (S : pq_S) : Option pq_S := (m_goeS_d n 64) a0 x1 x2 S
abbrev rm_X12_goesSteps : Room := { frames := 69, cells := 0, slots := 0, locals := 1720 }
theorem c_X12_goesSteps (l : Launch) (C : pq_C) (X : va_W) (n : Nat) (S0 : pq_S) (hF : WF S0) (sz : Nat) (a0 : Nat) (x1 : Int32) (x2 : Int32) (Ta0 : TY S0 a0 12) (S1 : pq_S) (hm : m_X12_goesSteps n a0 x1 x2 S0 = some S1) : MV l yX12_goesSteps (.code yX12_goesSteps cX12_goesSteps 6 none :: pq_U) rm_X12_goesSteps C X S0 sz [.ref a0, .int x1, .int x2] S1 0 0 := (hg_goeS n 64) l C X S0 hF sz a0 x1 x2 Ta0 S1 hm
abbrev rmg_lawP (d : Nat) : Room := { frames := 6 + d, cells := 0, slots := 0, locals := 127 + d * 24 }
theorem rmg_lawP_l (d : Nat) {q : Nat} (h : q ≤ 5) : 8 + (q + 11) + (rmg_lawP d).locals ≤ (rmg_lawP (d + 1)).locals := by show 8 + (q + 11) + (127 + d * 24) ≤ 127 + (d + 1) * 24; omega
theorem tc_X2_readSum : Cond.code yX2_readSum cX2_readSum 5 none ∈ pq_U := tw744
theorem cd_X2_readSum : yX2_readSum.cls = RX2 ∧ yX2_readSum.cls ≠ "java/lang/invoke/MethodHandle" ∧ yX2_readSum.cls ≠ "java/lang/invoke/VarHandle" ∧ (parseMethodDescriptor yX2_readSum.desc).map (fun d => d.parameters.length) = some 2 := by decide +kernel
theorem tc_X2_readProduct : Cond.code yX2_readProduct cX2_readProduct 5 none ∈ pq_U := tw748
theorem cd_X2_readProduct : yX2_readProduct.cls = RX2 ∧ yX2_readProduct.cls ≠ "java/lang/invoke/MethodHandle" ∧ yX2_readProduct.cls ≠ "java/lang/invoke/VarHandle" ∧ (parseMethodDescriptor yX2_readProduct.desc).map (fun d => d.parameters.length) = some 2 := by decide +kernel
theorem tc_X2_readUnit : Cond.code yX2_readUnit cX2_readUnit 4 none ∈ pq_U := tw752
theorem cd_X2_readUnit : yX2_readUnit.cls = RX2 ∧ yX2_readUnit.cls ≠ "java/lang/invoke/MethodHandle" ∧ yX2_readUnit.cls ≠ "java/lang/invoke/VarHandle" ∧ (parseMethodDescriptor yX2_readUnit.desc).map (fun d => d.parameters.length) = some 2 := by decide +kernel
theorem tc_X2_readBracket : Cond.code yX2_readBracket cX2_readBracket 3 none ∈ pq_U := tw787
theorem cd_X2_readBracket : yX2_readBracket.cls = RX2 ∧ yX2_readBracket.cls ≠ "java/lang/invoke/MethodHandle" ∧ yX2_readBracket.cls ≠ "java/lang/invoke/VarHandle" ∧ (parseMethodDescriptor yX2_readBracket.desc).map (fun d => d.parameters.length) = some 2 := by decide +kernel
theorem tc_X2_readWord : Cond.code yX2_readWord cX2_readWord 4 none ∈ pq_U := tw763
theorem cd_X2_readWord : yX2_readWord.cls = RX2 ∧ yX2_readWord.cls ≠ "java/lang/invoke/MethodHandle" ∧ yX2_readWord.cls ≠ "java/lang/invoke/VarHandle" ∧ (parseMethodDescriptor yX2_readWord.desc).map (fun d => d.parameters.length) = some 2 := by decide +kernel
theorem tc_X2_readPair : Cond.code yX2_readPair cX2_readPair 4 none ∈ pq_U := tw770
theorem cd_X2_readPair : yX2_readPair.cls = RX2 ∧ yX2_readPair.cls ≠ "java/lang/invoke/MethodHandle" ∧ yX2_readPair.cls ≠ "java/lang/invoke/VarHandle" ∧ (parseMethodDescriptor yX2_readPair.desc).map (fun d => d.parameters.length) = some 3 := by decide +kernel
def HG_lawP (n d : Nat) (rec : (Nat → Nat → Int32 → pq_S → Option pq_S) × (Nat → Nat → Int32 → pq_S → Option pq_S) × (Nat → Nat → Int32 → pq_S → Option pq_S) × (Nat → Nat → Int32 → pq_S → Option pq_S) × (Nat → Nat → Int32 → pq_S → Option pq_S) × (Nat → Nat → Int32 → Int32 → pq_S → Option pq_S)) : Prop := (∀ (l : Launch) (C : pq_C) (X : va_W) (S0 : pq_S) (_ : WF S0) (sz : Nat) (a0 : Nat) (a1 : Nat) (x2 : Int32) (_Ta0 : TY S0 a0 2) (_Ta1 : TY S0 a1 10) (S1 : pq_S), rec.1 a0 a1 x2 S0 = some S1 → MV l yX2_readSum (.code yX2_readSum cX2_readSum 5 none :: pq_U) (rmg_lawP d) C X S0 sz [.ref a0, .ref a1, .int x2] S1 0 0) ∧ (∀ (l : Launch) (C : pq_C) (X : va_W) (S0 : pq_S) (_ : WF S0) (sz : Nat) (a0 : Nat) (a1 : Nat) (x2 : Int32) (_Ta0 : TY S0 a0 2) (_Ta1 : TY S0 a1 10) (S1 : pq_S), rec.2.1 a0 a1 x2 S0 = some S1 → MV l yX2_readProduct (.code yX2_readProduct cX2_readProduct 5 none :: pq_U) (rmg_lawP d) C X S0 sz [.ref a0, .ref a1, .int x2] S1 0 0) ∧ (∀ (l : Launch) (C : pq_C) (X : va_W) (S0 : pq_S) (_ : WF S0) (sz : Nat) (a0 : Nat) (a1 : Nat) (x2 : Int32) (_Ta0 : TY S0 a0 2) (_Ta1 : TY S0 a1 10) (S1 : pq_S), rec.2.2.1 a0 a1 x2 S0 = some S1 → MV l yX2_readUnit (.code yX2_readUnit cX2_readUnit 4 none :: pq_U) (rmg_lawP d) C X S0 sz [.ref a0, .ref a1, .int x2] S1 0 0) ∧ (∀ (l : Launch) (C : pq_C) (X : va_W) (S0 : pq_S) (_ : WF S0) (sz : Nat) (a0 : Nat) (a1 : Nat) (x2 : Int32) (_Ta0 : TY S0 a0 2) (_Ta1 : TY S0 a1 10) (S1 : pq_S), rec.2.2.2.1 a0 a1 x2 S0 = some S1 → MV l yX2_readBracket (.code yX2_readBracket cX2_readBracket 3 none :: pq_U) (rmg_lawP d) C X S0 sz [.ref a0, .ref a1, .int x2] S1 0 0) ∧ (∀ (l : Launch) (C : pq_C) (X : va_W) (S0 : pq_S) (_ : WF S0) (sz : Nat) (a0 : Nat) (a1 : Nat) (x2 : Int32) (_Ta0 : TY S0 a0 2) (_Ta1 : TY S0 a1 10) (S1 : pq_S), rec.2.2.2.2.1 a0 a1 x2 S0 = some S1 → MV l yX2_readWord (.code yX2_readWord cX2_readWord 4 none :: pq_U) (rmg_lawP d) C X S0 sz [.ref a0, .ref a1, .int x2] S1 0 0) ∧ (∀ (l : Launch) (C : pq_C) (X : va_W) (S0 : pq_S) (_ : WF S0) (sz : Nat) (a0 : Nat) (a1 : Nat) (x2 : Int32) (x3 : Int32) (_Ta0 : TY S0 a0 2) (_Ta1 : TY S0 a1 10) (S1 : pq_S), rec.2.2.2.2.2 a0 a1 x2 x3 S0 = some S1 → MV l yX2_readPair (.code yX2_readPair cX2_readPair 4 none :: pq_U) (rmg_lawP d) C X S0 sz [.ref a0, .ref a1, .int x2, .int x3] S1 0 0)
def b_X2_readSum_51 (n : Nat) (rec : (Nat → Nat → Int32 → pq_S → Option pq_S) × (Nat → Nat → Int32 → pq_S → Option pq_S) × (Nat → Nat → Int32 → pq_S → Option pq_S) × (Nat → Nat → Int32 → pq_S → Option pq_S) × (Nat → Nat → Int32 → pq_S → Option pq_S) × (Nat → Nat → Int32 → Int32 → pq_S → Option pq_S)) (k6 : Nat → Nat → Int32 → Int32 → pq_S → Option pq_S) (a0 : Nat) (a1 : Nat) (x2 : Int32) (x3 : Int32) (z0 : Int32) (S : pq_S) : Option pq_S := cb (m_X10_next n a1 S) fun r22 S_20 => Option.bind (m_X10_takeSign n a1 r22 S_20) fun S_24 => Option.bind (rec.2.1 a0 a1 x2 S_24) fun S_27 => Option.bind (m_X2_append n a0 z0 S_27) fun S_30 => k6 a0 a1 x2 (x3 + 1) S_30
set_option maxHeartbeats 4000000 in
set_option maxRecDepth 100000 in
theorem wb_X2_readSum_51 {p : Program} {l : Launch} {e : Env} {s : State} {m : MethodId} {args : Array Value} {below : List Frame} {meth : Method} {c : Code} (cx : Cx p s m args meth c cX2_readSum 5 RX2 none) (C : pq_C) (X : va_W) (S0 : pq_S) (n : Nat) (d : Nat) (rec : (Nat → Nat → Int32 → pq_S → Option pq_S) × (Nat → Nat → Int32 → pq_S → Option pq_S) × (Nat → Nat → Int32 → pq_S → Option pq_S) × (Nat → Nat → Int32 → pq_S → Option pq_S) × (Nat → Nat → Int32 → pq_S → Option pq_S) × (Nat → Nat → Int32 → Int32 → pq_S → Option pq_S)) (hrec : HG_lawP n d rec) (S1 : pq_S) (k6 : Nat → Nat → Int32 → Int32 → pq_S → Option pq_S) (hk6 : ∀ (a0 : Nat) (a1 : Nat) (x2 : Int32) (x3 : Int32) (S : pq_S) (H : Heap) (locs : List Loc) (ls : Array Slot), PW C X S (pq_F C X S0 s.heap.size) H locs s → Ext S0 S → TY S a0 2 → TY S a1 10 → lv_has ls 5 [(0, .ref a0), (1, .ref a1), (2, .int x2), (3, .int x3)] → k6 a0 a1 x2 x3 S = some S1 → W p l e (rmg_lawP (d + 1)) s m args below meth c H locs 0 0 (MQ below (QcV C X S0 s.heap.size S1) args s 0 0 (pq_F C X S0 s.heap.size)) (F0 m 8 ls [])) : ∀ (a0 : Nat) (a1 : Nat) (x2 : Int32) (x3 : Int32) (z0 : Int32) (S : pq_S) (H : Heap) (locs : List Loc) (ls : Array Slot), PW C X S (pq_F C X S0 s.heap.size) H locs s → Ext S0 S → TY S a0 2 → TY S a1 10 → lv_has ls 5 [(0, .ref a0), (1, .ref a1), (2, .int x2), (3, .int x3)] → b_X2_readSum_51 n rec k6 a0 a1 x2 x3 z0 S = some S1 → W p l e (rmg_lawP (d + 1)) s m args below meth c H locs 0 0 (MQ below (QcV C X S0 s.heap.size S1) args s 0 0 (pq_F C X S0 s.heap.size)) (F0 m 51 ls [.int z0]) := by
  obtain ⟨hx, hb, hml, hown, hU, hr, hlk⟩ := id cx
  intro a0 a1 x2 x3 z0 S H locs ls hw hE Ta0 Ta1 hl hm
  rw [b_X2_readSum_51] at hm
  refine lv_istore (lv' := [(4, .int z0), (0, .ref a0), (1, .ref a1), (2, .int x2), (3, .int x3)]) hx hb dX2_readSum_51 hl (by decide) rfl (fun ls hl => ?_)
  refine lv_aload_n hx hb dX2_readSum_53 rfl (lv_at hl 2 rfl) ?_
  refine lv_aload_n hx hb dX2_readSum_54 rfl (lv_at hl 2 rfl) ?_
  obtain ⟨r22, S_20, hq21, hm⟩ := cb_some hm
  refine pw_ci (va_runVN (As := []) (rest := [.ref a1]) ⟨hx, hb, hml, hown, hU⟩ (c_X10_next l C X n S hw.wf _ a1 (Ta1) r22 S_20 hq21) ⟨va_cnB (host := "WickNights") 0 hU (pq_g1 tc_X10_next) rfl rfl rfl (hw.nw 113 rfl) (hU _ tw2) cd_X10_next.2 ⟨Nat.le_trans (Nat.le_of_ble_eq_true rfl) (Nat.le_add_right _ _), Nat.le_trans (Nat.le_of_ble_eq_true rfl) (Nat.le_add_right _ _)⟩, hU _ tw572, hU _ ts12⟩ (pw_preV hw Ta1 (by decide) rfl) rfl rfl hl.1 rfl (lv_room (Nat.le_of_ble_eq_true rfl)) dX2_readSum_55 ⟨Nat.zero_le _, Nat.zero_le _⟩) hw (fun H locs hw hx23 => ?_)
  have Ta1 : TY S_20 a1 10 := ty_ext hx23 Ta1
  have Ta0 : TY S_20 a0 2 := ty_ext hx23 Ta0
  have hE : Ext S0 S_20 := Ext.tr hE hx23
  obtain ⟨S_24, hq25, hm⟩ := bd_some hm
  refine pw_cv (va_runVN (As := [.int r22]) (rest := []) ⟨hx, hb, hml, hown, hU⟩ (c_X10_takeSign l C X n S_20 hw.wf _ a1 r22 (Ta1) S_24 hq25) ⟨va_cnB (host := "WickNights") 1 hU (pq_g1 tc_X10_takeSign) rfl rfl rfl (hw.nw 119 rfl) (hU _ tw2) cd_X10_takeSign.2 ⟨Nat.le_trans (Nat.le_of_ble_eq_true rfl) (Nat.le_add_right _ _), Nat.le_trans (Nat.le_of_ble_eq_true rfl) (Nat.le_add_right _ _)⟩, hU _ tw697, hU _ ts27⟩ (pw_preV hw Ta1 (by decide) rfl) rfl rfl hl.1 rfl (lv_room (Nat.le_of_ble_eq_true rfl)) dX2_readSum_58 ⟨Nat.zero_le _, Nat.zero_le _⟩) hw (fun H locs hw hx26 => ?_)
  have Ta0 : TY S_24 a0 2 := ty_ext hx26 Ta0
  have Ta1 : TY S_24 a1 10 := ty_ext hx26 Ta1
  have hE : Ext S0 S_24 := Ext.tr hE hx26
  refine lv_aload_n hx hb dX2_readSum_61 rfl (lv_at hl 1 rfl) ?_
  refine lv_aload_n hx hb dX2_readSum_62 rfl (lv_at hl 2 rfl) ?_
  refine lv_iload_n hx hb dX2_readSum_63 rfl (lv_at hl 3 rfl) ?_
  obtain ⟨S_27, hq28, hm⟩ := bd_some hm
  refine pw_cv (va_runV (As := [.ref a1, .int x2]) (rest := []) ⟨hx, hb, hml, hown, hU⟩ (hrec.2.1 l C X S_24 hw.wf _ a0 a1 x2 (Ta0) (Ta1) S_27 hq28) (cwV 2 hU (pq_gV tw745 tw747 ts37 tw7 tc_X2_readProduct) rfl rfl rfl cd_X2_readProduct ⟨Nat.le_refl _, rmg_lawP_l d (by decide)⟩) (pw_preV hw Ta0 (by decide) rfl) rfl rfl hl.1 rfl (lv_room (Nat.le_of_ble_eq_true rfl)) dX2_readSum_64 ⟨Nat.zero_le _, Nat.zero_le _⟩) hw (fun H locs hw hx29 => ?_)
  have Ta0 : TY S_27 a0 2 := ty_ext hx29 Ta0
  have Ta1 : TY S_27 a1 10 := ty_ext hx29 Ta1
  have hE : Ext S0 S_27 := Ext.tr hE hx29
  refine lv_aload_n hx hb dX2_readSum_67 rfl (lv_at hl 1 rfl) ?_
  refine lv_iload hx hb dX2_readSum_68 (lv_at hl 0 rfl) ?_
  obtain ⟨S_30, hq31, hm⟩ := bd_some hm
  refine pw_cv (va_runV (As := [.int z0]) (rest := []) ⟨hx, hb, hml, hown, hU⟩ (c_X2_append l C X n S_27 hw.wf _ a0 z0 (Ta0) S_30 hq31) (cwV 1 hU (pq_gV tw756 tw758 ts39 tw7 tc_X2_append) rfl rfl rfl cd_X2_append ⟨Nat.le_trans (Nat.le_of_ble_eq_true rfl) (Nat.le_add_right _ _), Nat.le_trans (Nat.le_of_ble_eq_true rfl) (Nat.le_add_right _ _)⟩) (pw_preV hw Ta0 (by decide) rfl) rfl rfl hl.1 rfl (lv_room (Nat.le_of_ble_eq_true rfl)) dX2_readSum_70 ⟨Nat.zero_le _, Nat.zero_le _⟩) hw (fun H locs hw hx32 => ?_)
  have Ta0 : TY S_30 a0 2 := ty_ext hx32 Ta0
  have Ta1 : TY S_30 a1 10 := ty_ext hx32 Ta1
  have hE : Ext S0 S_30 := Ext.tr hE hx32
  refine lv_iinc (v := (x3 + 1)) (lv' := [(3, .int (x3 + 1)), (4, .int z0), (0, .ref a0), (1, .ref a1), (2, .int x2)]) hx hb dX2_readSum_73 hl (k := 4) rfl rfl (by decide) rfl (fun ls hl => ?_)
  refine lv_goto (tgt := 8) hx hb dX2_readSum_76 (by decide) ?_
  exact hk6 a0 a1 x2 (x3 + 1) S_30 _ _ _ hw hE Ta0 Ta1 (lv_sub hl [2, 3, 4, 0] rfl) hm
def b_X2_readSum_33 (n : Nat) (rec : (Nat → Nat → Int32 → pq_S → Option pq_S) × (Nat → Nat → Int32 → pq_S → Option pq_S) × (Nat → Nat → Int32 → pq_S → Option pq_S) × (Nat → Nat → Int32 → pq_S → Option pq_S) × (Nat → Nat → Int32 → pq_S → Option pq_S) × (Nat → Nat → Int32 → Int32 → pq_S → Option pq_S)) (k6 : Nat → Nat → Int32 → Int32 → pq_S → Option pq_S) (a0 : Nat) (a1 : Nat) (x2 : Int32) (x3 : Int32) (S : pq_S) : Option pq_S := cb (m_X10_next n a1 S) fun r17 S_15 => if r17 = 43 then b_X2_readSum_51 n rec k6 a0 a1 x2 x3 2000 S_15 else b_X2_readSum_51 n rec k6 a0 a1 x2 x3 2001 S_15
set_option maxHeartbeats 4000000 in
set_option maxRecDepth 100000 in
theorem wb_X2_readSum_33 {p : Program} {l : Launch} {e : Env} {s : State} {m : MethodId} {args : Array Value} {below : List Frame} {meth : Method} {c : Code} (cx : Cx p s m args meth c cX2_readSum 5 RX2 none) (C : pq_C) (X : va_W) (S0 : pq_S) (n : Nat) (d : Nat) (rec : (Nat → Nat → Int32 → pq_S → Option pq_S) × (Nat → Nat → Int32 → pq_S → Option pq_S) × (Nat → Nat → Int32 → pq_S → Option pq_S) × (Nat → Nat → Int32 → pq_S → Option pq_S) × (Nat → Nat → Int32 → pq_S → Option pq_S) × (Nat → Nat → Int32 → Int32 → pq_S → Option pq_S)) (hrec : HG_lawP n d rec) (S1 : pq_S) (k6 : Nat → Nat → Int32 → Int32 → pq_S → Option pq_S) (hk6 : ∀ (a0 : Nat) (a1 : Nat) (x2 : Int32) (x3 : Int32) (S : pq_S) (H : Heap) (locs : List Loc) (ls : Array Slot), PW C X S (pq_F C X S0 s.heap.size) H locs s → Ext S0 S → TY S a0 2 → TY S a1 10 → lv_has ls 5 [(0, .ref a0), (1, .ref a1), (2, .int x2), (3, .int x3)] → k6 a0 a1 x2 x3 S = some S1 → W p l e (rmg_lawP (d + 1)) s m args below meth c H locs 0 0 (MQ below (QcV C X S0 s.heap.size S1) args s 0 0 (pq_F C X S0 s.heap.size)) (F0 m 8 ls [])) : ∀ (a0 : Nat) (a1 : Nat) (x2 : Int32) (x3 : Int32) (S : pq_S) (H : Heap) (locs : List Loc) (ls : Array Slot), PW C X S (pq_F C X S0 s.heap.size) H locs s → Ext S0 S → TY S a0 2 → TY S a1 10 → lv_has ls 5 [(0, .ref a0), (1, .ref a1), (2, .int x2), (3, .int x3)] → b_X2_readSum_33 n rec k6 a0 a1 x2 x3 S = some S1 → W p l e (rmg_lawP (d + 1)) s m args below meth c H locs 0 0 (MQ below (QcV C X S0 s.heap.size S1) args s 0 0 (pq_F C X S0 s.heap.size)) (F0 m 33 ls []) := by
  obtain ⟨hx, hb, hml, hown, hU, hr, hlk⟩ := id cx
  intro a0 a1 x2 x3 S H locs ls hw hE Ta0 Ta1 hl hm
  rw [b_X2_readSum_33] at hm
  refine lv_aload_n hx hb dX2_readSum_33 rfl (lv_at hl 1 rfl) ?_
  obtain ⟨r17, S_15, hq16, hm⟩ := cb_some hm
  refine pw_ci (va_runVN (As := []) (rest := []) ⟨hx, hb, hml, hown, hU⟩ (c_X10_next l C X n S hw.wf _ a1 (Ta1) r17 S_15 hq16) ⟨va_cnB (host := "WickNights") 0 hU (pq_g1 tc_X10_next) rfl rfl rfl (hw.nw 113 rfl) (hU _ tw2) cd_X10_next.2 ⟨Nat.le_trans (Nat.le_of_ble_eq_true rfl) (Nat.le_add_right _ _), Nat.le_trans (Nat.le_of_ble_eq_true rfl) (Nat.le_add_right _ _)⟩, hU _ tw572, hU _ ts12⟩ (pw_preV hw Ta1 (by decide) rfl) rfl rfl hl.1 rfl (lv_room (Nat.le_of_ble_eq_true rfl)) dX2_readSum_34 ⟨Nat.zero_le _, Nat.zero_le _⟩) hw (fun H locs hw hx18 => ?_)
  have Ta0 : TY S_15 a0 2 := ty_ext hx18 Ta0
  have Ta1 : TY S_15 a1 10 := ty_ext hx18 Ta1
  have hE : Ext S0 S_15 := Ext.tr hE hx18
  refine lv_bipush (v := 43) hx hb dX2_readSum_37 (by decide) ?_
  refine lv_icmp_ne (tgt := 48) hx hb dX2_readSum_39 (by decide) (fun h19 => ?_) (fun h19 => ?_)
  · rw [if_neg h19] at hm
    refine lv_sipush (v := 2001) hx hb dX2_readSum_48 (by decide) ?_
    exact wb_X2_readSum_51 cx C X S0 n d rec hrec S1 _ hk6 a0 a1 x2 x3 2001 S_15 _ _ _ hw hE Ta0 Ta1 (lv_sub hl [0, 1, 2, 3] rfl) hm
  · rw [if_pos h19] at hm
    refine lv_sipush (v := 2000) hx hb dX2_readSum_42 (by decide) ?_
    refine lv_goto (tgt := 51) hx hb dX2_readSum_45 (by decide) ?_
    exact wb_X2_readSum_51 cx C X S0 n d rec hrec S1 _ hk6 a0 a1 x2 x3 2000 S_15 _ _ _ hw hE Ta0 Ta1 (lv_sub hl [0, 1, 2, 3] rfl) hm
def b_X2_readSum_8 (n : Nat) (rec : (Nat → Nat → Int32 → pq_S → Option pq_S) × (Nat → Nat → Int32 → pq_S → Option pq_S) × (Nat → Nat → Int32 → pq_S → Option pq_S) × (Nat → Nat → Int32 → pq_S → Option pq_S) × (Nat → Nat → Int32 → pq_S → Option pq_S) × (Nat → Nat → Int32 → Int32 → pq_S → Option pq_S)) : Nat → Nat → Nat → Int32 → Int32 → pq_S → Option pq_S
  | 0, _, _, _, _, _ => none
  | f + 1, a0, a1, x2, x3, S => if 150 ≤ x3 then some S else cb (m_X10_next n a1 S) fun r7 S_5 => if r7 = 43 then b_X2_readSum_33 n rec (b_X2_readSum_8 n rec f) a0 a1 x2 x3 S_5 else cb (m_X10_next n a1 S_5) fun r12 S_10 => if r12 = 45 then b_X2_readSum_33 n rec (b_X2_readSum_8 n rec f) a0 a1 x2 x3 S_10 else some S_10
set_option maxHeartbeats 4000000 in
set_option maxRecDepth 100000 in
theorem wb_X2_readSum_8 {p : Program} {l : Launch} {e : Env} {s : State} {m : MethodId} {args : Array Value} {below : List Frame} {meth : Method} {c : Code} (cx : Cx p s m args meth c cX2_readSum 5 RX2 none) (C : pq_C) (X : va_W) (S0 : pq_S) (n : Nat) (d : Nat) (rec : (Nat → Nat → Int32 → pq_S → Option pq_S) × (Nat → Nat → Int32 → pq_S → Option pq_S) × (Nat → Nat → Int32 → pq_S → Option pq_S) × (Nat → Nat → Int32 → pq_S → Option pq_S) × (Nat → Nat → Int32 → pq_S → Option pq_S) × (Nat → Nat → Int32 → Int32 → pq_S → Option pq_S)) (hrec : HG_lawP n d rec) (S1 : pq_S) : ∀ (f : Nat) (a0 : Nat) (a1 : Nat) (x2 : Int32) (x3 : Int32) (S : pq_S) (H : Heap) (locs : List Loc) (ls : Array Slot), PW C X S (pq_F C X S0 s.heap.size) H locs s → Ext S0 S → TY S a0 2 → TY S a1 10 → lv_has ls 5 [(0, .ref a0), (1, .ref a1), (2, .int x2), (3, .int x3)] → b_X2_readSum_8 n rec f a0 a1 x2 x3 S = some S1 → W p l e (rmg_lawP (d + 1)) s m args below meth c H locs 0 0 (MQ below (QcV C X S0 s.heap.size S1) args s 0 0 (pq_F C X S0 s.heap.size)) (F0 m 8 ls []) := by
  obtain ⟨hx, hb, hml, hown, hU, hr, hlk⟩ := id cx
  intro f
  induction f with
  | zero =>
    intro a0 a1 x2 x3 S H locs ls hw hE Ta0 Ta1 hl hm
    cases hm
  | succ f ih =>
    intro a0 a1 x2 x3 S H locs ls hw hE Ta0 Ta1 hl hm
    rw [b_X2_readSum_8] at hm
    refine lv_iload_n hx hb dX2_readSum_8 rfl (lv_at hl 3 rfl) ?_
    refine lv_sipush (v := 150) hx hb dX2_readSum_9 (by decide) ?_
    refine lv_icmp_ge (tgt := 79) hx hb dX2_readSum_12 (by decide) (fun h4 => ?_) (fun h4 => ?_)
    · rw [if_pos h4] at hm
      cases hm
      exact pw_vret hx hb hr hlk hw hE dX2_readSum_79
    · rw [if_neg h4] at hm
      refine lv_aload_n hx hb dX2_readSum_15 rfl (lv_at hl 1 rfl) ?_
      obtain ⟨r7, S_5, hq6, hm⟩ := cb_some hm
      refine pw_ci (va_runVN (As := []) (rest := []) ⟨hx, hb, hml, hown, hU⟩ (c_X10_next l C X n S hw.wf _ a1 (Ta1) r7 S_5 hq6) ⟨va_cnB (host := "WickNights") 0 hU (pq_g1 tc_X10_next) rfl rfl rfl (hw.nw 113 rfl) (hU _ tw2) cd_X10_next.2 ⟨Nat.le_trans (Nat.le_of_ble_eq_true rfl) (Nat.le_add_right _ _), Nat.le_trans (Nat.le_of_ble_eq_true rfl) (Nat.le_add_right _ _)⟩, hU _ tw572, hU _ ts12⟩ (pw_preV hw Ta1 (by decide) rfl) rfl rfl hl.1 rfl (lv_room (Nat.le_of_ble_eq_true rfl)) dX2_readSum_16 ⟨Nat.zero_le _, Nat.zero_le _⟩) hw (fun H locs hw hx8 => ?_)
      have Ta0 : TY S_5 a0 2 := ty_ext hx8 Ta0
      have Ta1 : TY S_5 a1 10 := ty_ext hx8 Ta1
      have hE : Ext S0 S_5 := Ext.tr hE hx8
      refine lv_bipush (v := 43) hx hb dX2_readSum_19 (by decide) ?_
      refine lv_icmp_eq (tgt := 33) hx hb dX2_readSum_21 (by decide) (fun h9 => ?_) (fun h9 => ?_)
      · rw [if_pos h9] at hm
        exact wb_X2_readSum_33 cx C X S0 n d rec hrec S1 _ ih a0 a1 x2 x3 S_5 _ _ _ hw hE Ta0 Ta1 (lv_sub hl [0, 1, 2, 3] rfl) hm
      · rw [if_neg h9] at hm
        refine lv_aload_n hx hb dX2_readSum_24 rfl (lv_at hl 1 rfl) ?_
        obtain ⟨r12, S_10, hq11, hm⟩ := cb_some hm
        refine pw_ci (va_runVN (As := []) (rest := []) ⟨hx, hb, hml, hown, hU⟩ (c_X10_next l C X n S_5 hw.wf _ a1 (Ta1) r12 S_10 hq11) ⟨va_cnB (host := "WickNights") 0 hU (pq_g1 tc_X10_next) rfl rfl rfl (hw.nw 113 rfl) (hU _ tw2) cd_X10_next.2 ⟨Nat.le_trans (Nat.le_of_ble_eq_true rfl) (Nat.le_add_right _ _), Nat.le_trans (Nat.le_of_ble_eq_true rfl) (Nat.le_add_right _ _)⟩, hU _ tw572, hU _ ts12⟩ (pw_preV hw Ta1 (by decide) rfl) rfl rfl hl.1 rfl (lv_room (Nat.le_of_ble_eq_true rfl)) dX2_readSum_25 ⟨Nat.zero_le _, Nat.zero_le _⟩) hw (fun H locs hw hx13 => ?_)
        have Ta0 : TY S_10 a0 2 := ty_ext hx13 Ta0
        have Ta1 : TY S_10 a1 10 := ty_ext hx13 Ta1
        have hE : Ext S0 S_10 := Ext.tr hE hx13
        refine lv_bipush (v := 45) hx hb dX2_readSum_28 (by decide) ?_
        refine lv_icmp_ne (tgt := 79) hx hb dX2_readSum_30 (by decide) (fun h14 => ?_) (fun h14 => ?_)
        · rw [if_neg h14] at hm
          cases hm
          exact pw_vret hx hb hr hlk hw hE dX2_readSum_79
        · rw [if_pos h14] at hm
          exact wb_X2_readSum_33 cx C X S0 n d rec hrec S1 _ ih a0 a1 x2 x3 S_10 _ _ _ hw hE Ta0 Ta1 (lv_sub hl [0, 1, 2, 3] rfl) hm
def g_X2_readSum (n : Nat) (rec : (Nat → Nat → Int32 → pq_S → Option pq_S) × (Nat → Nat → Int32 → pq_S → Option pq_S) × (Nat → Nat → Int32 → pq_S → Option pq_S) × (Nat → Nat → Int32 → pq_S → Option pq_S) × (Nat → Nat → Int32 → pq_S → Option pq_S) × (Nat → Nat → Int32 → Int32 → pq_S → Option pq_S)) (a0 : Nat) (a1 : Nat) (x2 : Int32) (S0 : pq_S) : Option pq_S := Option.bind (rec.2.1 a0 a1 x2 S0) fun S_1 => b_X2_readSum_8 n rec n a0 a1 x2 0 S_1
set_option maxHeartbeats 4000000 in
set_option maxRecDepth 100000 in
theorem cg_X2_readSum (n d : Nat) (rec : (Nat → Nat → Int32 → pq_S → Option pq_S) × (Nat → Nat → Int32 → pq_S → Option pq_S) × (Nat → Nat → Int32 → pq_S → Option pq_S) × (Nat → Nat → Int32 → pq_S → Option pq_S) × (Nat → Nat → Int32 → pq_S → Option pq_S) × (Nat → Nat → Int32 → Int32 → pq_S → Option pq_S)) (hrec : HG_lawP n d rec) (l : Launch) (C : pq_C) (X : va_W) (S0 : pq_S) (hF : WF S0) (sz : Nat) (a0 : Nat) (a1 : Nat) (x2 : Int32) (Ta0 : TY S0 a0 2) (Ta1 : TY S0 a1 10) (S1 : pq_S) (hm : g_X2_readSum n rec a0 a1 x2 S0 = some S1) : MV l yX2_readSum (.code yX2_readSum cX2_readSum 5 none :: pq_U) (rmg_lawP (d + 1)) C X S0 sz [.ref a0, .ref a1, .int x2] S1 0 0 := by
  refine Met.ofW (cc := cX2_readSum) (maxL := 5) (ret := none) (by decide) rfl ?_
  intro p e s m args below meth c s₁ B hml hv
  obtain ⟨rfl, hv⟩ := hv
  have hsz := hv.1
  subst hsz
  have hw := pw_entry hF hv
  have hts := atoms_spec (ws := .code yX2_readSum cX2_readSum 5 none :: pq_U) B.pre
  have hU : ∀ w ∈ pq_U, w.before _ s = true := fun w h => hts w (List.mem_cons_of_mem _ h)
  have hx := B.exec
  have hb := B.bytes
  have hr := B.returns
  have hown : s.vm.findClass RX2 = some m.cls := findClass_of_methodNamed B.named
  have hlk := B.notSynchronized
  have hl := lv_entry ([.ref a0, .ref a1, .int x2]) (n := 5) (Nat.le_of_ble_eq_true rfl)
  rw [lg_entry_eq]
  generalize (lg_sl ([.ref a0, .ref a1, .int x2]) ++ List.replicate (5 - (lg_sl ([.ref a0, .ref a1, .int x2])).length) Slot.unset).toArray = ls at hl ⊢
  have hl : lv_has ls 5 [(0, .ref a0), (1, .ref a1), (2, .int x2)] := hl
  have hE : Ext S0 S0 := Ext.rf _
  have cx : Cx p s m _ meth c cX2_readSum 5 RX2 none := ⟨hx, hb, hml, hown, hU, hr, hlk⟩
  rw [g_X2_readSum] at hm
  refine lv_aload_n hx hb dX2_readSum_0 rfl (lv_at hl 0 rfl) ?_
  refine lv_aload_n hx hb dX2_readSum_1 rfl (lv_at hl 1 rfl) ?_
  refine lv_iload_n hx hb dX2_readSum_2 rfl (lv_at hl 2 rfl) ?_
  obtain ⟨S_1, hq2, hm⟩ := bd_some hm
  refine pw_cv (va_runV (As := [.ref a1, .int x2]) (rest := []) ⟨hx, hb, hml, hown, hU⟩ (hrec.2.1 l C X S0 hw.wf _ a0 a1 x2 (Ta0) (Ta1) S_1 hq2) (cwV 2 hU (pq_gV tw745 tw747 ts37 tw7 tc_X2_readProduct) rfl rfl rfl cd_X2_readProduct ⟨Nat.le_refl _, rmg_lawP_l d (by decide)⟩) (pw_preV hw Ta0 (by decide) rfl) rfl rfl hl.1 rfl (lv_room (Nat.le_of_ble_eq_true rfl)) dX2_readSum_3 ⟨Nat.zero_le _, Nat.zero_le _⟩) hw (fun H locs hw hx3 => ?_)
  have Ta0 : TY S_1 a0 2 := ty_ext hx3 Ta0
  have Ta1 : TY S_1 a1 10 := ty_ext hx3 Ta1
  have hE : Ext S0 S_1 := Ext.tr hE hx3
  refine lv_iconst (v := 0) hx hb dX2_readSum_6 (by decide) ?_
  refine lv_istore_n (lv' := [(3, .int 0), (0, .ref a0), (1, .ref a1), (2, .int x2)]) hx hb dX2_readSum_7 rfl hl (by decide) rfl (fun ls hl => ?_)
  exact wb_X2_readSum_8 cx C X S0 n d rec hrec S1 n a0 a1 x2 0 S_1 _ _ _ hw hE Ta0 Ta1 (lv_sub hl [1, 2, 3, 0] rfl) hm
def b_X2_readProduct_51 (n : Nat) (rec : (Nat → Nat → Int32 → pq_S → Option pq_S) × (Nat → Nat → Int32 → pq_S → Option pq_S) × (Nat → Nat → Int32 → pq_S → Option pq_S) × (Nat → Nat → Int32 → pq_S → Option pq_S) × (Nat → Nat → Int32 → pq_S → Option pq_S) × (Nat → Nat → Int32 → Int32 → pq_S → Option pq_S)) (k6 : Nat → Nat → Int32 → Int32 → pq_S → Option pq_S) (a0 : Nat) (a1 : Nat) (x2 : Int32) (x3 : Int32) (z0 : Int32) (S : pq_S) : Option pq_S := cb (m_X10_next n a1 S) fun r22 S_20 => Option.bind (m_X10_takeSign n a1 r22 S_20) fun S_24 => Option.bind (rec.2.2.1 a0 a1 x2 S_24) fun S_27 => Option.bind (m_X2_append n a0 z0 S_27) fun S_30 => k6 a0 a1 x2 (x3 + 1) S_30
set_option maxHeartbeats 4000000 in
set_option maxRecDepth 100000 in
theorem wb_X2_readProduct_51 {p : Program} {l : Launch} {e : Env} {s : State} {m : MethodId} {args : Array Value} {below : List Frame} {meth : Method} {c : Code} (cx : Cx p s m args meth c cX2_readProduct 5 RX2 none) (C : pq_C) (X : va_W) (S0 : pq_S) (n : Nat) (d : Nat) (rec : (Nat → Nat → Int32 → pq_S → Option pq_S) × (Nat → Nat → Int32 → pq_S → Option pq_S) × (Nat → Nat → Int32 → pq_S → Option pq_S) × (Nat → Nat → Int32 → pq_S → Option pq_S) × (Nat → Nat → Int32 → pq_S → Option pq_S) × (Nat → Nat → Int32 → Int32 → pq_S → Option pq_S)) (hrec : HG_lawP n d rec) (S1 : pq_S) (k6 : Nat → Nat → Int32 → Int32 → pq_S → Option pq_S) (hk6 : ∀ (a0 : Nat) (a1 : Nat) (x2 : Int32) (x3 : Int32) (S : pq_S) (H : Heap) (locs : List Loc) (ls : Array Slot), PW C X S (pq_F C X S0 s.heap.size) H locs s → Ext S0 S → TY S a0 2 → TY S a1 10 → lv_has ls 5 [(0, .ref a0), (1, .ref a1), (2, .int x2), (3, .int x3)] → k6 a0 a1 x2 x3 S = some S1 → W p l e (rmg_lawP (d + 1)) s m args below meth c H locs 0 0 (MQ below (QcV C X S0 s.heap.size S1) args s 0 0 (pq_F C X S0 s.heap.size)) (F0 m 8 ls [])) : ∀ (a0 : Nat) (a1 : Nat) (x2 : Int32) (x3 : Int32) (z0 : Int32) (S : pq_S) (H : Heap) (locs : List Loc) (ls : Array Slot), PW C X S (pq_F C X S0 s.heap.size) H locs s → Ext S0 S → TY S a0 2 → TY S a1 10 → lv_has ls 5 [(0, .ref a0), (1, .ref a1), (2, .int x2), (3, .int x3)] → b_X2_readProduct_51 n rec k6 a0 a1 x2 x3 z0 S = some S1 → W p l e (rmg_lawP (d + 1)) s m args below meth c H locs 0 0 (MQ below (QcV C X S0 s.heap.size S1) args s 0 0 (pq_F C X S0 s.heap.size)) (F0 m 51 ls [.int z0]) := by
  obtain ⟨hx, hb, hml, hown, hU, hr, hlk⟩ := id cx
  intro a0 a1 x2 x3 z0 S H locs ls hw hE Ta0 Ta1 hl hm
  rw [b_X2_readProduct_51] at hm
  refine lv_istore (lv' := [(4, .int z0), (0, .ref a0), (1, .ref a1), (2, .int x2), (3, .int x3)]) hx hb dX2_readProduct_51 hl (by decide) rfl (fun ls hl => ?_)
  refine lv_aload_n hx hb dX2_readProduct_53 rfl (lv_at hl 2 rfl) ?_
  refine lv_aload_n hx hb dX2_readProduct_54 rfl (lv_at hl 2 rfl) ?_
  obtain ⟨r22, S_20, hq21, hm⟩ := cb_some hm
  refine pw_ci (va_runVN (As := []) (rest := [.ref a1]) ⟨hx, hb, hml, hown, hU⟩ (c_X10_next l C X n S hw.wf _ a1 (Ta1) r22 S_20 hq21) ⟨va_cnB (host := "WickNights") 0 hU (pq_g1 tc_X10_next) rfl rfl rfl (hw.nw 113 rfl) (hU _ tw2) cd_X10_next.2 ⟨Nat.le_trans (Nat.le_of_ble_eq_true rfl) (Nat.le_add_right _ _), Nat.le_trans (Nat.le_of_ble_eq_true rfl) (Nat.le_add_right _ _)⟩, hU _ tw572, hU _ ts12⟩ (pw_preV hw Ta1 (by decide) rfl) rfl rfl hl.1 rfl (lv_room (Nat.le_of_ble_eq_true rfl)) dX2_readProduct_55 ⟨Nat.zero_le _, Nat.zero_le _⟩) hw (fun H locs hw hx23 => ?_)
  have Ta1 : TY S_20 a1 10 := ty_ext hx23 Ta1
  have Ta0 : TY S_20 a0 2 := ty_ext hx23 Ta0
  have hE : Ext S0 S_20 := Ext.tr hE hx23
  obtain ⟨S_24, hq25, hm⟩ := bd_some hm
  refine pw_cv (va_runVN (As := [.int r22]) (rest := []) ⟨hx, hb, hml, hown, hU⟩ (c_X10_takeSign l C X n S_20 hw.wf _ a1 r22 (Ta1) S_24 hq25) ⟨va_cnB (host := "WickNights") 1 hU (pq_g1 tc_X10_takeSign) rfl rfl rfl (hw.nw 119 rfl) (hU _ tw2) cd_X10_takeSign.2 ⟨Nat.le_trans (Nat.le_of_ble_eq_true rfl) (Nat.le_add_right _ _), Nat.le_trans (Nat.le_of_ble_eq_true rfl) (Nat.le_add_right _ _)⟩, hU _ tw697, hU _ ts27⟩ (pw_preV hw Ta1 (by decide) rfl) rfl rfl hl.1 rfl (lv_room (Nat.le_of_ble_eq_true rfl)) dX2_readProduct_58 ⟨Nat.zero_le _, Nat.zero_le _⟩) hw (fun H locs hw hx26 => ?_)
  have Ta0 : TY S_24 a0 2 := ty_ext hx26 Ta0
  have Ta1 : TY S_24 a1 10 := ty_ext hx26 Ta1
  have hE : Ext S0 S_24 := Ext.tr hE hx26
  refine lv_aload_n hx hb dX2_readProduct_61 rfl (lv_at hl 1 rfl) ?_
  refine lv_aload_n hx hb dX2_readProduct_62 rfl (lv_at hl 2 rfl) ?_
  refine lv_iload_n hx hb dX2_readProduct_63 rfl (lv_at hl 3 rfl) ?_
  obtain ⟨S_27, hq28, hm⟩ := bd_some hm
  refine pw_cv (va_runV (As := [.ref a1, .int x2]) (rest := []) ⟨hx, hb, hml, hown, hU⟩ (hrec.2.2.1 l C X S_24 hw.wf _ a0 a1 x2 (Ta0) (Ta1) S_27 hq28) (cwV 2 hU (pq_gV tw749 tw751 ts38 tw7 tc_X2_readUnit) rfl rfl rfl cd_X2_readUnit ⟨Nat.le_refl _, rmg_lawP_l d (by decide)⟩) (pw_preV hw Ta0 (by decide) rfl) rfl rfl hl.1 rfl (lv_room (Nat.le_of_ble_eq_true rfl)) dX2_readProduct_64 ⟨Nat.zero_le _, Nat.zero_le _⟩) hw (fun H locs hw hx29 => ?_)
  have Ta0 : TY S_27 a0 2 := ty_ext hx29 Ta0
  have Ta1 : TY S_27 a1 10 := ty_ext hx29 Ta1
  have hE : Ext S0 S_27 := Ext.tr hE hx29
  refine lv_aload_n hx hb dX2_readProduct_67 rfl (lv_at hl 1 rfl) ?_
  refine lv_iload hx hb dX2_readProduct_68 (lv_at hl 0 rfl) ?_
  obtain ⟨S_30, hq31, hm⟩ := bd_some hm
  refine pw_cv (va_runV (As := [.int z0]) (rest := []) ⟨hx, hb, hml, hown, hU⟩ (c_X2_append l C X n S_27 hw.wf _ a0 z0 (Ta0) S_30 hq31) (cwV 1 hU (pq_gV tw756 tw758 ts39 tw7 tc_X2_append) rfl rfl rfl cd_X2_append ⟨Nat.le_trans (Nat.le_of_ble_eq_true rfl) (Nat.le_add_right _ _), Nat.le_trans (Nat.le_of_ble_eq_true rfl) (Nat.le_add_right _ _)⟩) (pw_preV hw Ta0 (by decide) rfl) rfl rfl hl.1 rfl (lv_room (Nat.le_of_ble_eq_true rfl)) dX2_readProduct_70 ⟨Nat.zero_le _, Nat.zero_le _⟩) hw (fun H locs hw hx32 => ?_)
  have Ta0 : TY S_30 a0 2 := ty_ext hx32 Ta0
  have Ta1 : TY S_30 a1 10 := ty_ext hx32 Ta1
  have hE : Ext S0 S_30 := Ext.tr hE hx32
  refine lv_iinc (v := (x3 + 1)) (lv' := [(3, .int (x3 + 1)), (4, .int z0), (0, .ref a0), (1, .ref a1), (2, .int x2)]) hx hb dX2_readProduct_73 hl (k := 4) rfl rfl (by decide) rfl (fun ls hl => ?_)
  refine lv_goto (tgt := 8) hx hb dX2_readProduct_76 (by decide) ?_
  exact hk6 a0 a1 x2 (x3 + 1) S_30 _ _ _ hw hE Ta0 Ta1 (lv_sub hl [2, 3, 4, 0] rfl) hm
def b_X2_readProduct_33 (n : Nat) (rec : (Nat → Nat → Int32 → pq_S → Option pq_S) × (Nat → Nat → Int32 → pq_S → Option pq_S) × (Nat → Nat → Int32 → pq_S → Option pq_S) × (Nat → Nat → Int32 → pq_S → Option pq_S) × (Nat → Nat → Int32 → pq_S → Option pq_S) × (Nat → Nat → Int32 → Int32 → pq_S → Option pq_S)) (k6 : Nat → Nat → Int32 → Int32 → pq_S → Option pq_S) (a0 : Nat) (a1 : Nat) (x2 : Int32) (x3 : Int32) (S : pq_S) : Option pq_S := cb (m_X10_next n a1 S) fun r17 S_15 => if r17 = 42 then b_X2_readProduct_51 n rec k6 a0 a1 x2 x3 2002 S_15 else b_X2_readProduct_51 n rec k6 a0 a1 x2 x3 2003 S_15
set_option maxHeartbeats 4000000 in
set_option maxRecDepth 100000 in
theorem wb_X2_readProduct_33 {p : Program} {l : Launch} {e : Env} {s : State} {m : MethodId} {args : Array Value} {below : List Frame} {meth : Method} {c : Code} (cx : Cx p s m args meth c cX2_readProduct 5 RX2 none) (C : pq_C) (X : va_W) (S0 : pq_S) (n : Nat) (d : Nat) (rec : (Nat → Nat → Int32 → pq_S → Option pq_S) × (Nat → Nat → Int32 → pq_S → Option pq_S) × (Nat → Nat → Int32 → pq_S → Option pq_S) × (Nat → Nat → Int32 → pq_S → Option pq_S) × (Nat → Nat → Int32 → pq_S → Option pq_S) × (Nat → Nat → Int32 → Int32 → pq_S → Option pq_S)) (hrec : HG_lawP n d rec) (S1 : pq_S) (k6 : Nat → Nat → Int32 → Int32 → pq_S → Option pq_S) (hk6 : ∀ (a0 : Nat) (a1 : Nat) (x2 : Int32) (x3 : Int32) (S : pq_S) (H : Heap) (locs : List Loc) (ls : Array Slot), PW C X S (pq_F C X S0 s.heap.size) H locs s → Ext S0 S → TY S a0 2 → TY S a1 10 → lv_has ls 5 [(0, .ref a0), (1, .ref a1), (2, .int x2), (3, .int x3)] → k6 a0 a1 x2 x3 S = some S1 → W p l e (rmg_lawP (d + 1)) s m args below meth c H locs 0 0 (MQ below (QcV C X S0 s.heap.size S1) args s 0 0 (pq_F C X S0 s.heap.size)) (F0 m 8 ls [])) : ∀ (a0 : Nat) (a1 : Nat) (x2 : Int32) (x3 : Int32) (S : pq_S) (H : Heap) (locs : List Loc) (ls : Array Slot), PW C X S (pq_F C X S0 s.heap.size) H locs s → Ext S0 S → TY S a0 2 → TY S a1 10 → lv_has ls 5 [(0, .ref a0), (1, .ref a1), (2, .int x2), (3, .int x3)] → b_X2_readProduct_33 n rec k6 a0 a1 x2 x3 S = some S1 → W p l e (rmg_lawP (d + 1)) s m args below meth c H locs 0 0 (MQ below (QcV C X S0 s.heap.size S1) args s 0 0 (pq_F C X S0 s.heap.size)) (F0 m 33 ls []) := by
  obtain ⟨hx, hb, hml, hown, hU, hr, hlk⟩ := id cx
  intro a0 a1 x2 x3 S H locs ls hw hE Ta0 Ta1 hl hm
  rw [b_X2_readProduct_33] at hm
  refine lv_aload_n hx hb dX2_readProduct_33 rfl (lv_at hl 1 rfl) ?_
  obtain ⟨r17, S_15, hq16, hm⟩ := cb_some hm
  refine pw_ci (va_runVN (As := []) (rest := []) ⟨hx, hb, hml, hown, hU⟩ (c_X10_next l C X n S hw.wf _ a1 (Ta1) r17 S_15 hq16) ⟨va_cnB (host := "WickNights") 0 hU (pq_g1 tc_X10_next) rfl rfl rfl (hw.nw 113 rfl) (hU _ tw2) cd_X10_next.2 ⟨Nat.le_trans (Nat.le_of_ble_eq_true rfl) (Nat.le_add_right _ _), Nat.le_trans (Nat.le_of_ble_eq_true rfl) (Nat.le_add_right _ _)⟩, hU _ tw572, hU _ ts12⟩ (pw_preV hw Ta1 (by decide) rfl) rfl rfl hl.1 rfl (lv_room (Nat.le_of_ble_eq_true rfl)) dX2_readProduct_34 ⟨Nat.zero_le _, Nat.zero_le _⟩) hw (fun H locs hw hx18 => ?_)
  have Ta0 : TY S_15 a0 2 := ty_ext hx18 Ta0
  have Ta1 : TY S_15 a1 10 := ty_ext hx18 Ta1
  have hE : Ext S0 S_15 := Ext.tr hE hx18
  refine lv_bipush (v := 42) hx hb dX2_readProduct_37 (by decide) ?_
  refine lv_icmp_ne (tgt := 48) hx hb dX2_readProduct_39 (by decide) (fun h19 => ?_) (fun h19 => ?_)
  · rw [if_neg h19] at hm
    refine lv_sipush (v := 2003) hx hb dX2_readProduct_48 (by decide) ?_
    exact wb_X2_readProduct_51 cx C X S0 n d rec hrec S1 _ hk6 a0 a1 x2 x3 2003 S_15 _ _ _ hw hE Ta0 Ta1 (lv_sub hl [0, 1, 2, 3] rfl) hm
  · rw [if_pos h19] at hm
    refine lv_sipush (v := 2002) hx hb dX2_readProduct_42 (by decide) ?_
    refine lv_goto (tgt := 51) hx hb dX2_readProduct_45 (by decide) ?_
    exact wb_X2_readProduct_51 cx C X S0 n d rec hrec S1 _ hk6 a0 a1 x2 x3 2002 S_15 _ _ _ hw hE Ta0 Ta1 (lv_sub hl [0, 1, 2, 3] rfl) hm
def b_X2_readProduct_8 (n : Nat) (rec : (Nat → Nat → Int32 → pq_S → Option pq_S) × (Nat → Nat → Int32 → pq_S → Option pq_S) × (Nat → Nat → Int32 → pq_S → Option pq_S) × (Nat → Nat → Int32 → pq_S → Option pq_S) × (Nat → Nat → Int32 → pq_S → Option pq_S) × (Nat → Nat → Int32 → Int32 → pq_S → Option pq_S)) : Nat → Nat → Nat → Int32 → Int32 → pq_S → Option pq_S
  | 0, _, _, _, _, _ => none
  | f + 1, a0, a1, x2, x3, S => if 150 ≤ x3 then some S else cb (m_X10_next n a1 S) fun r7 S_5 => if r7 = 42 then b_X2_readProduct_33 n rec (b_X2_readProduct_8 n rec f) a0 a1 x2 x3 S_5 else cb (m_X10_next n a1 S_5) fun r12 S_10 => if r12 = 47 then b_X2_readProduct_33 n rec (b_X2_readProduct_8 n rec f) a0 a1 x2 x3 S_10 else some S_10
set_option maxHeartbeats 4000000 in
set_option maxRecDepth 100000 in
theorem wb_X2_readProduct_8 {p : Program} {l : Launch} {e : Env} {s : State} {m : MethodId} {args : Array Value} {below : List Frame} {meth : Method} {c : Code} (cx : Cx p s m args meth c cX2_readProduct 5 RX2 none) (C : pq_C) (X : va_W) (S0 : pq_S) (n : Nat) (d : Nat) (rec : (Nat → Nat → Int32 → pq_S → Option pq_S) × (Nat → Nat → Int32 → pq_S → Option pq_S) × (Nat → Nat → Int32 → pq_S → Option pq_S) × (Nat → Nat → Int32 → pq_S → Option pq_S) × (Nat → Nat → Int32 → pq_S → Option pq_S) × (Nat → Nat → Int32 → Int32 → pq_S → Option pq_S)) (hrec : HG_lawP n d rec) (S1 : pq_S) : ∀ (f : Nat) (a0 : Nat) (a1 : Nat) (x2 : Int32) (x3 : Int32) (S : pq_S) (H : Heap) (locs : List Loc) (ls : Array Slot), PW C X S (pq_F C X S0 s.heap.size) H locs s → Ext S0 S → TY S a0 2 → TY S a1 10 → lv_has ls 5 [(0, .ref a0), (1, .ref a1), (2, .int x2), (3, .int x3)] → b_X2_readProduct_8 n rec f a0 a1 x2 x3 S = some S1 → W p l e (rmg_lawP (d + 1)) s m args below meth c H locs 0 0 (MQ below (QcV C X S0 s.heap.size S1) args s 0 0 (pq_F C X S0 s.heap.size)) (F0 m 8 ls []) := by
  obtain ⟨hx, hb, hml, hown, hU, hr, hlk⟩ := id cx
  intro f
  induction f with
  | zero =>
    intro a0 a1 x2 x3 S H locs ls hw hE Ta0 Ta1 hl hm
    cases hm
  | succ f ih =>
    intro a0 a1 x2 x3 S H locs ls hw hE Ta0 Ta1 hl hm
    rw [b_X2_readProduct_8] at hm
    refine lv_iload_n hx hb dX2_readProduct_8 rfl (lv_at hl 3 rfl) ?_
    refine lv_sipush (v := 150) hx hb dX2_readProduct_9 (by decide) ?_
    refine lv_icmp_ge (tgt := 79) hx hb dX2_readProduct_12 (by decide) (fun h4 => ?_) (fun h4 => ?_)
    · rw [if_pos h4] at hm
      cases hm
      exact pw_vret hx hb hr hlk hw hE dX2_readProduct_79
    · rw [if_neg h4] at hm
      refine lv_aload_n hx hb dX2_readProduct_15 rfl (lv_at hl 1 rfl) ?_
      obtain ⟨r7, S_5, hq6, hm⟩ := cb_some hm
      refine pw_ci (va_runVN (As := []) (rest := []) ⟨hx, hb, hml, hown, hU⟩ (c_X10_next l C X n S hw.wf _ a1 (Ta1) r7 S_5 hq6) ⟨va_cnB (host := "WickNights") 0 hU (pq_g1 tc_X10_next) rfl rfl rfl (hw.nw 113 rfl) (hU _ tw2) cd_X10_next.2 ⟨Nat.le_trans (Nat.le_of_ble_eq_true rfl) (Nat.le_add_right _ _), Nat.le_trans (Nat.le_of_ble_eq_true rfl) (Nat.le_add_right _ _)⟩, hU _ tw572, hU _ ts12⟩ (pw_preV hw Ta1 (by decide) rfl) rfl rfl hl.1 rfl (lv_room (Nat.le_of_ble_eq_true rfl)) dX2_readProduct_16 ⟨Nat.zero_le _, Nat.zero_le _⟩) hw (fun H locs hw hx8 => ?_)
      have Ta0 : TY S_5 a0 2 := ty_ext hx8 Ta0
      have Ta1 : TY S_5 a1 10 := ty_ext hx8 Ta1
      have hE : Ext S0 S_5 := Ext.tr hE hx8
      refine lv_bipush (v := 42) hx hb dX2_readProduct_19 (by decide) ?_
      refine lv_icmp_eq (tgt := 33) hx hb dX2_readProduct_21 (by decide) (fun h9 => ?_) (fun h9 => ?_)
      · rw [if_pos h9] at hm
        exact wb_X2_readProduct_33 cx C X S0 n d rec hrec S1 _ ih a0 a1 x2 x3 S_5 _ _ _ hw hE Ta0 Ta1 (lv_sub hl [0, 1, 2, 3] rfl) hm
      · rw [if_neg h9] at hm
        refine lv_aload_n hx hb dX2_readProduct_24 rfl (lv_at hl 1 rfl) ?_
        obtain ⟨r12, S_10, hq11, hm⟩ := cb_some hm
        refine pw_ci (va_runVN (As := []) (rest := []) ⟨hx, hb, hml, hown, hU⟩ (c_X10_next l C X n S_5 hw.wf _ a1 (Ta1) r12 S_10 hq11) ⟨va_cnB (host := "WickNights") 0 hU (pq_g1 tc_X10_next) rfl rfl rfl (hw.nw 113 rfl) (hU _ tw2) cd_X10_next.2 ⟨Nat.le_trans (Nat.le_of_ble_eq_true rfl) (Nat.le_add_right _ _), Nat.le_trans (Nat.le_of_ble_eq_true rfl) (Nat.le_add_right _ _)⟩, hU _ tw572, hU _ ts12⟩ (pw_preV hw Ta1 (by decide) rfl) rfl rfl hl.1 rfl (lv_room (Nat.le_of_ble_eq_true rfl)) dX2_readProduct_25 ⟨Nat.zero_le _, Nat.zero_le _⟩) hw (fun H locs hw hx13 => ?_)
        have Ta0 : TY S_10 a0 2 := ty_ext hx13 Ta0
        have Ta1 : TY S_10 a1 10 := ty_ext hx13 Ta1
        have hE : Ext S0 S_10 := Ext.tr hE hx13
        refine lv_bipush (v := 47) hx hb dX2_readProduct_28 (by decide) ?_
        refine lv_icmp_ne (tgt := 79) hx hb dX2_readProduct_30 (by decide) (fun h14 => ?_) (fun h14 => ?_)
        · rw [if_neg h14] at hm
          cases hm
          exact pw_vret hx hb hr hlk hw hE dX2_readProduct_79
        · rw [if_pos h14] at hm
          exact wb_X2_readProduct_33 cx C X S0 n d rec hrec S1 _ ih a0 a1 x2 x3 S_10 _ _ _ hw hE Ta0 Ta1 (lv_sub hl [0, 1, 2, 3] rfl) hm
def g_X2_readProduct (n : Nat) (rec : (Nat → Nat → Int32 → pq_S → Option pq_S) × (Nat → Nat → Int32 → pq_S → Option pq_S) × (Nat → Nat → Int32 → pq_S → Option pq_S) × (Nat → Nat → Int32 → pq_S → Option pq_S) × (Nat → Nat → Int32 → pq_S → Option pq_S) × (Nat → Nat → Int32 → Int32 → pq_S → Option pq_S)) (a0 : Nat) (a1 : Nat) (x2 : Int32) (S0 : pq_S) : Option pq_S := Option.bind (rec.2.2.1 a0 a1 x2 S0) fun S_1 => b_X2_readProduct_8 n rec n a0 a1 x2 0 S_1
set_option maxHeartbeats 4000000 in
set_option maxRecDepth 100000 in
theorem cg_X2_readProduct (n d : Nat) (rec : (Nat → Nat → Int32 → pq_S → Option pq_S) × (Nat → Nat → Int32 → pq_S → Option pq_S) × (Nat → Nat → Int32 → pq_S → Option pq_S) × (Nat → Nat → Int32 → pq_S → Option pq_S) × (Nat → Nat → Int32 → pq_S → Option pq_S) × (Nat → Nat → Int32 → Int32 → pq_S → Option pq_S)) (hrec : HG_lawP n d rec) (l : Launch) (C : pq_C) (X : va_W) (S0 : pq_S) (hF : WF S0) (sz : Nat) (a0 : Nat) (a1 : Nat) (x2 : Int32) (Ta0 : TY S0 a0 2) (Ta1 : TY S0 a1 10) (S1 : pq_S) (hm : g_X2_readProduct n rec a0 a1 x2 S0 = some S1) : MV l yX2_readProduct (.code yX2_readProduct cX2_readProduct 5 none :: pq_U) (rmg_lawP (d + 1)) C X S0 sz [.ref a0, .ref a1, .int x2] S1 0 0 := by
  refine Met.ofW (cc := cX2_readProduct) (maxL := 5) (ret := none) (by decide) rfl ?_
  intro p e s m args below meth c s₁ B hml hv
  obtain ⟨rfl, hv⟩ := hv
  have hsz := hv.1
  subst hsz
  have hw := pw_entry hF hv
  have hts := atoms_spec (ws := .code yX2_readProduct cX2_readProduct 5 none :: pq_U) B.pre
  have hU : ∀ w ∈ pq_U, w.before _ s = true := fun w h => hts w (List.mem_cons_of_mem _ h)
  have hx := B.exec
  have hb := B.bytes
  have hr := B.returns
  have hown : s.vm.findClass RX2 = some m.cls := findClass_of_methodNamed B.named
  have hlk := B.notSynchronized
  have hl := lv_entry ([.ref a0, .ref a1, .int x2]) (n := 5) (Nat.le_of_ble_eq_true rfl)
  rw [lg_entry_eq]
  generalize (lg_sl ([.ref a0, .ref a1, .int x2]) ++ List.replicate (5 - (lg_sl ([.ref a0, .ref a1, .int x2])).length) Slot.unset).toArray = ls at hl ⊢
  have hl : lv_has ls 5 [(0, .ref a0), (1, .ref a1), (2, .int x2)] := hl
  have hE : Ext S0 S0 := Ext.rf _
  have cx : Cx p s m _ meth c cX2_readProduct 5 RX2 none := ⟨hx, hb, hml, hown, hU, hr, hlk⟩
  rw [g_X2_readProduct] at hm
  refine lv_aload_n hx hb dX2_readProduct_0 rfl (lv_at hl 0 rfl) ?_
  refine lv_aload_n hx hb dX2_readProduct_1 rfl (lv_at hl 1 rfl) ?_
  refine lv_iload_n hx hb dX2_readProduct_2 rfl (lv_at hl 2 rfl) ?_
  obtain ⟨S_1, hq2, hm⟩ := bd_some hm
  refine pw_cv (va_runV (As := [.ref a1, .int x2]) (rest := []) ⟨hx, hb, hml, hown, hU⟩ (hrec.2.2.1 l C X S0 hw.wf _ a0 a1 x2 (Ta0) (Ta1) S_1 hq2) (cwV 2 hU (pq_gV tw749 tw751 ts38 tw7 tc_X2_readUnit) rfl rfl rfl cd_X2_readUnit ⟨Nat.le_refl _, rmg_lawP_l d (by decide)⟩) (pw_preV hw Ta0 (by decide) rfl) rfl rfl hl.1 rfl (lv_room (Nat.le_of_ble_eq_true rfl)) dX2_readProduct_3 ⟨Nat.zero_le _, Nat.zero_le _⟩) hw (fun H locs hw hx3 => ?_)
  have Ta0 : TY S_1 a0 2 := ty_ext hx3 Ta0
  have Ta1 : TY S_1 a1 10 := ty_ext hx3 Ta1
  have hE : Ext S0 S_1 := Ext.tr hE hx3
  refine lv_iconst (v := 0) hx hb dX2_readProduct_6 (by decide) ?_
  refine lv_istore_n (lv' := [(3, .int 0), (0, .ref a0), (1, .ref a1), (2, .int x2)]) hx hb dX2_readProduct_7 rfl hl (by decide) rfl (fun ls hl => ?_)
  exact wb_X2_readProduct_8 cx C X S0 n d rec hrec S1 n a0 a1 x2 0 S_1 _ _ _ hw hE Ta0 Ta1 (lv_sub hl [1, 2, 3, 0] rfl) hm
def g_X2_readUnit (n : Nat) (rec : (Nat → Nat → Int32 → pq_S → Option pq_S) × (Nat → Nat → Int32 → pq_S → Option pq_S) × (Nat → Nat → Int32 → pq_S → Option pq_S) × (Nat → Nat → Int32 → pq_S → Option pq_S) × (Nat → Nat → Int32 → pq_S → Option pq_S) × (Nat → Nat → Int32 → Int32 → pq_S → Option pq_S)) (a0 : Nat) (a1 : Nat) (x2 : Int32) (S0 : pq_S) : Option pq_S := cb (m_X10_next n a1 S0) fun r3 S_1 => cb (m_X11_isWithin n r3 48 57 S_1) fun r7 S_5 => if r7 = 0 then cb (m_X11_isWithin n r3 97 122 S_5) fun r13 S_11 => if r13 = 0 then if r3 = 40 then Option.bind (rec.2.2.2.1 a0 a1 x2 S_11) fun S_21 => some S_21 else Option.bind (m_X10_refuse n a1 1 (pI S_11 1003 a1) S_11) fun S_18 => some S_18 else Option.bind (rec.2.2.2.2.1 a0 a1 x2 S_11) fun S_24 => some S_24 else cb (m_X10_takeNumber n a1 0 999 S_5) fun r29 S_27 => Option.bind (m_X2_append n a0 r29 S_27) fun S_31 => some S_31
set_option maxHeartbeats 4000000 in
set_option maxRecDepth 100000 in
theorem cg_X2_readUnit (n d : Nat) (rec : (Nat → Nat → Int32 → pq_S → Option pq_S) × (Nat → Nat → Int32 → pq_S → Option pq_S) × (Nat → Nat → Int32 → pq_S → Option pq_S) × (Nat → Nat → Int32 → pq_S → Option pq_S) × (Nat → Nat → Int32 → pq_S → Option pq_S) × (Nat → Nat → Int32 → Int32 → pq_S → Option pq_S)) (hrec : HG_lawP n d rec) (l : Launch) (C : pq_C) (X : va_W) (S0 : pq_S) (hF : WF S0) (sz : Nat) (a0 : Nat) (a1 : Nat) (x2 : Int32) (Ta0 : TY S0 a0 2) (Ta1 : TY S0 a1 10) (S1 : pq_S) (hm : g_X2_readUnit n rec a0 a1 x2 S0 = some S1) : MV l yX2_readUnit (.code yX2_readUnit cX2_readUnit 4 none :: pq_U) (rmg_lawP (d + 1)) C X S0 sz [.ref a0, .ref a1, .int x2] S1 0 0 := by
  refine Met.ofW (cc := cX2_readUnit) (maxL := 4) (ret := none) (by decide) rfl ?_
  intro p e s m args below meth c s₁ B hml hv
  obtain ⟨rfl, hv⟩ := hv
  have hsz := hv.1
  subst hsz
  have hw := pw_entry hF hv
  have hts := atoms_spec (ws := .code yX2_readUnit cX2_readUnit 4 none :: pq_U) B.pre
  have hU : ∀ w ∈ pq_U, w.before _ s = true := fun w h => hts w (List.mem_cons_of_mem _ h)
  have hx := B.exec
  have hb := B.bytes
  have hr := B.returns
  have hown : s.vm.findClass RX2 = some m.cls := findClass_of_methodNamed B.named
  have hlk := B.notSynchronized
  have hl := lv_entry ([.ref a0, .ref a1, .int x2]) (n := 4) (Nat.le_of_ble_eq_true rfl)
  rw [lg_entry_eq]
  generalize (lg_sl ([.ref a0, .ref a1, .int x2]) ++ List.replicate (4 - (lg_sl ([.ref a0, .ref a1, .int x2])).length) Slot.unset).toArray = ls at hl ⊢
  have hl : lv_has ls 4 [(0, .ref a0), (1, .ref a1), (2, .int x2)] := hl
  have hE : Ext S0 S0 := Ext.rf _
  have cx : Cx p s m _ meth c cX2_readUnit 4 RX2 none := ⟨hx, hb, hml, hown, hU, hr, hlk⟩
  rw [g_X2_readUnit] at hm
  refine lv_aload_n hx hb dX2_readUnit_0 rfl (lv_at hl 1 rfl) ?_
  obtain ⟨r3, S_1, hq2, hm⟩ := cb_some hm
  refine pw_ci (va_runVN (As := []) (rest := []) ⟨hx, hb, hml, hown, hU⟩ (c_X10_next l C X n S0 hw.wf _ a1 (Ta1) r3 S_1 hq2) ⟨va_cnB (host := "WickNights") 0 hU (pq_g1 tc_X10_next) rfl rfl rfl (hw.nw 113 rfl) (hU _ tw2) cd_X10_next.2 ⟨Nat.le_trans (Nat.le_of_ble_eq_true rfl) (Nat.le_add_right _ _), Nat.le_trans (Nat.le_of_ble_eq_true rfl) (Nat.le_add_right _ _)⟩, hU _ tw572, hU _ ts12⟩ (pw_preV hw Ta1 (by decide) rfl) rfl rfl hl.1 rfl (lv_room (Nat.le_of_ble_eq_true rfl)) dX2_readUnit_1 ⟨Nat.zero_le _, Nat.zero_le _⟩) hw (fun H locs hw hx4 => ?_)
  have Ta0 : TY S_1 a0 2 := ty_ext hx4 Ta0
  have Ta1 : TY S_1 a1 10 := ty_ext hx4 Ta1
  have hE : Ext S0 S_1 := Ext.tr hE hx4
  refine lv_istore_n (lv' := [(3, .int r3), (0, .ref a0), (1, .ref a1), (2, .int x2)]) hx hb dX2_readUnit_4 rfl hl (by decide) rfl (fun ls hl => ?_)
  refine lv_iload_n hx hb dX2_readUnit_5 rfl (lv_at hl 0 rfl) ?_
  refine lv_bipush (v := 48) hx hb dX2_readUnit_6 (by decide) ?_
  refine lv_bipush (v := 57) hx hb dX2_readUnit_8 (by decide) ?_
  obtain ⟨r7, S_5, hq6, hm⟩ := cb_some hm
  refine pw_cz (va_runSN (As := [.int r3, .int 48, .int 57]) (rest := []) ⟨hx, hb, hml, hown, hU⟩ (c_X11_isWithin l C X n S_1 hw.wf _ r3 48 57  r7 S_5 hq6) ⟨va_cnB (host := "WickNights") 3 hU (pq_g1 tc_X11_isWithin) rfl rfl rfl (hw.nw 114 rfl) (hU _ tw1) cd_X11_isWithin.2 ⟨Nat.le_trans (Nat.le_of_ble_eq_true rfl) (Nat.le_add_right _ _), Nat.le_trans (Nat.le_of_ble_eq_true rfl) (Nat.le_add_right _ _)⟩, hU _ tw454, trivial⟩ (pw_preS hw) rfl rfl hl.1 rfl (lv_room (Nat.le_of_ble_eq_true rfl)) dX2_readUnit_10 ⟨Nat.zero_le _, Nat.zero_le _⟩) hw (fun H locs hw hx8 hz9 => ?_)
  have Ta0 : TY S_5 a0 2 := ty_ext hx8 Ta0
  have Ta1 : TY S_5 a1 10 := ty_ext hx8 Ta1
  have hE : Ext S0 S_5 := Ext.tr hE hx8
  refine lv_if_eq (tgt := 31) hx hb dX2_readUnit_13 (by decide) (fun h10 => ?_) (fun h10 => ?_)
  · rw [if_pos h10] at hm
    refine lv_iload_n hx hb dX2_readUnit_31 rfl (lv_at hl 0 rfl) ?_
    refine lv_bipush (v := 97) hx hb dX2_readUnit_32 (by decide) ?_
    refine lv_bipush (v := 122) hx hb dX2_readUnit_34 (by decide) ?_
    obtain ⟨r13, S_11, hq12, hm⟩ := cb_some hm
    refine pw_cz (va_runSN (As := [.int r3, .int 97, .int 122]) (rest := []) ⟨hx, hb, hml, hown, hU⟩ (c_X11_isWithin l C X n S_5 hw.wf _ r3 97 122  r13 S_11 hq12) ⟨va_cnB (host := "WickNights") 3 hU (pq_g1 tc_X11_isWithin) rfl rfl rfl (hw.nw 114 rfl) (hU _ tw1) cd_X11_isWithin.2 ⟨Nat.le_trans (Nat.le_of_ble_eq_true rfl) (Nat.le_add_right _ _), Nat.le_trans (Nat.le_of_ble_eq_true rfl) (Nat.le_add_right _ _)⟩, hU _ tw454, trivial⟩ (pw_preS hw) rfl rfl hl.1 rfl (lv_room (Nat.le_of_ble_eq_true rfl)) dX2_readUnit_36 ⟨Nat.zero_le _, Nat.zero_le _⟩) hw (fun H locs hw hx14 hz15 => ?_)
    have Ta0 : TY S_11 a0 2 := ty_ext hx14 Ta0
    have Ta1 : TY S_11 a1 10 := ty_ext hx14 Ta1
    have hE : Ext S0 S_11 := Ext.tr hE hx14
    refine lv_if_eq (tgt := 51) hx hb dX2_readUnit_39 (by decide) (fun h16 => ?_) (fun h16 => ?_)
    · rw [if_pos h16] at hm
      refine lv_iload_n hx hb dX2_readUnit_51 rfl (lv_at hl 0 rfl) ?_
      refine lv_bipush (v := 40) hx hb dX2_readUnit_52 (by decide) ?_
      refine lv_icmp_ne (tgt := 66) hx hb dX2_readUnit_54 (by decide) (fun h17 => ?_) (fun h17 => ?_)
      · rw [if_neg h17] at hm
        refine lv_aload_n hx hb dX2_readUnit_66 rfl (lv_at hl 2 rfl) ?_
        refine lv_iconst (v := 1) hx hb dX2_readUnit_67 (by decide) ?_
        refine lv_aload_n hx hb dX2_readUnit_68 rfl (lv_at hl 2 rfl) ?_
        refine pgN_i (k := 10) (j := 3) (f := 1003) hx hb hown hU iu10 hw Ta1 (by decide) rfl 2 rfl rfl dX2_readUnit_69 ?_
        obtain ⟨S_18, hq19, hm⟩ := bd_some hm
        refine pw_cv (va_runVN (As := [.int 1, .int (pI S_11 1003 a1)]) (rest := []) ⟨hx, hb, hml, hown, hU⟩ (c_X10_refuse l C X n S_11 hw.wf _ a1 1 (pI S_11 1003 a1) (Ta1) S_18 hq19) ⟨va_cnB (host := "WickNights") 2 hU (pq_g1 tc_X10_refuse) rfl rfl rfl (hw.nw 118 rfl) (hU _ tw2) cd_X10_refuse.2 ⟨Nat.le_trans (Nat.le_of_ble_eq_true rfl) (Nat.le_add_right _ _), Nat.le_trans (Nat.le_of_ble_eq_true rfl) (Nat.le_add_right _ _)⟩, hU _ tw586, hU _ ts15⟩ (pw_preV hw Ta1 (by decide) rfl) rfl rfl hl.1 rfl (lv_room (Nat.le_of_ble_eq_true rfl)) dX2_readUnit_72 ⟨Nat.zero_le _, Nat.zero_le _⟩) hw (fun H locs hw hx20 => ?_)
        have Ta0 : TY S_18 a0 2 := ty_ext hx20 Ta0
        have Ta1 : TY S_18 a1 10 := ty_ext hx20 Ta1
        have hE : Ext S0 S_18 := Ext.tr hE hx20
        cases hm
        exact pw_vret hx hb hr hlk hw hE dX2_readUnit_75
      · rw [if_pos h17] at hm
        refine lv_aload_n hx hb dX2_readUnit_57 rfl (lv_at hl 1 rfl) ?_
        refine lv_aload_n hx hb dX2_readUnit_58 rfl (lv_at hl 2 rfl) ?_
        refine lv_iload_n hx hb dX2_readUnit_59 rfl (lv_at hl 3 rfl) ?_
        obtain ⟨S_21, hq22, hm⟩ := bd_some hm
        refine pw_cv (va_runV (As := [.ref a1, .int x2]) (rest := []) ⟨hx, hb, hml, hown, hU⟩ (hrec.2.2.2.1 l C X S_11 hw.wf _ a0 a1 x2 (Ta0) (Ta1) S_21 hq22) (cwV 2 hU (pq_gV tw784 tw786 ts42 tw7 tc_X2_readBracket) rfl rfl rfl cd_X2_readBracket ⟨Nat.le_refl _, rmg_lawP_l d (by decide)⟩) (pw_preV hw Ta0 (by decide) rfl) rfl rfl hl.1 rfl (lv_room (Nat.le_of_ble_eq_true rfl)) dX2_readUnit_60 ⟨Nat.zero_le _, Nat.zero_le _⟩) hw (fun H locs hw hx23 => ?_)
        have Ta0 : TY S_21 a0 2 := ty_ext hx23 Ta0
        have Ta1 : TY S_21 a1 10 := ty_ext hx23 Ta1
        have hE : Ext S0 S_21 := Ext.tr hE hx23
        refine lv_goto (tgt := 75) hx hb dX2_readUnit_63 (by decide) ?_
        cases hm
        exact pw_vret hx hb hr hlk hw hE dX2_readUnit_75
    · rw [if_neg h16] at hm
      refine lv_aload_n hx hb dX2_readUnit_42 rfl (lv_at hl 1 rfl) ?_
      refine lv_aload_n hx hb dX2_readUnit_43 rfl (lv_at hl 2 rfl) ?_
      refine lv_iload_n hx hb dX2_readUnit_44 rfl (lv_at hl 3 rfl) ?_
      obtain ⟨S_24, hq25, hm⟩ := bd_some hm
      refine pw_cv (va_runV (As := [.ref a1, .int x2]) (rest := []) ⟨hx, hb, hml, hown, hU⟩ (hrec.2.2.2.2.1 l C X S_11 hw.wf _ a0 a1 x2 (Ta0) (Ta1) S_24 hq25) (cwV 2 hU (pq_gV tw760 tw762 ts40 tw7 tc_X2_readWord) rfl rfl rfl cd_X2_readWord ⟨Nat.le_refl _, rmg_lawP_l d (by decide)⟩) (pw_preV hw Ta0 (by decide) rfl) rfl rfl hl.1 rfl (lv_room (Nat.le_of_ble_eq_true rfl)) dX2_readUnit_45 ⟨Nat.zero_le _, Nat.zero_le _⟩) hw (fun H locs hw hx26 => ?_)
      have Ta0 : TY S_24 a0 2 := ty_ext hx26 Ta0
      have Ta1 : TY S_24 a1 10 := ty_ext hx26 Ta1
      have hE : Ext S0 S_24 := Ext.tr hE hx26
      refine lv_goto (tgt := 75) hx hb dX2_readUnit_48 (by decide) ?_
      cases hm
      exact pw_vret hx hb hr hlk hw hE dX2_readUnit_75
  · rw [if_neg h10] at hm
    refine lv_aload_n hx hb dX2_readUnit_16 rfl (lv_at hl 1 rfl) ?_
    refine lv_aload_n hx hb dX2_readUnit_17 rfl (lv_at hl 2 rfl) ?_
    refine lv_iconst (v := 0) hx hb dX2_readUnit_18 (by decide) ?_
    refine lv_sipush (v := 999) hx hb dX2_readUnit_19 (by decide) ?_
    obtain ⟨r29, S_27, hq28, hm⟩ := cb_some hm
    refine pw_ci (va_runVN (As := [.int 0, .int 999]) (rest := [.ref a0]) ⟨hx, hb, hml, hown, hU⟩ (c_X10_takeNumber l C X n S_5 hw.wf _ a1 0 999 (Ta1) r29 S_27 hq28) ⟨va_cnB (host := "WickNights") 2 hU (pq_g1 tc_X10_takeNumber) rfl rfl rfl (hw.nw 115 rfl) (hU _ tw2) cd_X10_takeNumber.2 ⟨Nat.le_trans (Nat.le_of_ble_eq_true rfl) (Nat.le_add_right _ _), Nat.le_trans (Nat.le_of_ble_eq_true rfl) (Nat.le_add_right _ _)⟩, hU _ tw668, hU _ ts22⟩ (pw_preV hw Ta1 (by decide) rfl) rfl rfl hl.1 rfl (lv_room (Nat.le_of_ble_eq_true rfl)) dX2_readUnit_22 ⟨Nat.zero_le _, Nat.zero_le _⟩) hw (fun H locs hw hx30 => ?_)
    have Ta0 : TY S_27 a0 2 := ty_ext hx30 Ta0
    have Ta1 : TY S_27 a1 10 := ty_ext hx30 Ta1
    have hE : Ext S0 S_27 := Ext.tr hE hx30
    obtain ⟨S_31, hq32, hm⟩ := bd_some hm
    refine pw_cv (va_runV (As := [.int r29]) (rest := []) ⟨hx, hb, hml, hown, hU⟩ (c_X2_append l C X n S_27 hw.wf _ a0 r29 (Ta0) S_31 hq32) (cwV 1 hU (pq_gV tw756 tw758 ts39 tw7 tc_X2_append) rfl rfl rfl cd_X2_append ⟨Nat.le_trans (Nat.le_of_ble_eq_true rfl) (Nat.le_add_right _ _), Nat.le_trans (Nat.le_of_ble_eq_true rfl) (Nat.le_add_right _ _)⟩) (pw_preV hw Ta0 (by decide) rfl) rfl rfl hl.1 rfl (lv_room (Nat.le_of_ble_eq_true rfl)) dX2_readUnit_25 ⟨Nat.zero_le _, Nat.zero_le _⟩) hw (fun H locs hw hx33 => ?_)
    have Ta0 : TY S_31 a0 2 := ty_ext hx33 Ta0
    have Ta1 : TY S_31 a1 10 := ty_ext hx33 Ta1
    have hE : Ext S0 S_31 := Ext.tr hE hx33
    refine lv_goto (tgt := 75) hx hb dX2_readUnit_28 (by decide) ?_
    cases hm
    exact pw_vret hx hb hr hlk hw hE dX2_readUnit_75
def g_X2_readBracket (n : Nat) (rec : (Nat → Nat → Int32 → pq_S → Option pq_S) × (Nat → Nat → Int32 → pq_S → Option pq_S) × (Nat → Nat → Int32 → pq_S → Option pq_S) × (Nat → Nat → Int32 → pq_S → Option pq_S) × (Nat → Nat → Int32 → pq_S → Option pq_S) × (Nat → Nat → Int32 → Int32 → pq_S → Option pq_S)) (a0 : Nat) (a1 : Nat) (x2 : Int32) (S0 : pq_S) : Option pq_S := if x2 < 6 then Option.bind (m_X10_takeSign n a1 40 S0) fun S_2 => Option.bind (rec.1 a0 a1 (x2 + (1 : Int32)) S_2) fun S_5 => Option.bind (m_X10_takeSign n a1 41 S_5) fun S_8 => some S_8 else Option.bind (m_X10_refuse n a1 3 (pI S0 1003 a1) S0) fun S_11 => some S_11
set_option maxHeartbeats 4000000 in
set_option maxRecDepth 100000 in
theorem cg_X2_readBracket (n d : Nat) (rec : (Nat → Nat → Int32 → pq_S → Option pq_S) × (Nat → Nat → Int32 → pq_S → Option pq_S) × (Nat → Nat → Int32 → pq_S → Option pq_S) × (Nat → Nat → Int32 → pq_S → Option pq_S) × (Nat → Nat → Int32 → pq_S → Option pq_S) × (Nat → Nat → Int32 → Int32 → pq_S → Option pq_S)) (hrec : HG_lawP n d rec) (l : Launch) (C : pq_C) (X : va_W) (S0 : pq_S) (hF : WF S0) (sz : Nat) (a0 : Nat) (a1 : Nat) (x2 : Int32) (Ta0 : TY S0 a0 2) (Ta1 : TY S0 a1 10) (S1 : pq_S) (hm : g_X2_readBracket n rec a0 a1 x2 S0 = some S1) : MV l yX2_readBracket (.code yX2_readBracket cX2_readBracket 3 none :: pq_U) (rmg_lawP (d + 1)) C X S0 sz [.ref a0, .ref a1, .int x2] S1 0 0 := by
  refine Met.ofW (cc := cX2_readBracket) (maxL := 3) (ret := none) (by decide) rfl ?_
  intro p e s m args below meth c s₁ B hml hv
  obtain ⟨rfl, hv⟩ := hv
  have hsz := hv.1
  subst hsz
  have hw := pw_entry hF hv
  have hts := atoms_spec (ws := .code yX2_readBracket cX2_readBracket 3 none :: pq_U) B.pre
  have hU : ∀ w ∈ pq_U, w.before _ s = true := fun w h => hts w (List.mem_cons_of_mem _ h)
  have hx := B.exec
  have hb := B.bytes
  have hr := B.returns
  have hown : s.vm.findClass RX2 = some m.cls := findClass_of_methodNamed B.named
  have hlk := B.notSynchronized
  have hl := lv_entry ([.ref a0, .ref a1, .int x2]) (n := 3) (Nat.le_of_ble_eq_true rfl)
  rw [lg_entry_eq]
  generalize (lg_sl ([.ref a0, .ref a1, .int x2]) ++ List.replicate (3 - (lg_sl ([.ref a0, .ref a1, .int x2])).length) Slot.unset).toArray = ls at hl ⊢
  have hl : lv_has ls 3 [(0, .ref a0), (1, .ref a1), (2, .int x2)] := hl
  have hE : Ext S0 S0 := Ext.rf _
  have cx : Cx p s m _ meth c cX2_readBracket 3 RX2 none := ⟨hx, hb, hml, hown, hU, hr, hlk⟩
  rw [g_X2_readBracket] at hm
  refine lv_iload_n hx hb dX2_readBracket_0 rfl (lv_at hl 2 rfl) ?_
  refine lv_bipush (v := 6) hx hb dX2_readBracket_1 (by decide) ?_
  refine lv_icmp_lt (tgt := 16) hx hb dX2_readBracket_3 (by decide) (fun h1 => ?_) (fun h1 => ?_)
  · rw [if_pos h1] at hm
    refine lv_aload_n hx hb dX2_readBracket_16 rfl (lv_at hl 1 rfl) ?_
    refine lv_bipush (v := 40) hx hb dX2_readBracket_17 (by decide) ?_
    obtain ⟨S_2, hq3, hm⟩ := bd_some hm
    refine pw_cv (va_runVN (As := [.int 40]) (rest := []) ⟨hx, hb, hml, hown, hU⟩ (c_X10_takeSign l C X n S0 hw.wf _ a1 40 (Ta1) S_2 hq3) ⟨va_cnB (host := "WickNights") 1 hU (pq_g1 tc_X10_takeSign) rfl rfl rfl (hw.nw 119 rfl) (hU _ tw2) cd_X10_takeSign.2 ⟨Nat.le_trans (Nat.le_of_ble_eq_true rfl) (Nat.le_add_right _ _), Nat.le_trans (Nat.le_of_ble_eq_true rfl) (Nat.le_add_right _ _)⟩, hU _ tw697, hU _ ts27⟩ (pw_preV hw Ta1 (by decide) rfl) rfl rfl hl.1 rfl (lv_room (Nat.le_of_ble_eq_true rfl)) dX2_readBracket_19 ⟨Nat.zero_le _, Nat.zero_le _⟩) hw (fun H locs hw hx4 => ?_)
    have Ta0 : TY S_2 a0 2 := ty_ext hx4 Ta0
    have Ta1 : TY S_2 a1 10 := ty_ext hx4 Ta1
    have hE : Ext S0 S_2 := Ext.tr hE hx4
    refine lv_aload_n hx hb dX2_readBracket_22 rfl (lv_at hl 0 rfl) ?_
    refine lv_aload_n hx hb dX2_readBracket_23 rfl (lv_at hl 1 rfl) ?_
    refine lv_iload_n hx hb dX2_readBracket_24 rfl (lv_at hl 2 rfl) ?_
    refine lv_iconst (v := 1) hx hb dX2_readBracket_25 (by decide) ?_
    refine lv_iadd hx hb dX2_readBracket_26 ?_
    obtain ⟨S_5, hq6, hm⟩ := bd_some hm
    refine pw_cv (va_runV (As := [.ref a1, .int (x2 + (1 : Int32))]) (rest := []) ⟨hx, hb, hml, hown, hU⟩ (hrec.1 l C X S_2 hw.wf _ a0 a1 (x2 + (1 : Int32)) (Ta0) (Ta1) S_5 hq6) (cwV 2 hU (pq_gV tw741 tw743 ts36 tw7 tc_X2_readSum) rfl rfl rfl cd_X2_readSum ⟨Nat.le_refl _, rmg_lawP_l d (by decide)⟩) (pw_preV hw Ta0 (by decide) rfl) rfl rfl hl.1 rfl (lv_room (Nat.le_of_ble_eq_true rfl)) dX2_readBracket_27 ⟨Nat.zero_le _, Nat.zero_le _⟩) hw (fun H locs hw hx7 => ?_)
    have Ta0 : TY S_5 a0 2 := ty_ext hx7 Ta0
    have Ta1 : TY S_5 a1 10 := ty_ext hx7 Ta1
    have hE : Ext S0 S_5 := Ext.tr hE hx7
    refine lv_aload_n hx hb dX2_readBracket_30 rfl (lv_at hl 1 rfl) ?_
    refine lv_bipush (v := 41) hx hb dX2_readBracket_31 (by decide) ?_
    obtain ⟨S_8, hq9, hm⟩ := bd_some hm
    refine pw_cv (va_runVN (As := [.int 41]) (rest := []) ⟨hx, hb, hml, hown, hU⟩ (c_X10_takeSign l C X n S_5 hw.wf _ a1 41 (Ta1) S_8 hq9) ⟨va_cnB (host := "WickNights") 1 hU (pq_g1 tc_X10_takeSign) rfl rfl rfl (hw.nw 119 rfl) (hU _ tw2) cd_X10_takeSign.2 ⟨Nat.le_trans (Nat.le_of_ble_eq_true rfl) (Nat.le_add_right _ _), Nat.le_trans (Nat.le_of_ble_eq_true rfl) (Nat.le_add_right _ _)⟩, hU _ tw697, hU _ ts27⟩ (pw_preV hw Ta1 (by decide) rfl) rfl rfl hl.1 rfl (lv_room (Nat.le_of_ble_eq_true rfl)) dX2_readBracket_33 ⟨Nat.zero_le _, Nat.zero_le _⟩) hw (fun H locs hw hx10 => ?_)
    have Ta0 : TY S_8 a0 2 := ty_ext hx10 Ta0
    have Ta1 : TY S_8 a1 10 := ty_ext hx10 Ta1
    have hE : Ext S0 S_8 := Ext.tr hE hx10
    cases hm
    exact pw_vret hx hb hr hlk hw hE dX2_readBracket_36
  · rw [if_neg h1] at hm
    refine lv_aload_n hx hb dX2_readBracket_6 rfl (lv_at hl 1 rfl) ?_
    refine lv_iconst (v := 3) hx hb dX2_readBracket_7 (by decide) ?_
    refine lv_aload_n hx hb dX2_readBracket_8 rfl (lv_at hl 1 rfl) ?_
    refine pgN_i (k := 10) (j := 3) (f := 1003) hx hb hown hU iu10 hw Ta1 (by decide) rfl 2 rfl rfl dX2_readBracket_9 ?_
    obtain ⟨S_11, hq12, hm⟩ := bd_some hm
    refine pw_cv (va_runVN (As := [.int 3, .int (pI S0 1003 a1)]) (rest := []) ⟨hx, hb, hml, hown, hU⟩ (c_X10_refuse l C X n S0 hw.wf _ a1 3 (pI S0 1003 a1) (Ta1) S_11 hq12) ⟨va_cnB (host := "WickNights") 2 hU (pq_g1 tc_X10_refuse) rfl rfl rfl (hw.nw 118 rfl) (hU _ tw2) cd_X10_refuse.2 ⟨Nat.le_trans (Nat.le_of_ble_eq_true rfl) (Nat.le_add_right _ _), Nat.le_trans (Nat.le_of_ble_eq_true rfl) (Nat.le_add_right _ _)⟩, hU _ tw586, hU _ ts15⟩ (pw_preV hw Ta1 (by decide) rfl) rfl rfl hl.1 rfl (lv_room (Nat.le_of_ble_eq_true rfl)) dX2_readBracket_12 ⟨Nat.zero_le _, Nat.zero_le _⟩) hw (fun H locs hw hx13 => ?_)
    have Ta0 : TY S_11 a0 2 := ty_ext hx13 Ta0
    have Ta1 : TY S_11 a1 10 := ty_ext hx13 Ta1
    have hE : Ext S0 S_11 := Ext.tr hE hx13
    cases hm
    exact pw_vret hx hb hr hlk hw hE dX2_readBracket_15
def b_X2_readWord_65 (n : Nat) (rec : (Nat → Nat → Int32 → pq_S → Option pq_S) × (Nat → Nat → Int32 → pq_S → Option pq_S) × (Nat → Nat → Int32 → pq_S → Option pq_S) × (Nat → Nat → Int32 → pq_S → Option pq_S) × (Nat → Nat → Int32 → pq_S → Option pq_S) × (Nat → Nat → Int32 → Int32 → pq_S → Option pq_S)) (a0 : Nat) (x3 : Int32) (S : pq_S) : Option pq_S := Option.bind (m_X2_append n a0 ((1000 : Int32) + x3) S) fun S_30 => some S_30
set_option maxHeartbeats 4000000 in
set_option maxRecDepth 100000 in
theorem wb_X2_readWord_65 {p : Program} {l : Launch} {e : Env} {s : State} {m : MethodId} {args : Array Value} {below : List Frame} {meth : Method} {c : Code} (cx : Cx p s m args meth c cX2_readWord 4 RX2 none) (C : pq_C) (X : va_W) (S0 : pq_S) (n : Nat) (d : Nat) (rec : (Nat → Nat → Int32 → pq_S → Option pq_S) × (Nat → Nat → Int32 → pq_S → Option pq_S) × (Nat → Nat → Int32 → pq_S → Option pq_S) × (Nat → Nat → Int32 → pq_S → Option pq_S) × (Nat → Nat → Int32 → pq_S → Option pq_S) × (Nat → Nat → Int32 → Int32 → pq_S → Option pq_S)) (hrec : HG_lawP n d rec) (S1 : pq_S) : ∀ (a0 : Nat) (x3 : Int32) (S : pq_S) (H : Heap) (locs : List Loc) (ls : Array Slot), PW C X S (pq_F C X S0 s.heap.size) H locs s → Ext S0 S → TY S a0 2 → lv_has ls 4 [(0, .ref a0), (3, .int x3)] → b_X2_readWord_65 n rec a0 x3 S = some S1 → W p l e (rmg_lawP (d + 1)) s m args below meth c H locs 0 0 (MQ below (QcV C X S0 s.heap.size S1) args s 0 0 (pq_F C X S0 s.heap.size)) (F0 m 65 ls []) := by
  obtain ⟨hx, hb, hml, hown, hU, hr, hlk⟩ := id cx
  intro a0 x3 S H locs ls hw hE Ta0 hl hm
  rw [b_X2_readWord_65] at hm
  refine lv_aload_n hx hb dX2_readWord_65 rfl (lv_at hl 0 rfl) ?_
  refine lv_sipush (v := 1000) hx hb dX2_readWord_66 (by decide) ?_
  refine lv_iload_n hx hb dX2_readWord_69 rfl (lv_at hl 1 rfl) ?_
  refine lv_iadd hx hb dX2_readWord_70 ?_
  obtain ⟨S_30, hq31, hm⟩ := bd_some hm
  refine pw_cv (va_runV (As := [.int ((1000 : Int32) + x3)]) (rest := []) ⟨hx, hb, hml, hown, hU⟩ (c_X2_append l C X n S hw.wf _ a0 ((1000 : Int32) + x3) (Ta0) S_30 hq31) (cwV 1 hU (pq_gV tw756 tw758 ts39 tw7 tc_X2_append) rfl rfl rfl cd_X2_append ⟨Nat.le_trans (Nat.le_of_ble_eq_true rfl) (Nat.le_add_right _ _), Nat.le_trans (Nat.le_of_ble_eq_true rfl) (Nat.le_add_right _ _)⟩) (pw_preV hw Ta0 (by decide) rfl) rfl rfl hl.1 rfl (lv_room (Nat.le_of_ble_eq_true rfl)) dX2_readWord_71 ⟨Nat.zero_le _, Nat.zero_le _⟩) hw (fun H locs hw hx32 => ?_)
  have Ta0 : TY S_30 a0 2 := ty_ext hx32 Ta0
  have hE : Ext S0 S_30 := Ext.tr hE hx32
  cases hm
  exact pw_vret hx hb hr hlk hw hE dX2_readWord_74
def g_X2_readWord (n : Nat) (rec : (Nat → Nat → Int32 → pq_S → Option pq_S) × (Nat → Nat → Int32 → pq_S → Option pq_S) × (Nat → Nat → Int32 → pq_S → Option pq_S) × (Nat → Nat → Int32 → pq_S → Option pq_S) × (Nat → Nat → Int32 → pq_S → Option pq_S) × (Nat → Nat → Int32 → Int32 → pq_S → Option pq_S)) (a0 : Nat) (a1 : Nat) (x2 : Int32) (S0 : pq_S) : Option pq_S := Option.bind (m_X10_takeWord n a1 S0) fun S_1 => cb (m_X10_isWord n a1 6 S_1) fun r6 S_4 => if r6 = 0 then cb (m_X10_isWord n a1 7 S_4) fun r12 S_10 => if r12 = 0 then cb (m_X2_inputNamed n a1 S_10) fun r18 S_16 => if r18 = (-1) then Option.bind (m_X10_refuse n a1 1 (pI S_16 1004 a1) S_16) fun S_21 => b_X2_readWord_65 n rec a0 r18 S_21 else b_X2_readWord_65 n rec a0 r18 S_16 else Option.bind (rec.2.2.2.2.2 a0 a1 x2 2005 S_10) fun S_24 => some S_24 else Option.bind (rec.2.2.2.2.2 a0 a1 x2 2004 S_4) fun S_27 => some S_27
set_option maxHeartbeats 4000000 in
set_option maxRecDepth 100000 in
theorem cg_X2_readWord (n d : Nat) (rec : (Nat → Nat → Int32 → pq_S → Option pq_S) × (Nat → Nat → Int32 → pq_S → Option pq_S) × (Nat → Nat → Int32 → pq_S → Option pq_S) × (Nat → Nat → Int32 → pq_S → Option pq_S) × (Nat → Nat → Int32 → pq_S → Option pq_S) × (Nat → Nat → Int32 → Int32 → pq_S → Option pq_S)) (hrec : HG_lawP n d rec) (l : Launch) (C : pq_C) (X : va_W) (S0 : pq_S) (hF : WF S0) (sz : Nat) (a0 : Nat) (a1 : Nat) (x2 : Int32) (Ta0 : TY S0 a0 2) (Ta1 : TY S0 a1 10) (S1 : pq_S) (hm : g_X2_readWord n rec a0 a1 x2 S0 = some S1) : MV l yX2_readWord (.code yX2_readWord cX2_readWord 4 none :: pq_U) (rmg_lawP (d + 1)) C X S0 sz [.ref a0, .ref a1, .int x2] S1 0 0 := by
  refine Met.ofW (cc := cX2_readWord) (maxL := 4) (ret := none) (by decide) rfl ?_
  intro p e s m args below meth c s₁ B hml hv
  obtain ⟨rfl, hv⟩ := hv
  have hsz := hv.1
  subst hsz
  have hw := pw_entry hF hv
  have hts := atoms_spec (ws := .code yX2_readWord cX2_readWord 4 none :: pq_U) B.pre
  have hU : ∀ w ∈ pq_U, w.before _ s = true := fun w h => hts w (List.mem_cons_of_mem _ h)
  have hx := B.exec
  have hb := B.bytes
  have hr := B.returns
  have hown : s.vm.findClass RX2 = some m.cls := findClass_of_methodNamed B.named
  have hlk := B.notSynchronized
  have hl := lv_entry ([.ref a0, .ref a1, .int x2]) (n := 4) (Nat.le_of_ble_eq_true rfl)
  rw [lg_entry_eq]
  generalize (lg_sl ([.ref a0, .ref a1, .int x2]) ++ List.replicate (4 - (lg_sl ([.ref a0, .ref a1, .int x2])).length) Slot.unset).toArray = ls at hl ⊢
  have hl : lv_has ls 4 [(0, .ref a0), (1, .ref a1), (2, .int x2)] := hl
  have hE : Ext S0 S0 := Ext.rf _
  have cx : Cx p s m _ meth c cX2_readWord 4 RX2 none := ⟨hx, hb, hml, hown, hU, hr, hlk⟩
  rw [g_X2_readWord] at hm
  refine lv_aload_n hx hb dX2_readWord_0 rfl (lv_at hl 1 rfl) ?_
  obtain ⟨S_1, hq2, hm⟩ := bd_some hm
  refine pw_cv (va_runVN (As := []) (rest := []) ⟨hx, hb, hml, hown, hU⟩ (c_X10_takeWord l C X n S0 hw.wf _ a1 (Ta1) S_1 hq2) ⟨va_cnB (host := "WickNights") 0 hU (pq_g1 tc_X10_takeWord) rfl rfl rfl (hw.nw 116 rfl) (hU _ tw2) cd_X10_takeWord.2 ⟨Nat.le_trans (Nat.le_of_ble_eq_true rfl) (Nat.le_add_right _ _), Nat.le_trans (Nat.le_of_ble_eq_true rfl) (Nat.le_add_right _ _)⟩, hU _ tw580, hU _ ts14⟩ (pw_preV hw Ta1 (by decide) rfl) rfl rfl hl.1 rfl (lv_room (Nat.le_of_ble_eq_true rfl)) dX2_readWord_1 ⟨Nat.zero_le _, Nat.zero_le _⟩) hw (fun H locs hw hx3 => ?_)
  have Ta0 : TY S_1 a0 2 := ty_ext hx3 Ta0
  have Ta1 : TY S_1 a1 10 := ty_ext hx3 Ta1
  have hE : Ext S0 S_1 := Ext.tr hE hx3
  refine lv_aload_n hx hb dX2_readWord_4 rfl (lv_at hl 1 rfl) ?_
  refine va_ldcS hx hb hown (hw.str 6 rfl) dX2_readWord_5 ?_
  obtain ⟨r6, S_4, hq5, hm⟩ := cb_some hm
  refine pw_cz (va_runVN (As := [.ref (C.2.2.2.2.2.2.1 6)]) (rest := []) ⟨hx, hb, hml, hown, hU⟩ (c_X10_isWord l C X n S_1 hw.wf _ a1 6 (Ta1) ((by decide)) r6 S_4 hq5) ⟨va_cnB (host := "WickNights") 1 hU (pq_g1 tc_X10_isWord) rfl rfl rfl (hw.nw 117 rfl) (hU _ tw2) cd_X10_isWord.2 ⟨Nat.le_trans (Nat.le_of_ble_eq_true rfl) (Nat.le_add_right _ _), Nat.le_trans (Nat.le_of_ble_eq_true rfl) (Nat.le_add_right _ _)⟩, hU _ tw599, hU _ ts18⟩ (pw_preV hw Ta1 (by decide) rfl) rfl rfl hl.1 rfl (lv_room (Nat.le_of_ble_eq_true rfl)) dX2_readWord_7 ⟨Nat.zero_le _, Nat.zero_le _⟩) hw (fun H locs hw hx7 hz8 => ?_)
  have Ta0 : TY S_4 a0 2 := ty_ext hx7 Ta0
  have Ta1 : TY S_4 a1 10 := ty_ext hx7 Ta1
  have hE : Ext S0 S_4 := Ext.tr hE hx7
  refine lv_if_eq (tgt := 25) hx hb dX2_readWord_10 (by decide) (fun h9 => ?_) (fun h9 => ?_)
  · rw [if_pos h9] at hm
    refine lv_aload_n hx hb dX2_readWord_25 rfl (lv_at hl 1 rfl) ?_
    refine va_ldcS hx hb hown (hw.str 7 rfl) dX2_readWord_26 ?_
    obtain ⟨r12, S_10, hq11, hm⟩ := cb_some hm
    refine pw_cz (va_runVN (As := [.ref (C.2.2.2.2.2.2.1 7)]) (rest := []) ⟨hx, hb, hml, hown, hU⟩ (c_X10_isWord l C X n S_4 hw.wf _ a1 7 (Ta1) ((by decide)) r12 S_10 hq11) ⟨va_cnB (host := "WickNights") 1 hU (pq_g1 tc_X10_isWord) rfl rfl rfl (hw.nw 117 rfl) (hU _ tw2) cd_X10_isWord.2 ⟨Nat.le_trans (Nat.le_of_ble_eq_true rfl) (Nat.le_add_right _ _), Nat.le_trans (Nat.le_of_ble_eq_true rfl) (Nat.le_add_right _ _)⟩, hU _ tw599, hU _ ts18⟩ (pw_preV hw Ta1 (by decide) rfl) rfl rfl hl.1 rfl (lv_room (Nat.le_of_ble_eq_true rfl)) dX2_readWord_28 ⟨Nat.zero_le _, Nat.zero_le _⟩) hw (fun H locs hw hx13 hz14 => ?_)
    have Ta0 : TY S_10 a0 2 := ty_ext hx13 Ta0
    have Ta1 : TY S_10 a1 10 := ty_ext hx13 Ta1
    have hE : Ext S0 S_10 := Ext.tr hE hx13
    refine lv_if_eq (tgt := 46) hx hb dX2_readWord_31 (by decide) (fun h15 => ?_) (fun h15 => ?_)
    · rw [if_pos h15] at hm
      refine lv_aload_n hx hb dX2_readWord_46 rfl (lv_at hl 1 rfl) ?_
      obtain ⟨r18, S_16, hq17, hm⟩ := cb_some hm
      refine pw_ci (va_runS (As := [.ref a1]) (rest := []) ⟨hx, hb, hml, hown, hU⟩ (c_X2_inputNamed l C X n S_10 hw.wf _ a1 (Ta1) r18 S_16 hq17) ⟨callB_of 1 hU (pq_g1 tc_X2_inputNamed) rfl rfl rfl (hU _ tw7) (hU _ tw774) cd_X2_inputNamed.2 ⟨Nat.le_trans (Nat.le_of_ble_eq_true rfl) (Nat.le_add_right _ _), Nat.le_trans (Nat.le_of_ble_eq_true rfl) (Nat.le_add_right _ _)⟩, hU _ tw775⟩ (pw_preS hw) rfl rfl hl.1 rfl (lv_room (Nat.le_of_ble_eq_true rfl)) dX2_readWord_47 ⟨Nat.zero_le _, Nat.zero_le _⟩) hw (fun H locs hw hx19 => ?_)
      have Ta0 : TY S_16 a0 2 := ty_ext hx19 Ta0
      have Ta1 : TY S_16 a1 10 := ty_ext hx19 Ta1
      have hE : Ext S0 S_16 := Ext.tr hE hx19
      refine lv_istore_n (lv' := [(3, .int r18), (0, .ref a0), (1, .ref a1), (2, .int x2)]) hx hb dX2_readWord_50 rfl hl (by decide) rfl (fun ls hl => ?_)
      refine lv_iload_n hx hb dX2_readWord_51 rfl (lv_at hl 0 rfl) ?_
      refine lv_iconst (v := (-1)) hx hb dX2_readWord_52 (by decide) ?_
      refine lv_icmp_ne (tgt := 65) hx hb dX2_readWord_53 (by decide) (fun h20 => ?_) (fun h20 => ?_)
      · rw [if_neg h20] at hm
        exact wb_X2_readWord_65 cx C X S0 n d rec hrec S1 a0 r18 S_16 _ _ _ hw hE Ta0 (lv_sub hl [1, 0] rfl) hm
      · rw [if_pos h20] at hm
        refine lv_aload_n hx hb dX2_readWord_56 rfl (lv_at hl 2 rfl) ?_
        refine lv_iconst (v := 1) hx hb dX2_readWord_57 (by decide) ?_
        refine lv_aload_n hx hb dX2_readWord_58 rfl (lv_at hl 2 rfl) ?_
        refine pgN_i (k := 10) (j := 4) (f := 1004) hx hb hown hU iu10 hw Ta1 (by decide) rfl 7 rfl rfl dX2_readWord_59 ?_
        obtain ⟨S_21, hq22, hm⟩ := bd_some hm
        refine pw_cv (va_runVN (As := [.int 1, .int (pI S_16 1004 a1)]) (rest := []) ⟨hx, hb, hml, hown, hU⟩ (c_X10_refuse l C X n S_16 hw.wf _ a1 1 (pI S_16 1004 a1) (Ta1) S_21 hq22) ⟨va_cnB (host := "WickNights") 2 hU (pq_g1 tc_X10_refuse) rfl rfl rfl (hw.nw 118 rfl) (hU _ tw2) cd_X10_refuse.2 ⟨Nat.le_trans (Nat.le_of_ble_eq_true rfl) (Nat.le_add_right _ _), Nat.le_trans (Nat.le_of_ble_eq_true rfl) (Nat.le_add_right _ _)⟩, hU _ tw586, hU _ ts15⟩ (pw_preV hw Ta1 (by decide) rfl) rfl rfl hl.1 rfl (lv_room (Nat.le_of_ble_eq_true rfl)) dX2_readWord_62 ⟨Nat.zero_le _, Nat.zero_le _⟩) hw (fun H locs hw hx23 => ?_)
        have Ta0 : TY S_21 a0 2 := ty_ext hx23 Ta0
        have Ta1 : TY S_21 a1 10 := ty_ext hx23 Ta1
        have hE : Ext S0 S_21 := Ext.tr hE hx23
        exact wb_X2_readWord_65 cx C X S0 n d rec hrec S1 a0 r18 S_21 _ _ _ hw hE Ta0 (lv_sub hl [1, 0] rfl) hm
    · rw [if_neg h15] at hm
      refine lv_aload_n hx hb dX2_readWord_34 rfl (lv_at hl 0 rfl) ?_
      refine lv_aload_n hx hb dX2_readWord_35 rfl (lv_at hl 1 rfl) ?_
      refine lv_iload_n hx hb dX2_readWord_36 rfl (lv_at hl 2 rfl) ?_
      refine lv_sipush (v := 2005) hx hb dX2_readWord_37 (by decide) ?_
      obtain ⟨S_24, hq25, hm⟩ := bd_some hm
      refine pw_cv (va_runV (As := [.ref a1, .int x2, .int 2005]) (rest := []) ⟨hx, hb, hml, hown, hU⟩ (hrec.2.2.2.2.2 l C X S_10 hw.wf _ a0 a1 x2 2005 (Ta0) (Ta1) S_24 hq25) (cwV 3 hU (pq_gV tw767 tw769 ts41 tw7 tc_X2_readPair) rfl rfl rfl cd_X2_readPair ⟨Nat.le_refl _, rmg_lawP_l d (by decide)⟩) (pw_preV hw Ta0 (by decide) rfl) rfl rfl hl.1 rfl (lv_room (Nat.le_of_ble_eq_true rfl)) dX2_readWord_40 ⟨Nat.zero_le _, Nat.zero_le _⟩) hw (fun H locs hw hx26 => ?_)
      have Ta0 : TY S_24 a0 2 := ty_ext hx26 Ta0
      have Ta1 : TY S_24 a1 10 := ty_ext hx26 Ta1
      have hE : Ext S0 S_24 := Ext.tr hE hx26
      refine lv_goto (tgt := 74) hx hb dX2_readWord_43 (by decide) ?_
      cases hm
      exact pw_vret hx hb hr hlk hw hE dX2_readWord_74
  · rw [if_neg h9] at hm
    refine lv_aload_n hx hb dX2_readWord_13 rfl (lv_at hl 0 rfl) ?_
    refine lv_aload_n hx hb dX2_readWord_14 rfl (lv_at hl 1 rfl) ?_
    refine lv_iload_n hx hb dX2_readWord_15 rfl (lv_at hl 2 rfl) ?_
    refine lv_sipush (v := 2004) hx hb dX2_readWord_16 (by decide) ?_
    obtain ⟨S_27, hq28, hm⟩ := bd_some hm
    refine pw_cv (va_runV (As := [.ref a1, .int x2, .int 2004]) (rest := []) ⟨hx, hb, hml, hown, hU⟩ (hrec.2.2.2.2.2 l C X S_4 hw.wf _ a0 a1 x2 2004 (Ta0) (Ta1) S_27 hq28) (cwV 3 hU (pq_gV tw767 tw769 ts41 tw7 tc_X2_readPair) rfl rfl rfl cd_X2_readPair ⟨Nat.le_refl _, rmg_lawP_l d (by decide)⟩) (pw_preV hw Ta0 (by decide) rfl) rfl rfl hl.1 rfl (lv_room (Nat.le_of_ble_eq_true rfl)) dX2_readWord_19 ⟨Nat.zero_le _, Nat.zero_le _⟩) hw (fun H locs hw hx29 => ?_)
    have Ta0 : TY S_27 a0 2 := ty_ext hx29 Ta0
    have Ta1 : TY S_27 a1 10 := ty_ext hx29 Ta1
    have hE : Ext S0 S_27 := Ext.tr hE hx29
    refine lv_goto (tgt := 74) hx hb dX2_readWord_22 (by decide) ?_
    cases hm
    exact pw_vret hx hb hr hlk hw hE dX2_readWord_74
def g_X2_readPair (n : Nat) (rec : (Nat → Nat → Int32 → pq_S → Option pq_S) × (Nat → Nat → Int32 → pq_S → Option pq_S) × (Nat → Nat → Int32 → pq_S → Option pq_S) × (Nat → Nat → Int32 → pq_S → Option pq_S) × (Nat → Nat → Int32 → pq_S → Option pq_S) × (Nat → Nat → Int32 → Int32 → pq_S → Option pq_S)) (a0 : Nat) (a1 : Nat) (x2 : Int32) (x3 : Int32) (S0 : pq_S) : Option pq_S := if x2 < 6 then Option.bind (m_X10_takeSign n a1 91 S0) fun S_2 => Option.bind (rec.1 a0 a1 (x2 + (1 : Int32)) S_2) fun S_5 => Option.bind (m_X10_takeSign n a1 44 S_5) fun S_8 => Option.bind (rec.1 a0 a1 (x2 + (1 : Int32)) S_8) fun S_11 => Option.bind (m_X10_takeSign n a1 93 S_11) fun S_14 => Option.bind (m_X2_append n a0 x3 S_14) fun S_17 => some S_17 else Option.bind (m_X10_refuse n a1 3 (pI S0 1004 a1) S0) fun S_20 => some S_20
set_option maxHeartbeats 4000000 in
set_option maxRecDepth 100000 in
theorem cg_X2_readPair (n d : Nat) (rec : (Nat → Nat → Int32 → pq_S → Option pq_S) × (Nat → Nat → Int32 → pq_S → Option pq_S) × (Nat → Nat → Int32 → pq_S → Option pq_S) × (Nat → Nat → Int32 → pq_S → Option pq_S) × (Nat → Nat → Int32 → pq_S → Option pq_S) × (Nat → Nat → Int32 → Int32 → pq_S → Option pq_S)) (hrec : HG_lawP n d rec) (l : Launch) (C : pq_C) (X : va_W) (S0 : pq_S) (hF : WF S0) (sz : Nat) (a0 : Nat) (a1 : Nat) (x2 : Int32) (x3 : Int32) (Ta0 : TY S0 a0 2) (Ta1 : TY S0 a1 10) (S1 : pq_S) (hm : g_X2_readPair n rec a0 a1 x2 x3 S0 = some S1) : MV l yX2_readPair (.code yX2_readPair cX2_readPair 4 none :: pq_U) (rmg_lawP (d + 1)) C X S0 sz [.ref a0, .ref a1, .int x2, .int x3] S1 0 0 := by
  refine Met.ofW (cc := cX2_readPair) (maxL := 4) (ret := none) (by decide) rfl ?_
  intro p e s m args below meth c s₁ B hml hv
  obtain ⟨rfl, hv⟩ := hv
  have hsz := hv.1
  subst hsz
  have hw := pw_entry hF hv
  have hts := atoms_spec (ws := .code yX2_readPair cX2_readPair 4 none :: pq_U) B.pre
  have hU : ∀ w ∈ pq_U, w.before _ s = true := fun w h => hts w (List.mem_cons_of_mem _ h)
  have hx := B.exec
  have hb := B.bytes
  have hr := B.returns
  have hown : s.vm.findClass RX2 = some m.cls := findClass_of_methodNamed B.named
  have hlk := B.notSynchronized
  have hl := lv_entry ([.ref a0, .ref a1, .int x2, .int x3]) (n := 4) (Nat.le_of_ble_eq_true rfl)
  rw [lg_entry_eq]
  generalize (lg_sl ([.ref a0, .ref a1, .int x2, .int x3]) ++ List.replicate (4 - (lg_sl ([.ref a0, .ref a1, .int x2, .int x3])).length) Slot.unset).toArray = ls at hl ⊢
  have hl : lv_has ls 4 [(0, .ref a0), (1, .ref a1), (2, .int x2), (3, .int x3)] := hl
  have hE : Ext S0 S0 := Ext.rf _
  have cx : Cx p s m _ meth c cX2_readPair 4 RX2 none := ⟨hx, hb, hml, hown, hU, hr, hlk⟩
  rw [g_X2_readPair] at hm
  refine lv_iload_n hx hb dX2_readPair_0 rfl (lv_at hl 2 rfl) ?_
  refine lv_bipush (v := 6) hx hb dX2_readPair_1 (by decide) ?_
  refine lv_icmp_lt (tgt := 16) hx hb dX2_readPair_3 (by decide) (fun h1 => ?_) (fun h1 => ?_)
  · rw [if_pos h1] at hm
    refine lv_aload_n hx hb dX2_readPair_16 rfl (lv_at hl 1 rfl) ?_
    refine lv_bipush (v := 91) hx hb dX2_readPair_17 (by decide) ?_
    obtain ⟨S_2, hq3, hm⟩ := bd_some hm
    refine pw_cv (va_runVN (As := [.int 91]) (rest := []) ⟨hx, hb, hml, hown, hU⟩ (c_X10_takeSign l C X n S0 hw.wf _ a1 91 (Ta1) S_2 hq3) ⟨va_cnB (host := "WickNights") 1 hU (pq_g1 tc_X10_takeSign) rfl rfl rfl (hw.nw 119 rfl) (hU _ tw2) cd_X10_takeSign.2 ⟨Nat.le_trans (Nat.le_of_ble_eq_true rfl) (Nat.le_add_right _ _), Nat.le_trans (Nat.le_of_ble_eq_true rfl) (Nat.le_add_right _ _)⟩, hU _ tw697, hU _ ts27⟩ (pw_preV hw Ta1 (by decide) rfl) rfl rfl hl.1 rfl (lv_room (Nat.le_of_ble_eq_true rfl)) dX2_readPair_19 ⟨Nat.zero_le _, Nat.zero_le _⟩) hw (fun H locs hw hx4 => ?_)
    have Ta0 : TY S_2 a0 2 := ty_ext hx4 Ta0
    have Ta1 : TY S_2 a1 10 := ty_ext hx4 Ta1
    have hE : Ext S0 S_2 := Ext.tr hE hx4
    refine lv_aload_n hx hb dX2_readPair_22 rfl (lv_at hl 0 rfl) ?_
    refine lv_aload_n hx hb dX2_readPair_23 rfl (lv_at hl 1 rfl) ?_
    refine lv_iload_n hx hb dX2_readPair_24 rfl (lv_at hl 2 rfl) ?_
    refine lv_iconst (v := 1) hx hb dX2_readPair_25 (by decide) ?_
    refine lv_iadd hx hb dX2_readPair_26 ?_
    obtain ⟨S_5, hq6, hm⟩ := bd_some hm
    refine pw_cv (va_runV (As := [.ref a1, .int (x2 + (1 : Int32))]) (rest := []) ⟨hx, hb, hml, hown, hU⟩ (hrec.1 l C X S_2 hw.wf _ a0 a1 (x2 + (1 : Int32)) (Ta0) (Ta1) S_5 hq6) (cwV 2 hU (pq_gV tw741 tw743 ts36 tw7 tc_X2_readSum) rfl rfl rfl cd_X2_readSum ⟨Nat.le_refl _, rmg_lawP_l d (by decide)⟩) (pw_preV hw Ta0 (by decide) rfl) rfl rfl hl.1 rfl (lv_room (Nat.le_of_ble_eq_true rfl)) dX2_readPair_27 ⟨Nat.zero_le _, Nat.zero_le _⟩) hw (fun H locs hw hx7 => ?_)
    have Ta0 : TY S_5 a0 2 := ty_ext hx7 Ta0
    have Ta1 : TY S_5 a1 10 := ty_ext hx7 Ta1
    have hE : Ext S0 S_5 := Ext.tr hE hx7
    refine lv_aload_n hx hb dX2_readPair_30 rfl (lv_at hl 1 rfl) ?_
    refine lv_bipush (v := 44) hx hb dX2_readPair_31 (by decide) ?_
    obtain ⟨S_8, hq9, hm⟩ := bd_some hm
    refine pw_cv (va_runVN (As := [.int 44]) (rest := []) ⟨hx, hb, hml, hown, hU⟩ (c_X10_takeSign l C X n S_5 hw.wf _ a1 44 (Ta1) S_8 hq9) ⟨va_cnB (host := "WickNights") 1 hU (pq_g1 tc_X10_takeSign) rfl rfl rfl (hw.nw 119 rfl) (hU _ tw2) cd_X10_takeSign.2 ⟨Nat.le_trans (Nat.le_of_ble_eq_true rfl) (Nat.le_add_right _ _), Nat.le_trans (Nat.le_of_ble_eq_true rfl) (Nat.le_add_right _ _)⟩, hU _ tw697, hU _ ts27⟩ (pw_preV hw Ta1 (by decide) rfl) rfl rfl hl.1 rfl (lv_room (Nat.le_of_ble_eq_true rfl)) dX2_readPair_33 ⟨Nat.zero_le _, Nat.zero_le _⟩) hw (fun H locs hw hx10 => ?_)
    have Ta0 : TY S_8 a0 2 := ty_ext hx10 Ta0
    have Ta1 : TY S_8 a1 10 := ty_ext hx10 Ta1
    have hE : Ext S0 S_8 := Ext.tr hE hx10
    refine lv_aload_n hx hb dX2_readPair_36 rfl (lv_at hl 0 rfl) ?_
    refine lv_aload_n hx hb dX2_readPair_37 rfl (lv_at hl 1 rfl) ?_
    refine lv_iload_n hx hb dX2_readPair_38 rfl (lv_at hl 2 rfl) ?_
    refine lv_iconst (v := 1) hx hb dX2_readPair_39 (by decide) ?_
    refine lv_iadd hx hb dX2_readPair_40 ?_
    obtain ⟨S_11, hq12, hm⟩ := bd_some hm
    refine pw_cv (va_runV (As := [.ref a1, .int (x2 + (1 : Int32))]) (rest := []) ⟨hx, hb, hml, hown, hU⟩ (hrec.1 l C X S_8 hw.wf _ a0 a1 (x2 + (1 : Int32)) (Ta0) (Ta1) S_11 hq12) (cwV 2 hU (pq_gV tw741 tw743 ts36 tw7 tc_X2_readSum) rfl rfl rfl cd_X2_readSum ⟨Nat.le_refl _, rmg_lawP_l d (by decide)⟩) (pw_preV hw Ta0 (by decide) rfl) rfl rfl hl.1 rfl (lv_room (Nat.le_of_ble_eq_true rfl)) dX2_readPair_41 ⟨Nat.zero_le _, Nat.zero_le _⟩) hw (fun H locs hw hx13 => ?_)
    have Ta0 : TY S_11 a0 2 := ty_ext hx13 Ta0
    have Ta1 : TY S_11 a1 10 := ty_ext hx13 Ta1
    have hE : Ext S0 S_11 := Ext.tr hE hx13
    refine lv_aload_n hx hb dX2_readPair_44 rfl (lv_at hl 1 rfl) ?_
    refine lv_bipush (v := 93) hx hb dX2_readPair_45 (by decide) ?_
    obtain ⟨S_14, hq15, hm⟩ := bd_some hm
    refine pw_cv (va_runVN (As := [.int 93]) (rest := []) ⟨hx, hb, hml, hown, hU⟩ (c_X10_takeSign l C X n S_11 hw.wf _ a1 93 (Ta1) S_14 hq15) ⟨va_cnB (host := "WickNights") 1 hU (pq_g1 tc_X10_takeSign) rfl rfl rfl (hw.nw 119 rfl) (hU _ tw2) cd_X10_takeSign.2 ⟨Nat.le_trans (Nat.le_of_ble_eq_true rfl) (Nat.le_add_right _ _), Nat.le_trans (Nat.le_of_ble_eq_true rfl) (Nat.le_add_right _ _)⟩, hU _ tw697, hU _ ts27⟩ (pw_preV hw Ta1 (by decide) rfl) rfl rfl hl.1 rfl (lv_room (Nat.le_of_ble_eq_true rfl)) dX2_readPair_47 ⟨Nat.zero_le _, Nat.zero_le _⟩) hw (fun H locs hw hx16 => ?_)
    have Ta0 : TY S_14 a0 2 := ty_ext hx16 Ta0
    have Ta1 : TY S_14 a1 10 := ty_ext hx16 Ta1
    have hE : Ext S0 S_14 := Ext.tr hE hx16
    refine lv_aload_n hx hb dX2_readPair_50 rfl (lv_at hl 0 rfl) ?_
    refine lv_iload_n hx hb dX2_readPair_51 rfl (lv_at hl 3 rfl) ?_
    obtain ⟨S_17, hq18, hm⟩ := bd_some hm
    refine pw_cv (va_runV (As := [.int x3]) (rest := []) ⟨hx, hb, hml, hown, hU⟩ (c_X2_append l C X n S_14 hw.wf _ a0 x3 (Ta0) S_17 hq18) (cwV 1 hU (pq_gV tw756 tw758 ts39 tw7 tc_X2_append) rfl rfl rfl cd_X2_append ⟨Nat.le_trans (Nat.le_of_ble_eq_true rfl) (Nat.le_add_right _ _), Nat.le_trans (Nat.le_of_ble_eq_true rfl) (Nat.le_add_right _ _)⟩) (pw_preV hw Ta0 (by decide) rfl) rfl rfl hl.1 rfl (lv_room (Nat.le_of_ble_eq_true rfl)) dX2_readPair_52 ⟨Nat.zero_le _, Nat.zero_le _⟩) hw (fun H locs hw hx19 => ?_)
    have Ta0 : TY S_17 a0 2 := ty_ext hx19 Ta0
    have Ta1 : TY S_17 a1 10 := ty_ext hx19 Ta1
    have hE : Ext S0 S_17 := Ext.tr hE hx19
    cases hm
    exact pw_vret hx hb hr hlk hw hE dX2_readPair_55
  · rw [if_neg h1] at hm
    refine lv_aload_n hx hb dX2_readPair_6 rfl (lv_at hl 1 rfl) ?_
    refine lv_iconst (v := 3) hx hb dX2_readPair_7 (by decide) ?_
    refine lv_aload_n hx hb dX2_readPair_8 rfl (lv_at hl 1 rfl) ?_
    refine pgN_i (k := 10) (j := 4) (f := 1004) hx hb hown hU iu10 hw Ta1 (by decide) rfl 7 rfl rfl dX2_readPair_9 ?_
    obtain ⟨S_20, hq21, hm⟩ := bd_some hm
    refine pw_cv (va_runVN (As := [.int 3, .int (pI S0 1004 a1)]) (rest := []) ⟨hx, hb, hml, hown, hU⟩ (c_X10_refuse l C X n S0 hw.wf _ a1 3 (pI S0 1004 a1) (Ta1) S_20 hq21) ⟨va_cnB (host := "WickNights") 2 hU (pq_g1 tc_X10_refuse) rfl rfl rfl (hw.nw 118 rfl) (hU _ tw2) cd_X10_refuse.2 ⟨Nat.le_trans (Nat.le_of_ble_eq_true rfl) (Nat.le_add_right _ _), Nat.le_trans (Nat.le_of_ble_eq_true rfl) (Nat.le_add_right _ _)⟩, hU _ tw586, hU _ ts15⟩ (pw_preV hw Ta1 (by decide) rfl) rfl rfl hl.1 rfl (lv_room (Nat.le_of_ble_eq_true rfl)) dX2_readPair_12 ⟨Nat.zero_le _, Nat.zero_le _⟩) hw (fun H locs hw hx22 => ?_)
    have Ta0 : TY S_20 a0 2 := ty_ext hx22 Ta0
    have Ta1 : TY S_20 a1 10 := ty_ext hx22 Ta1
    have hE : Ext S0 S_20 := Ext.tr hE hx22
    cases hm
    exact pw_vret hx hb hr hlk hw hE dX2_readPair_15
def m_lawP_d (n : Nat) : Nat → (Nat → Nat → Int32 → pq_S → Option pq_S) × (Nat → Nat → Int32 → pq_S → Option pq_S) × (Nat → Nat → Int32 → pq_S → Option pq_S) × (Nat → Nat → Int32 → pq_S → Option pq_S) × (Nat → Nat → Int32 → pq_S → Option pq_S) × (Nat → Nat → Int32 → Int32 → pq_S → Option pq_S)
  | 0 => ((fun _ _ _ _ => none), (fun _ _ _ _ => none), (fun _ _ _ _ => none), (fun _ _ _ _ => none), (fun _ _ _ _ => none), (fun _ _ _ _ _ => none))
  | d + 1 => ((g_X2_readSum n (m_lawP_d n d)), (g_X2_readProduct n (m_lawP_d n d)), (g_X2_readUnit n (m_lawP_d n d)), (g_X2_readBracket n (m_lawP_d n d)), (g_X2_readWord n (m_lawP_d n d)), (g_X2_readPair n (m_lawP_d n d)))
theorem hg_lawP (n : Nat) : ∀ d : Nat, HG_lawP n d (m_lawP_d n d) := by
  intro d
  induction d with
  | zero =>
    exact ⟨(fun _ _ _ _ _ _ _ _ _ _ _ _ hm => by cases hm), (fun _ _ _ _ _ _ _ _ _ _ _ _ hm => by cases hm), (fun _ _ _ _ _ _ _ _ _ _ _ _ hm => by cases hm), (fun _ _ _ _ _ _ _ _ _ _ _ _ hm => by cases hm), (fun _ _ _ _ _ _ _ _ _ _ _ _ hm => by cases hm), (fun _ _ _ _ _ _ _ _ _ _ _ _ _ hm => by cases hm)⟩
  | succ d ih =>
    exact ⟨(fun q0 q1 q2 q3 q4 q5 q6 q7 q8 q9 q10 q11 hm => cg_X2_readSum n d _ ih q0 q1 q2 q3 q4 q5 q6 q7 q8 q9 q10 q11 hm), (fun q0 q1 q2 q3 q4 q5 q6 q7 q8 q9 q10 q11 hm => cg_X2_readProduct n d _ ih q0 q1 q2 q3 q4 q5 q6 q7 q8 q9 q10 q11 hm), (fun q0 q1 q2 q3 q4 q5 q6 q7 q8 q9 q10 q11 hm => cg_X2_readUnit n d _ ih q0 q1 q2 q3 q4 q5 q6 q7 q8 q9 q10 q11 hm), (fun q0 q1 q2 q3 q4 q5 q6 q7 q8 q9 q10 q11 hm => cg_X2_readBracket n d _ ih q0 q1 q2 q3 q4 q5 q6 q7 q8 q9 q10 q11 hm), (fun q0 q1 q2 q3 q4 q5 q6 q7 q8 q9 q10 q11 hm => cg_X2_readWord n d _ ih q0 q1 q2 q3 q4 q5 q6 q7 q8 q9 q10 q11 hm), (fun q0 q1 q2 q3 q4 q5 q6 q7 q8 q9 q10 q11 q12 hm => cg_X2_readPair n d _ ih q0 q1 q2 q3 q4 q5 q6 q7 q8 q9 q10 q11 q12 hm)⟩
def m_X2_readSum (n : Nat) (a0 : Nat) (a1 : Nat) (x2 : Int32) (S : pq_S) : Option pq_S := (m_lawP_d n 64).1 a0 a1 x2 S
abbrev rm_X2_readSum : Room := { frames := 70, cells := 0, slots := 0, locals := 1663 }
theorem c_X2_readSum (l : Launch) (C : pq_C) (X : va_W) (n : Nat) (S0 : pq_S) (hF : WF S0) (sz : Nat) (a0 : Nat) (a1 : Nat) (x2 : Int32) (Ta0 : TY S0 a0 2) (Ta1 : TY S0 a1 10) (S1 : pq_S) (hm : m_X2_readSum n a0 a1 x2 S0 = some S1) : MV l yX2_readSum (.code yX2_readSum cX2_readSum 5 none :: pq_U) rm_X2_readSum C X S0 sz [.ref a0, .ref a1, .int x2] S1 0 0 := (hg_lawP n 64).1 l C X S0 hF sz a0 a1 x2 Ta0 Ta1 S1 hm
def m_X2_readProduct (n : Nat) (a0 : Nat) (a1 : Nat) (x2 : Int32) (S : pq_S) : Option pq_S := (m_lawP_d n 64).2.1 a0 a1 x2 S
abbrev rm_X2_readProduct : Room := { frames := 70, cells := 0, slots := 0, locals := 1663 }
theorem c_X2_readProduct (l : Launch) (C : pq_C) (X : va_W) (n : Nat) (S0 : pq_S) (hF : WF S0) (sz : Nat) (a0 : Nat) (a1 : Nat) (x2 : Int32) (Ta0 : TY S0 a0 2) (Ta1 : TY S0 a1 10) (S1 : pq_S) (hm : m_X2_readProduct n a0 a1 x2 S0 = some S1) : MV l yX2_readProduct (.code yX2_readProduct cX2_readProduct 5 none :: pq_U) rm_X2_readProduct C X S0 sz [.ref a0, .ref a1, .int x2] S1 0 0 := (hg_lawP n 64).2.1 l C X S0 hF sz a0 a1 x2 Ta0 Ta1 S1 hm
def m_X2_readUnit (n : Nat) (a0 : Nat) (a1 : Nat) (x2 : Int32) (S : pq_S) : Option pq_S := (m_lawP_d n 64).2.2.1 a0 a1 x2 S
abbrev rm_X2_readUnit : Room := { frames := 70, cells := 0, slots := 0, locals := 1663 }
theorem c_X2_readUnit (l : Launch) (C : pq_C) (X : va_W) (n : Nat) (S0 : pq_S) (hF : WF S0) (sz : Nat) (a0 : Nat) (a1 : Nat) (x2 : Int32) (Ta0 : TY S0 a0 2) (Ta1 : TY S0 a1 10) (S1 : pq_S) (hm : m_X2_readUnit n a0 a1 x2 S0 = some S1) : MV l yX2_readUnit (.code yX2_readUnit cX2_readUnit 4 none :: pq_U) rm_X2_readUnit C X S0 sz [.ref a0, .ref a1, .int x2] S1 0 0 := (hg_lawP n 64).2.2.1 l C X S0 hF sz a0 a1 x2 Ta0 Ta1 S1 hm
def m_X2_readBracket (n : Nat) (a0 : Nat) (a1 : Nat) (x2 : Int32) (S : pq_S) : Option pq_S := (m_lawP_d n 64).2.2.2.1 a0 a1 x2 S
abbrev rm_X2_readBracket : Room := { frames := 70, cells := 0, slots := 0, locals := 1663 }
theorem c_X2_readBracket (l : Launch) (C : pq_C) (X : va_W) (n : Nat) (S0 : pq_S) (hF : WF S0) (sz : Nat) (a0 : Nat) (a1 : Nat) (x2 : Int32) (Ta0 : TY S0 a0 2) (Ta1 : TY S0 a1 10) (S1 : pq_S) (hm : m_X2_readBracket n a0 a1 x2 S0 = some S1) : MV l yX2_readBracket (.code yX2_readBracket cX2_readBracket 3 none :: pq_U) rm_X2_readBracket C X S0 sz [.ref a0, .ref a1, .int x2] S1 0 0 := (hg_lawP n 64).2.2.2.1 l C X S0 hF sz a0 a1 x2 Ta0 Ta1 S1 hm
def m_X2_readWord (n : Nat) (a0 : Nat) (a1 : Nat) (x2 : Int32) (S : pq_S) : Option pq_S := (m_lawP_d n 64).2.2.2.2.1 a0 a1 x2 S
abbrev rm_X2_readWord : Room := { frames := 70, cells := 0, slots := 0, locals := 1663 }
theorem c_X2_readWord (l : Launch) (C : pq_C) (X : va_W) (n : Nat) (S0 : pq_S) (hF : WF S0) (sz : Nat) (a0 : Nat) (a1 : Nat) (x2 : Int32) (Ta0 : TY S0 a0 2) (Ta1 : TY S0 a1 10) (S1 : pq_S) (hm : m_X2_readWord n a0 a1 x2 S0 = some S1) : MV l yX2_readWord (.code yX2_readWord cX2_readWord 4 none :: pq_U) rm_X2_readWord C X S0 sz [.ref a0, .ref a1, .int x2] S1 0 0 := (hg_lawP n 64).2.2.2.2.1 l C X S0 hF sz a0 a1 x2 Ta0 Ta1 S1 hm
def m_X2_readPair (n : Nat) (a0 : Nat) (a1 : Nat) (x2 : Int32) (x3 : Int32) (S : pq_S) : Option pq_S := (m_lawP_d n 64).2.2.2.2.2 a0 a1 x2 x3 S
abbrev rm_X2_readPair : Room := { frames := 70, cells := 0, slots := 0, locals := 1663 }
theorem c_X2_readPair (l : Launch) (C : pq_C) (X : va_W) (n : Nat) (S0 : pq_S) (hF : WF S0) (sz : Nat) (a0 : Nat) (a1 : Nat) (x2 : Int32) (x3 : Int32) (Ta0 : TY S0 a0 2) (Ta1 : TY S0 a1 10) (S1 : pq_S) (hm : m_X2_readPair n a0 a1 x2 x3 S0 = some S1) : MV l yX2_readPair (.code yX2_readPair cX2_readPair 4 none :: pq_U) rm_X2_readPair C X S0 sz [.ref a0, .ref a1, .int x2, .int x3] S1 0 0 := (hg_lawP n 64).2.2.2.2.2 l C X S0 hF sz a0 a1 x2 x3 Ta0 Ta1 S1 hm
abbrev rmg_proP (d : Nat) : Room := { frames := 5 + d, cells := 0, slots := 0, locals := 107 + d * 24 }
theorem rmg_proP_l (d : Nat) {q : Nat} (h : q ≤ 5) : 8 + (q + 11) + (rmg_proP d).locals ≤ (rmg_proP (d + 1)).locals := by show 8 + (q + 11) + (107 + d * 24) ≤ 107 + (d + 1) * 24; omega
theorem tc_X6_readSteps : Cond.code yX6_readSteps cX6_readSteps 5 none ∈ pq_U := tw809
theorem cd_X6_readSteps : yX6_readSteps.cls = RX6 ∧ yX6_readSteps.cls ≠ "java/lang/invoke/MethodHandle" ∧ yX6_readSteps.cls ≠ "java/lang/invoke/VarHandle" ∧ (parseMethodDescriptor yX6_readSteps.desc).map (fun d => d.parameters.length) = some 3 := by decide +kernel
theorem tc_X6_readStep : Cond.code yX6_readStep cX6_readStep 5 none ∈ pq_U := tw816
theorem cd_X6_readStep : yX6_readStep.cls = RX6 ∧ yX6_readStep.cls ≠ "java/lang/invoke/MethodHandle" ∧ yX6_readStep.cls ≠ "java/lang/invoke/VarHandle" ∧ (parseMethodDescriptor yX6_readStep.desc).map (fun d => d.parameters.length) = some 3 := by decide +kernel
theorem tc_X6_readAgain : Cond.code yX6_readAgain cX6_readAgain 5 none ∈ pq_U := tw835
theorem cd_X6_readAgain : yX6_readAgain.cls = RX6 ∧ yX6_readAgain.cls ≠ "java/lang/invoke/MethodHandle" ∧ yX6_readAgain.cls ≠ "java/lang/invoke/VarHandle" ∧ (parseMethodDescriptor yX6_readAgain.desc).map (fun d => d.parameters.length) = some 4 := by decide +kernel
def HG_proP (n d : Nat) (rec : (Nat → Nat → Nat → Int32 → pq_S → Option pq_S) × (Nat → Nat → Nat → Int32 → pq_S → Option pq_S) × (Nat → Nat → Nat → Int32 → Int32 → pq_S → Option pq_S)) : Prop := (∀ (l : Launch) (C : pq_C) (X : va_W) (S0 : pq_S) (_ : WF S0) (sz : Nat) (a0 : Nat) (a1 : Nat) (a2 : Nat) (x3 : Int32) (_Ta0 : TY S0 a0 6) (_Ta1 : TY S0 a1 10) (_Ta2 : TY S0 a2 1) (S1 : pq_S), rec.1 a0 a1 a2 x3 S0 = some S1 → MV l yX6_readSteps (.code yX6_readSteps cX6_readSteps 5 none :: pq_U) (rmg_proP d) C X S0 sz [.ref a0, .ref a1, .ref a2, .int x3] S1 0 0) ∧ (∀ (l : Launch) (C : pq_C) (X : va_W) (S0 : pq_S) (_ : WF S0) (sz : Nat) (a0 : Nat) (a1 : Nat) (a2 : Nat) (x3 : Int32) (_Ta0 : TY S0 a0 6) (_Ta1 : TY S0 a1 10) (_Ta2 : TY S0 a2 1) (S1 : pq_S), rec.2.1 a0 a1 a2 x3 S0 = some S1 → MV l yX6_readStep (.code yX6_readStep cX6_readStep 5 none :: pq_U) (rmg_proP d) C X S0 sz [.ref a0, .ref a1, .ref a2, .int x3] S1 0 0) ∧ (∀ (l : Launch) (C : pq_C) (X : va_W) (S0 : pq_S) (_ : WF S0) (sz : Nat) (a0 : Nat) (a1 : Nat) (a2 : Nat) (x3 : Int32) (x4 : Int32) (_Ta0 : TY S0 a0 6) (_Ta1 : TY S0 a1 10) (_Ta2 : TY S0 a2 1) (S1 : pq_S), rec.2.2 a0 a1 a2 x3 x4 S0 = some S1 → MV l yX6_readAgain (.code yX6_readAgain cX6_readAgain 5 none :: pq_U) (rmg_proP d) C X S0 sz [.ref a0, .ref a1, .ref a2, .int x3, .int x4] S1 0 0)
def b_X6_readSteps_46 (n : Nat) (rec : (Nat → Nat → Nat → Int32 → pq_S → Option pq_S) × (Nat → Nat → Nat → Int32 → pq_S → Option pq_S) × (Nat → Nat → Nat → Int32 → Int32 → pq_S → Option pq_S)) (k2 : Nat → Nat → Nat → Int32 → Int32 → pq_S → Option pq_S) (a0 : Nat) (a1 : Nat) (a2 : Nat) (x3 : Int32) (x4 : Int32) (S : pq_S) : Option pq_S := Option.bind (m_X10_takeSign n a1 59 S) fun S_24 => k2 a0 a1 a2 x3 (x4 + 1) S_24
set_option maxHeartbeats 4000000 in
set_option maxRecDepth 100000 in
theorem wb_X6_readSteps_46 {p : Program} {l : Launch} {e : Env} {s : State} {m : MethodId} {args : Array Value} {below : List Frame} {meth : Method} {c : Code} (cx : Cx p s m args meth c cX6_readSteps 5 RX6 none) (C : pq_C) (X : va_W) (S0 : pq_S) (n : Nat) (d : Nat) (rec : (Nat → Nat → Nat → Int32 → pq_S → Option pq_S) × (Nat → Nat → Nat → Int32 → pq_S → Option pq_S) × (Nat → Nat → Nat → Int32 → Int32 → pq_S → Option pq_S)) (hrec : HG_proP n d rec) (S1 : pq_S) (k2 : Nat → Nat → Nat → Int32 → Int32 → pq_S → Option pq_S) (hk2 : ∀ (a0 : Nat) (a1 : Nat) (a2 : Nat) (x3 : Int32) (x4 : Int32) (S : pq_S) (H : Heap) (locs : List Loc) (ls : Array Slot), PW C X S (pq_F C X S0 s.heap.size) H locs s → Ext S0 S → TY S a0 6 → TY S a1 10 → TY S a2 1 → lv_has ls 5 [(0, .ref a0), (1, .ref a1), (2, .ref a2), (3, .int x3), (4, .int x4)] → k2 a0 a1 a2 x3 x4 S = some S1 → W p l e (rmg_proP (d + 1)) s m args below meth c H locs 0 0 (MQ below (QcV C X S0 s.heap.size S1) args s 0 0 (pq_F C X S0 s.heap.size)) (F0 m 3 ls [])) : ∀ (a0 : Nat) (a1 : Nat) (a2 : Nat) (x3 : Int32) (x4 : Int32) (S : pq_S) (H : Heap) (locs : List Loc) (ls : Array Slot), PW C X S (pq_F C X S0 s.heap.size) H locs s → Ext S0 S → TY S a0 6 → TY S a1 10 → TY S a2 1 → lv_has ls 5 [(0, .ref a0), (1, .ref a1), (2, .ref a2), (3, .int x3), (4, .int x4)] → b_X6_readSteps_46 n rec k2 a0 a1 a2 x3 x4 S = some S1 → W p l e (rmg_proP (d + 1)) s m args below meth c H locs 0 0 (MQ below (QcV C X S0 s.heap.size S1) args s 0 0 (pq_F C X S0 s.heap.size)) (F0 m 46 ls []) := by
  obtain ⟨hx, hb, hml, hown, hU, hr, hlk⟩ := id cx
  intro a0 a1 a2 x3 x4 S H locs ls hw hE Ta0 Ta1 Ta2 hl hm
  rw [b_X6_readSteps_46] at hm
  refine lv_aload_n hx hb dX6_readSteps_46 rfl (lv_at hl 1 rfl) ?_
  refine lv_bipush (v := 59) hx hb dX6_readSteps_47 (by decide) ?_
  obtain ⟨S_24, hq25, hm⟩ := bd_some hm
  refine pw_cv (va_runVN (As := [.int 59]) (rest := []) ⟨hx, hb, hml, hown, hU⟩ (c_X10_takeSign l C X n S hw.wf _ a1 59 (Ta1) S_24 hq25) ⟨va_cnB (host := "WickNights") 1 hU (pq_g1 tc_X10_takeSign) rfl rfl rfl (hw.nw 131 rfl) (hU _ tw2) cd_X10_takeSign.2 ⟨Nat.le_trans (Nat.le_of_ble_eq_true rfl) (Nat.le_add_right _ _), Nat.le_trans (Nat.le_of_ble_eq_true rfl) (Nat.le_add_right _ _)⟩, hU _ tw697, hU _ ts27⟩ (pw_preV hw Ta1 (by decide) rfl) rfl rfl hl.1 rfl (lv_room (Nat.le_of_ble_eq_true rfl)) dX6_readSteps_49 ⟨Nat.zero_le _, Nat.zero_le _⟩) hw (fun H locs hw hx26 => ?_)
  have Ta0 : TY S_24 a0 6 := ty_ext hx26 Ta0
  have Ta1 : TY S_24 a1 10 := ty_ext hx26 Ta1
  have Ta2 : TY S_24 a2 1 := ty_ext hx26 Ta2
  have hE : Ext S0 S_24 := Ext.tr hE hx26
  refine lv_iinc (v := (x4 + 1)) (lv' := [(4, .int (x4 + 1)), (0, .ref a0), (1, .ref a1), (2, .ref a2), (3, .int x3)]) hx hb dX6_readSteps_52 hl (k := 4) rfl rfl (by decide) rfl (fun ls hl => ?_)
  refine lv_goto (tgt := 3) hx hb dX6_readSteps_55 (by decide) ?_
  exact hk2 a0 a1 a2 x3 (x4 + 1) S_24 _ _ _ hw hE Ta0 Ta1 Ta2 (lv_sub hl [1, 2, 3, 4, 0] rfl) hm
def b_X6_readSteps_3 (n : Nat) (rec : (Nat → Nat → Nat → Int32 → pq_S → Option pq_S) × (Nat → Nat → Nat → Int32 → pq_S → Option pq_S) × (Nat → Nat → Nat → Int32 → Int32 → pq_S → Option pq_S)) : Nat → Nat → Nat → Nat → Int32 → Int32 → pq_S → Option pq_S
  | 0, _, _, _, _, _, _ => none
  | f + 1, a0, a1, a2, x3, x4, S => if 150 < x4 then some S else cb (m_X10_next n a1 S) fun r4 S_2 => if r4 = (-1) then some S_2 else cb (m_X10_next n a1 S_2) fun r9 S_7 => if r9 = 93 then some S_7 else Option.bind (m_X10_takeWord n a1 S_7) fun S_12 => cb (m_X10_isWell n a1 S_12) fun r17 S_15 => if r17 = 0 then b_X6_readSteps_46 n rec (b_X6_readSteps_3 n rec f) a0 a1 a2 x3 x4 S_15 else Option.bind (rec.2.1 a0 a1 a2 x3 S_15) fun S_21 => b_X6_readSteps_46 n rec (b_X6_readSteps_3 n rec f) a0 a1 a2 x3 x4 S_21
set_option maxHeartbeats 4000000 in
set_option maxRecDepth 100000 in
theorem wb_X6_readSteps_3 {p : Program} {l : Launch} {e : Env} {s : State} {m : MethodId} {args : Array Value} {below : List Frame} {meth : Method} {c : Code} (cx : Cx p s m args meth c cX6_readSteps 5 RX6 none) (C : pq_C) (X : va_W) (S0 : pq_S) (n : Nat) (d : Nat) (rec : (Nat → Nat → Nat → Int32 → pq_S → Option pq_S) × (Nat → Nat → Nat → Int32 → pq_S → Option pq_S) × (Nat → Nat → Nat → Int32 → Int32 → pq_S → Option pq_S)) (hrec : HG_proP n d rec) (S1 : pq_S) : ∀ (f : Nat) (a0 : Nat) (a1 : Nat) (a2 : Nat) (x3 : Int32) (x4 : Int32) (S : pq_S) (H : Heap) (locs : List Loc) (ls : Array Slot), PW C X S (pq_F C X S0 s.heap.size) H locs s → Ext S0 S → TY S a0 6 → TY S a1 10 → TY S a2 1 → lv_has ls 5 [(0, .ref a0), (1, .ref a1), (2, .ref a2), (3, .int x3), (4, .int x4)] → b_X6_readSteps_3 n rec f a0 a1 a2 x3 x4 S = some S1 → W p l e (rmg_proP (d + 1)) s m args below meth c H locs 0 0 (MQ below (QcV C X S0 s.heap.size S1) args s 0 0 (pq_F C X S0 s.heap.size)) (F0 m 3 ls []) := by
  obtain ⟨hx, hb, hml, hown, hU, hr, hlk⟩ := id cx
  intro f
  induction f with
  | zero =>
    intro a0 a1 a2 x3 x4 S H locs ls hw hE Ta0 Ta1 Ta2 hl hm
    cases hm
  | succ f ih =>
    intro a0 a1 a2 x3 x4 S H locs ls hw hE Ta0 Ta1 Ta2 hl hm
    rw [b_X6_readSteps_3] at hm
    refine lv_iload hx hb dX6_readSteps_3 (lv_at hl 4 rfl) ?_
    refine lv_sipush (v := 150) hx hb dX6_readSteps_5 (by decide) ?_
    refine lv_icmp_gt (tgt := 58) hx hb dX6_readSteps_8 (by decide) (fun h1 => ?_) (fun h1 => ?_)
    · rw [if_pos h1] at hm
      cases hm
      exact pw_vret hx hb hr hlk hw hE dX6_readSteps_58
    · rw [if_neg h1] at hm
      refine lv_aload_n hx hb dX6_readSteps_11 rfl (lv_at hl 1 rfl) ?_
      obtain ⟨r4, S_2, hq3, hm⟩ := cb_some hm
      refine pw_ci (va_runVN (As := []) (rest := []) ⟨hx, hb, hml, hown, hU⟩ (c_X10_next l C X n S hw.wf _ a1 (Ta1) r4 S_2 hq3) ⟨va_cnB (host := "WickNights") 0 hU (pq_g1 tc_X10_next) rfl rfl rfl (hw.nw 123 rfl) (hU _ tw2) cd_X10_next.2 ⟨Nat.le_trans (Nat.le_of_ble_eq_true rfl) (Nat.le_add_right _ _), Nat.le_trans (Nat.le_of_ble_eq_true rfl) (Nat.le_add_right _ _)⟩, hU _ tw572, hU _ ts12⟩ (pw_preV hw Ta1 (by decide) rfl) rfl rfl hl.1 rfl (lv_room (Nat.le_of_ble_eq_true rfl)) dX6_readSteps_12 ⟨Nat.zero_le _, Nat.zero_le _⟩) hw (fun H locs hw hx5 => ?_)
      have Ta0 : TY S_2 a0 6 := ty_ext hx5 Ta0
      have Ta1 : TY S_2 a1 10 := ty_ext hx5 Ta1
      have Ta2 : TY S_2 a2 1 := ty_ext hx5 Ta2
      have hE : Ext S0 S_2 := Ext.tr hE hx5
      refine lv_iconst (v := (-1)) hx hb dX6_readSteps_15 (by decide) ?_
      refine lv_icmp_eq (tgt := 58) hx hb dX6_readSteps_16 (by decide) (fun h6 => ?_) (fun h6 => ?_)
      · rw [if_pos h6] at hm
        cases hm
        exact pw_vret hx hb hr hlk hw hE dX6_readSteps_58
      · rw [if_neg h6] at hm
        refine lv_aload_n hx hb dX6_readSteps_19 rfl (lv_at hl 1 rfl) ?_
        obtain ⟨r9, S_7, hq8, hm⟩ := cb_some hm
        refine pw_ci (va_runVN (As := []) (rest := []) ⟨hx, hb, hml, hown, hU⟩ (c_X10_next l C X n S_2 hw.wf _ a1 (Ta1) r9 S_7 hq8) ⟨va_cnB (host := "WickNights") 0 hU (pq_g1 tc_X10_next) rfl rfl rfl (hw.nw 123 rfl) (hU _ tw2) cd_X10_next.2 ⟨Nat.le_trans (Nat.le_of_ble_eq_true rfl) (Nat.le_add_right _ _), Nat.le_trans (Nat.le_of_ble_eq_true rfl) (Nat.le_add_right _ _)⟩, hU _ tw572, hU _ ts12⟩ (pw_preV hw Ta1 (by decide) rfl) rfl rfl hl.1 rfl (lv_room (Nat.le_of_ble_eq_true rfl)) dX6_readSteps_20 ⟨Nat.zero_le _, Nat.zero_le _⟩) hw (fun H locs hw hx10 => ?_)
        have Ta0 : TY S_7 a0 6 := ty_ext hx10 Ta0
        have Ta1 : TY S_7 a1 10 := ty_ext hx10 Ta1
        have Ta2 : TY S_7 a2 1 := ty_ext hx10 Ta2
        have hE : Ext S0 S_7 := Ext.tr hE hx10
        refine lv_bipush (v := 93) hx hb dX6_readSteps_23 (by decide) ?_
        refine lv_icmp_eq (tgt := 58) hx hb dX6_readSteps_25 (by decide) (fun h11 => ?_) (fun h11 => ?_)
        · rw [if_pos h11] at hm
          cases hm
          exact pw_vret hx hb hr hlk hw hE dX6_readSteps_58
        · rw [if_neg h11] at hm
          refine lv_aload_n hx hb dX6_readSteps_28 rfl (lv_at hl 1 rfl) ?_
          obtain ⟨S_12, hq13, hm⟩ := bd_some hm
          refine pw_cv (va_runVN (As := []) (rest := []) ⟨hx, hb, hml, hown, hU⟩ (c_X10_takeWord l C X n S_7 hw.wf _ a1 (Ta1) S_12 hq13) ⟨va_cnB (host := "WickNights") 0 hU (pq_g1 tc_X10_takeWord) rfl rfl rfl (hw.nw 124 rfl) (hU _ tw2) cd_X10_takeWord.2 ⟨Nat.le_trans (Nat.le_of_ble_eq_true rfl) (Nat.le_add_right _ _), Nat.le_trans (Nat.le_of_ble_eq_true rfl) (Nat.le_add_right _ _)⟩, hU _ tw580, hU _ ts14⟩ (pw_preV hw Ta1 (by decide) rfl) rfl rfl hl.1 rfl (lv_room (Nat.le_of_ble_eq_true rfl)) dX6_readSteps_29 ⟨Nat.zero_le _, Nat.zero_le _⟩) hw (fun H locs hw hx14 => ?_)
          have Ta0 : TY S_12 a0 6 := ty_ext hx14 Ta0
          have Ta1 : TY S_12 a1 10 := ty_ext hx14 Ta1
          have Ta2 : TY S_12 a2 1 := ty_ext hx14 Ta2
          have hE : Ext S0 S_12 := Ext.tr hE hx14
          refine lv_aload_n hx hb dX6_readSteps_32 rfl (lv_at hl 1 rfl) ?_
          obtain ⟨r17, S_15, hq16, hm⟩ := cb_some hm
          refine pw_cz (va_runVN (As := []) (rest := []) ⟨hx, hb, hml, hown, hU⟩ (c_X10_isWell l C X n S_12 hw.wf _ a1 (Ta1) r17 S_15 hq16) ⟨va_cnB (host := "WickNights") 0 hU (pq_g1 tc_X10_isWell) rfl rfl rfl (hw.nw 125 rfl) (hU _ tw2) cd_X10_isWell.2 ⟨Nat.le_trans (Nat.le_of_ble_eq_true rfl) (Nat.le_add_right _ _), Nat.le_trans (Nat.le_of_ble_eq_true rfl) (Nat.le_add_right _ _)⟩, hU _ tw594, hU _ ts17⟩ (pw_preV hw Ta1 (by decide) rfl) rfl rfl hl.1 rfl (lv_room (Nat.le_of_ble_eq_true rfl)) dX6_readSteps_33 ⟨Nat.zero_le _, Nat.zero_le _⟩) hw (fun H locs hw hx18 hz19 => ?_)
          have Ta0 : TY S_15 a0 6 := ty_ext hx18 Ta0
          have Ta1 : TY S_15 a1 10 := ty_ext hx18 Ta1
          have Ta2 : TY S_15 a2 1 := ty_ext hx18 Ta2
          have hE : Ext S0 S_15 := Ext.tr hE hx18
          refine lv_if_eq (tgt := 46) hx hb dX6_readSteps_36 (by decide) (fun h20 => ?_) (fun h20 => ?_)
          · rw [if_pos h20] at hm
            exact wb_X6_readSteps_46 cx C X S0 n d rec hrec S1 _ ih a0 a1 a2 x3 x4 S_15 _ _ _ hw hE Ta0 Ta1 Ta2 (lv_sub hl [0, 1, 2, 3, 4] rfl) hm
          · rw [if_neg h20] at hm
            refine lv_aload_n hx hb dX6_readSteps_39 rfl (lv_at hl 0 rfl) ?_
            refine lv_aload_n hx hb dX6_readSteps_40 rfl (lv_at hl 1 rfl) ?_
            refine lv_aload_n hx hb dX6_readSteps_41 rfl (lv_at hl 2 rfl) ?_
            refine lv_iload_n hx hb dX6_readSteps_42 rfl (lv_at hl 3 rfl) ?_
            obtain ⟨S_21, hq22, hm⟩ := bd_some hm
            refine pw_cv (va_runV (As := [.ref a1, .ref a2, .int x3]) (rest := []) ⟨hx, hb, hml, hown, hU⟩ (hrec.2.1 l C X S_15 hw.wf _ a0 a1 a2 x3 (Ta0) (Ta1) (Ta2) S_21 hq22) (cwV 3 hU (pq_gV tw813 tw815 ts46 tw10 tc_X6_readStep) rfl rfl rfl cd_X6_readStep ⟨Nat.le_refl _, rmg_proP_l d (by decide)⟩) (pw_preV hw Ta0 (by decide) rfl) rfl rfl hl.1 rfl (lv_room (Nat.le_of_ble_eq_true rfl)) dX6_readSteps_43 ⟨Nat.zero_le _, Nat.zero_le _⟩) hw (fun H locs hw hx23 => ?_)
            have Ta0 : TY S_21 a0 6 := ty_ext hx23 Ta0
            have Ta1 : TY S_21 a1 10 := ty_ext hx23 Ta1
            have Ta2 : TY S_21 a2 1 := ty_ext hx23 Ta2
            have hE : Ext S0 S_21 := Ext.tr hE hx23
            exact wb_X6_readSteps_46 cx C X S0 n d rec hrec S1 _ ih a0 a1 a2 x3 x4 S_21 _ _ _ hw hE Ta0 Ta1 Ta2 (lv_sub hl [0, 1, 2, 3, 4] rfl) hm
def g_X6_readSteps (n : Nat) (rec : (Nat → Nat → Nat → Int32 → pq_S → Option pq_S) × (Nat → Nat → Nat → Int32 → pq_S → Option pq_S) × (Nat → Nat → Nat → Int32 → Int32 → pq_S → Option pq_S)) (a0 : Nat) (a1 : Nat) (a2 : Nat) (x3 : Int32) (S0 : pq_S) : Option pq_S := b_X6_readSteps_3 n rec n a0 a1 a2 x3 0 S0
set_option maxHeartbeats 4000000 in
set_option maxRecDepth 100000 in
theorem cg_X6_readSteps (n d : Nat) (rec : (Nat → Nat → Nat → Int32 → pq_S → Option pq_S) × (Nat → Nat → Nat → Int32 → pq_S → Option pq_S) × (Nat → Nat → Nat → Int32 → Int32 → pq_S → Option pq_S)) (hrec : HG_proP n d rec) (l : Launch) (C : pq_C) (X : va_W) (S0 : pq_S) (hF : WF S0) (sz : Nat) (a0 : Nat) (a1 : Nat) (a2 : Nat) (x3 : Int32) (Ta0 : TY S0 a0 6) (Ta1 : TY S0 a1 10) (Ta2 : TY S0 a2 1) (S1 : pq_S) (hm : g_X6_readSteps n rec a0 a1 a2 x3 S0 = some S1) : MV l yX6_readSteps (.code yX6_readSteps cX6_readSteps 5 none :: pq_U) (rmg_proP (d + 1)) C X S0 sz [.ref a0, .ref a1, .ref a2, .int x3] S1 0 0 := by
  refine Met.ofW (cc := cX6_readSteps) (maxL := 5) (ret := none) (by decide) rfl ?_
  intro p e s m args below meth c s₁ B hml hv
  obtain ⟨rfl, hv⟩ := hv
  have hsz := hv.1
  subst hsz
  have hw := pw_entry hF hv
  have hts := atoms_spec (ws := .code yX6_readSteps cX6_readSteps 5 none :: pq_U) B.pre
  have hU : ∀ w ∈ pq_U, w.before _ s = true := fun w h => hts w (List.mem_cons_of_mem _ h)
  have hx := B.exec
  have hb := B.bytes
  have hr := B.returns
  have hown : s.vm.findClass RX6 = some m.cls := findClass_of_methodNamed B.named
  have hlk := B.notSynchronized
  have hl := lv_entry ([.ref a0, .ref a1, .ref a2, .int x3]) (n := 5) (Nat.le_of_ble_eq_true rfl)
  rw [lg_entry_eq]
  generalize (lg_sl ([.ref a0, .ref a1, .ref a2, .int x3]) ++ List.replicate (5 - (lg_sl ([.ref a0, .ref a1, .ref a2, .int x3])).length) Slot.unset).toArray = ls at hl ⊢
  have hl : lv_has ls 5 [(0, .ref a0), (1, .ref a1), (2, .ref a2), (3, .int x3)] := hl
  have hE : Ext S0 S0 := Ext.rf _
  have cx : Cx p s m _ meth c cX6_readSteps 5 RX6 none := ⟨hx, hb, hml, hown, hU, hr, hlk⟩
  rw [g_X6_readSteps] at hm
  refine lv_iconst (v := 0) hx hb dX6_readSteps_0 (by decide) ?_
  refine lv_istore (lv' := [(4, .int 0), (0, .ref a0), (1, .ref a1), (2, .ref a2), (3, .int x3)]) hx hb dX6_readSteps_1 hl (by decide) rfl (fun ls hl => ?_)
  exact wb_X6_readSteps_3 cx C X S0 n d rec hrec S1 n a0 a1 a2 x3 0 S0 _ _ _ hw hE Ta0 Ta1 Ta2 (lv_sub hl [1, 2, 3, 4, 0] rfl) hm
def g_X6_readStep (n : Nat) (rec : (Nat → Nat → Nat → Int32 → pq_S → Option pq_S) × (Nat → Nat → Nat → Int32 → pq_S → Option pq_S) × (Nat → Nat → Nat → Int32 → Int32 → pq_S → Option pq_S)) (a0 : Nat) (a1 : Nat) (a2 : Nat) (x3 : Int32) (S0 : pq_S) : Option pq_S := Option.bind (pR S0 600 a0) fun q1 => cb (m_X9_newRow n q1 S0) fun r4 S_2 => cb (m_X10_isWord n a1 15 S_2) fun r8 S_6 => if r8 = 0 then cb (m_X10_isWord n a1 16 S_6) fun r14 S_12 => if r14 = 0 then cb (m_X10_isWord n a1 17 S_12) fun r20 S_18 => if r20 = 0 then cb (m_X10_isWord n a1 18 S_18) fun r26 S_24 => if r26 = 0 then cb (m_X10_isWord n a1 13 S_24) fun r32 S_30 => if r32 = 0 then cb (m_X10_isWord n a1 19 S_30) fun r38 S_36 => if r38 = 0 then Option.bind (m_X10_refuse n a1 1 (pI S_36 1004 a1) S_36) fun S_42 => some S_42 else Option.bind (rec.2.2 a0 a1 a2 r4 x3 S_36) fun S_45 => some S_45 else Option.bind (pR S_30 600 a0) fun q48 => Option.bind (m_X9_put n q48 r4 0 4 S_30) fun S_49 => some S_49 else Option.bind (pR S_24 600 a0) fun q52 => Option.bind (m_X9_put n q52 r4 0 3 S_24) fun S_53 => Option.bind (pR S_53 600 a0) fun q56 => Option.bind (pR S_53 102 a2) fun q57 => cb (m_X10_takeNumber n a1 0 ((pI S_53 902 q57) - (1 : Int32)) S_53) fun r60 S_58 => Option.bind (m_X9_put n q56 r4 1 r60 S_58) fun S_62 => Option.bind (pR S_62 600 a0) fun q65 => cb (m_X10_takeNumber n a1 1 9 S_62) fun r68 S_66 => Option.bind (m_X9_put n q65 r4 2 r68 S_66) fun S_70 => some S_70 else Option.bind (pR S_18 600 a0) fun q73 => Option.bind (m_X9_put n q73 r4 0 2 S_18) fun S_74 => Option.bind (pR S_74 600 a0) fun q77 => Option.bind (pR S_74 100 a2) fun q78 => cb (m_X10_takeNumber n a1 0 ((pI S_74 902 q78) - (1 : Int32)) S_74) fun r81 S_79 => Option.bind (m_X9_put n q77 r4 1 r81 S_79) fun S_83 => Option.bind (pR S_83 600 a0) fun q86 => cb (m_X10_takeNumber n a1 1 99 S_83) fun r89 S_87 => Option.bind (m_X9_put n q86 r4 2 r89 S_87) fun S_91 => some S_91 else Option.bind (pR S_12 600 a0) fun q94 => Option.bind (m_X9_put n q94 r4 0 1 S_12) fun S_95 => Option.bind (pR S_95 600 a0) fun q98 => Option.bind (pR S_95 101 a2) fun q99 => cb (m_X10_takeNumber n a1 0 ((pI S_95 902 q99) - (1 : Int32)) S_95) fun r102 S_100 => Option.bind (m_X9_put n q98 r4 1 r102 S_100) fun S_104 => some S_104 else Option.bind (m_X6_readCarry n a0 a1 a2 r4 S_6) fun S_107 => some S_107
set_option maxHeartbeats 4000000 in
set_option maxRecDepth 100000 in
theorem cg_X6_readStep (n d : Nat) (rec : (Nat → Nat → Nat → Int32 → pq_S → Option pq_S) × (Nat → Nat → Nat → Int32 → pq_S → Option pq_S) × (Nat → Nat → Nat → Int32 → Int32 → pq_S → Option pq_S)) (hrec : HG_proP n d rec) (l : Launch) (C : pq_C) (X : va_W) (S0 : pq_S) (hF : WF S0) (sz : Nat) (a0 : Nat) (a1 : Nat) (a2 : Nat) (x3 : Int32) (Ta0 : TY S0 a0 6) (Ta1 : TY S0 a1 10) (Ta2 : TY S0 a2 1) (S1 : pq_S) (hm : g_X6_readStep n rec a0 a1 a2 x3 S0 = some S1) : MV l yX6_readStep (.code yX6_readStep cX6_readStep 5 none :: pq_U) (rmg_proP (d + 1)) C X S0 sz [.ref a0, .ref a1, .ref a2, .int x3] S1 0 0 := by
  refine Met.ofW (cc := cX6_readStep) (maxL := 5) (ret := none) (by decide) rfl ?_
  intro p e s m args below meth c s₁ B hml hv
  obtain ⟨rfl, hv⟩ := hv
  have hsz := hv.1
  subst hsz
  have hw := pw_entry hF hv
  have hts := atoms_spec (ws := .code yX6_readStep cX6_readStep 5 none :: pq_U) B.pre
  have hU : ∀ w ∈ pq_U, w.before _ s = true := fun w h => hts w (List.mem_cons_of_mem _ h)
  have hx := B.exec
  have hb := B.bytes
  have hr := B.returns
  have hown : s.vm.findClass RX6 = some m.cls := findClass_of_methodNamed B.named
  have hlk := B.notSynchronized
  have hl := lv_entry ([.ref a0, .ref a1, .ref a2, .int x3]) (n := 5) (Nat.le_of_ble_eq_true rfl)
  rw [lg_entry_eq]
  generalize (lg_sl ([.ref a0, .ref a1, .ref a2, .int x3]) ++ List.replicate (5 - (lg_sl ([.ref a0, .ref a1, .ref a2, .int x3])).length) Slot.unset).toArray = ls at hl ⊢
  have hl : lv_has ls 5 [(0, .ref a0), (1, .ref a1), (2, .ref a2), (3, .int x3)] := hl
  have hE : Ext S0 S0 := Ext.rf _
  have cx : Cx p s m _ meth c cX6_readStep 5 RX6 none := ⟨hx, hb, hml, hown, hU, hr, hlk⟩
  rw [g_X6_readStep] at hm
  refine lv_aload_n hx hb dX6_readStep_0 rfl (lv_at hl 0 rfl) ?_
  obtain ⟨q1, hq1, hm⟩ := bd_some hm
  have Tq1 : TY S0 q1 9 := hw.wf.ref (k := 6) (j := 0) Ta0 (by decide) (by decide) hq1
  refine pg_rb (k := 6) (j := 0) (f := 600) hx hb hown hU iu6 hw Ta0 (by decide) rfl (hU _ tw309) rfl hq1 dX6_readStep_1 ?_
  obtain ⟨r4, S_2, hq3, hm⟩ := cb_some hm
  refine pw_ci (va_runVN (As := []) (rest := []) ⟨hx, hb, hml, hown, hU⟩ (c_X9_newRow l C X n S0 hw.wf _ q1 (Tq1) r4 S_2 hq3) ⟨va_cnB (host := "WickNights") 0 hU (pq_g1 tc_X9_newRow) rfl rfl rfl (hw.nw 126 rfl) (hU _ tw5) cd_X9_newRow.2 ⟨Nat.le_trans (Nat.le_of_ble_eq_true rfl) (Nat.le_add_right _ _), Nat.le_trans (Nat.le_of_ble_eq_true rfl) (Nat.le_add_right _ _)⟩, hU _ tw663, hU _ ts21⟩ (pw_preV hw Tq1 (by decide) rfl) rfl rfl hl.1 rfl (lv_room (Nat.le_of_ble_eq_true rfl)) dX6_readStep_4 ⟨Nat.zero_le _, Nat.zero_le _⟩) hw (fun H locs hw hx5 => ?_)
  have Ta0 : TY S_2 a0 6 := ty_ext hx5 Ta0
  have Ta1 : TY S_2 a1 10 := ty_ext hx5 Ta1
  have Ta2 : TY S_2 a2 1 := ty_ext hx5 Ta2
  have hE : Ext S0 S_2 := Ext.tr hE hx5
  refine lv_istore (lv' := [(4, .int r4), (0, .ref a0), (1, .ref a1), (2, .ref a2), (3, .int x3)]) hx hb dX6_readStep_7 hl (by decide) rfl (fun ls hl => ?_)
  refine lv_aload_n hx hb dX6_readStep_9 rfl (lv_at hl 2 rfl) ?_
  refine va_ldcS hx hb hown (hw.str 15 rfl) dX6_readStep_10 ?_
  obtain ⟨r8, S_6, hq7, hm⟩ := cb_some hm
  refine pw_cz (va_runVN (As := [.ref (C.2.2.2.2.2.2.1 15)]) (rest := []) ⟨hx, hb, hml, hown, hU⟩ (c_X10_isWord l C X n S_2 hw.wf _ a1 15 (Ta1) ((by decide)) r8 S_6 hq7) ⟨va_cnB (host := "WickNights") 1 hU (pq_g1 tc_X10_isWord) rfl rfl rfl (hw.nw 127 rfl) (hU _ tw2) cd_X10_isWord.2 ⟨Nat.le_trans (Nat.le_of_ble_eq_true rfl) (Nat.le_add_right _ _), Nat.le_trans (Nat.le_of_ble_eq_true rfl) (Nat.le_add_right _ _)⟩, hU _ tw599, hU _ ts18⟩ (pw_preV hw Ta1 (by decide) rfl) rfl rfl hl.1 rfl (lv_room (Nat.le_of_ble_eq_true rfl)) dX6_readStep_12 ⟨Nat.zero_le _, Nat.zero_le _⟩) hw (fun H locs hw hx9 hz10 => ?_)
  have Ta0 : TY S_6 a0 6 := ty_ext hx9 Ta0
  have Ta1 : TY S_6 a1 10 := ty_ext hx9 Ta1
  have Ta2 : TY S_6 a2 1 := ty_ext hx9 Ta2
  have hE : Ext S0 S_6 := Ext.tr hE hx9
  refine lv_if_eq (tgt := 29) hx hb dX6_readStep_15 (by decide) (fun h11 => ?_) (fun h11 => ?_)
  · rw [if_pos h11] at hm
    refine lv_aload_n hx hb dX6_readStep_29 rfl (lv_at hl 2 rfl) ?_
    refine va_ldcS hx hb hown (hw.str 16 rfl) dX6_readStep_30 ?_
    obtain ⟨r14, S_12, hq13, hm⟩ := cb_some hm
    refine pw_cz (va_runVN (As := [.ref (C.2.2.2.2.2.2.1 16)]) (rest := []) ⟨hx, hb, hml, hown, hU⟩ (c_X10_isWord l C X n S_6 hw.wf _ a1 16 (Ta1) ((by decide)) r14 S_12 hq13) ⟨va_cnB (host := "WickNights") 1 hU (pq_g1 tc_X10_isWord) rfl rfl rfl (hw.nw 127 rfl) (hU _ tw2) cd_X10_isWord.2 ⟨Nat.le_trans (Nat.le_of_ble_eq_true rfl) (Nat.le_add_right _ _), Nat.le_trans (Nat.le_of_ble_eq_true rfl) (Nat.le_add_right _ _)⟩, hU _ tw599, hU _ ts18⟩ (pw_preV hw Ta1 (by decide) rfl) rfl rfl hl.1 rfl (lv_room (Nat.le_of_ble_eq_true rfl)) dX6_readStep_32 ⟨Nat.zero_le _, Nat.zero_le _⟩) hw (fun H locs hw hx15 hz16 => ?_)
    have Ta0 : TY S_12 a0 6 := ty_ext hx15 Ta0
    have Ta1 : TY S_12 a1 10 := ty_ext hx15 Ta1
    have Ta2 : TY S_12 a2 1 := ty_ext hx15 Ta2
    have hE : Ext S0 S_12 := Ext.tr hE hx15
    refine lv_if_eq (tgt := 76) hx hb dX6_readStep_35 (by decide) (fun h17 => ?_) (fun h17 => ?_)
    · rw [if_pos h17] at hm
      refine lv_aload_n hx hb dX6_readStep_76 rfl (lv_at hl 2 rfl) ?_
      refine va_ldcS hx hb hown (hw.str 17 rfl) dX6_readStep_77 ?_
      obtain ⟨r20, S_18, hq19, hm⟩ := cb_some hm
      refine pw_cz (va_runVN (As := [.ref (C.2.2.2.2.2.2.1 17)]) (rest := []) ⟨hx, hb, hml, hown, hU⟩ (c_X10_isWord l C X n S_12 hw.wf _ a1 17 (Ta1) ((by decide)) r20 S_18 hq19) ⟨va_cnB (host := "WickNights") 1 hU (pq_g1 tc_X10_isWord) rfl rfl rfl (hw.nw 127 rfl) (hU _ tw2) cd_X10_isWord.2 ⟨Nat.le_trans (Nat.le_of_ble_eq_true rfl) (Nat.le_add_right _ _), Nat.le_trans (Nat.le_of_ble_eq_true rfl) (Nat.le_add_right _ _)⟩, hU _ tw599, hU _ ts18⟩ (pw_preV hw Ta1 (by decide) rfl) rfl rfl hl.1 rfl (lv_room (Nat.le_of_ble_eq_true rfl)) dX6_readStep_79 ⟨Nat.zero_le _, Nat.zero_le _⟩) hw (fun H locs hw hx21 hz22 => ?_)
      have Ta0 : TY S_18 a0 6 := ty_ext hx21 Ta0
      have Ta1 : TY S_18 a1 10 := ty_ext hx21 Ta1
      have Ta2 : TY S_18 a2 1 := ty_ext hx21 Ta2
      have hE : Ext S0 S_18 := Ext.tr hE hx21
      refine lv_if_eq (tgt := 140) hx hb dX6_readStep_82 (by decide) (fun h23 => ?_) (fun h23 => ?_)
      · rw [if_pos h23] at hm
        refine lv_aload_n hx hb dX6_readStep_140 rfl (lv_at hl 2 rfl) ?_
        refine va_ldcS hx hb hown (hw.str 18 rfl) dX6_readStep_141 ?_
        obtain ⟨r26, S_24, hq25, hm⟩ := cb_some hm
        refine pw_cz (va_runVN (As := [.ref (C.2.2.2.2.2.2.1 18)]) (rest := []) ⟨hx, hb, hml, hown, hU⟩ (c_X10_isWord l C X n S_18 hw.wf _ a1 18 (Ta1) ((by decide)) r26 S_24 hq25) ⟨va_cnB (host := "WickNights") 1 hU (pq_g1 tc_X10_isWord) rfl rfl rfl (hw.nw 127 rfl) (hU _ tw2) cd_X10_isWord.2 ⟨Nat.le_trans (Nat.le_of_ble_eq_true rfl) (Nat.le_add_right _ _), Nat.le_trans (Nat.le_of_ble_eq_true rfl) (Nat.le_add_right _ _)⟩, hU _ tw599, hU _ ts18⟩ (pw_preV hw Ta1 (by decide) rfl) rfl rfl hl.1 rfl (lv_room (Nat.le_of_ble_eq_true rfl)) dX6_readStep_143 ⟨Nat.zero_le _, Nat.zero_le _⟩) hw (fun H locs hw hx27 hz28 => ?_)
        have Ta0 : TY S_24 a0 6 := ty_ext hx27 Ta0
        have Ta1 : TY S_24 a1 10 := ty_ext hx27 Ta1
        have Ta2 : TY S_24 a2 1 := ty_ext hx27 Ta2
        have hE : Ext S0 S_24 := Ext.tr hE hx27
        refine lv_if_eq (tgt := 204) hx hb dX6_readStep_146 (by decide) (fun h29 => ?_) (fun h29 => ?_)
        · rw [if_pos h29] at hm
          refine lv_aload_n hx hb dX6_readStep_204 rfl (lv_at hl 2 rfl) ?_
          refine va_ldcS hx hb hown (hw.str 19 rfl) dX6_readStep_205 ?_
          obtain ⟨r32, S_30, hq31, hm⟩ := cb_some hm
          refine pw_cz (va_runVN (As := [.ref (C.2.2.2.2.2.2.1 13)]) (rest := []) ⟨hx, hb, hml, hown, hU⟩ (c_X10_isWord l C X n S_24 hw.wf _ a1 13 (Ta1) ((by decide)) r32 S_30 hq31) ⟨va_cnB (host := "WickNights") 1 hU (pq_g1 tc_X10_isWord) rfl rfl rfl (hw.nw 127 rfl) (hU _ tw2) cd_X10_isWord.2 ⟨Nat.le_trans (Nat.le_of_ble_eq_true rfl) (Nat.le_add_right _ _), Nat.le_trans (Nat.le_of_ble_eq_true rfl) (Nat.le_add_right _ _)⟩, hU _ tw599, hU _ ts18⟩ (pw_preV hw Ta1 (by decide) rfl) rfl rfl hl.1 rfl (lv_room (Nat.le_of_ble_eq_true rfl)) dX6_readStep_207 ⟨Nat.zero_le _, Nat.zero_le _⟩) hw (fun H locs hw hx33 hz34 => ?_)
          have Ta0 : TY S_30 a0 6 := ty_ext hx33 Ta0
          have Ta1 : TY S_30 a1 10 := ty_ext hx33 Ta1
          have Ta2 : TY S_30 a2 1 := ty_ext hx33 Ta2
          have hE : Ext S0 S_30 := Ext.tr hE hx33
          refine lv_if_eq (tgt := 227) hx hb dX6_readStep_210 (by decide) (fun h35 => ?_) (fun h35 => ?_)
          · rw [if_pos h35] at hm
            refine lv_aload_n hx hb dX6_readStep_227 rfl (lv_at hl 2 rfl) ?_
            refine va_ldcS hx hb hown (hw.str 20 rfl) dX6_readStep_228 ?_
            obtain ⟨r38, S_36, hq37, hm⟩ := cb_some hm
            refine pw_cz (va_runVN (As := [.ref (C.2.2.2.2.2.2.1 19)]) (rest := []) ⟨hx, hb, hml, hown, hU⟩ (c_X10_isWord l C X n S_30 hw.wf _ a1 19 (Ta1) ((by decide)) r38 S_36 hq37) ⟨va_cnB (host := "WickNights") 1 hU (pq_g1 tc_X10_isWord) rfl rfl rfl (hw.nw 127 rfl) (hU _ tw2) cd_X10_isWord.2 ⟨Nat.le_trans (Nat.le_of_ble_eq_true rfl) (Nat.le_add_right _ _), Nat.le_trans (Nat.le_of_ble_eq_true rfl) (Nat.le_add_right _ _)⟩, hU _ tw599, hU _ ts18⟩ (pw_preV hw Ta1 (by decide) rfl) rfl rfl hl.1 rfl (lv_room (Nat.le_of_ble_eq_true rfl)) dX6_readStep_230 ⟨Nat.zero_le _, Nat.zero_le _⟩) hw (fun H locs hw hx39 hz40 => ?_)
            have Ta0 : TY S_36 a0 6 := ty_ext hx39 Ta0
            have Ta1 : TY S_36 a1 10 := ty_ext hx39 Ta1
            have Ta2 : TY S_36 a2 1 := ty_ext hx39 Ta2
            have hE : Ext S0 S_36 := Ext.tr hE hx39
            refine lv_if_eq (tgt := 248) hx hb dX6_readStep_233 (by decide) (fun h41 => ?_) (fun h41 => ?_)
            · rw [if_pos h41] at hm
              refine lv_aload_n hx hb dX6_readStep_248 rfl (lv_at hl 2 rfl) ?_
              refine lv_iconst (v := 1) hx hb dX6_readStep_249 (by decide) ?_
              refine lv_aload_n hx hb dX6_readStep_250 rfl (lv_at hl 2 rfl) ?_
              refine pgN_i (k := 10) (j := 4) (f := 1004) hx hb hown hU iu10 hw Ta1 (by decide) rfl 6 rfl rfl dX6_readStep_251 ?_
              obtain ⟨S_42, hq43, hm⟩ := bd_some hm
              refine pw_cv (va_runVN (As := [.int 1, .int (pI S_36 1004 a1)]) (rest := []) ⟨hx, hb, hml, hown, hU⟩ (c_X10_refuse l C X n S_36 hw.wf _ a1 1 (pI S_36 1004 a1) (Ta1) S_42 hq43) ⟨va_cnB (host := "WickNights") 2 hU (pq_g1 tc_X10_refuse) rfl rfl rfl (hw.nw 129 rfl) (hU _ tw2) cd_X10_refuse.2 ⟨Nat.le_trans (Nat.le_of_ble_eq_true rfl) (Nat.le_add_right _ _), Nat.le_trans (Nat.le_of_ble_eq_true rfl) (Nat.le_add_right _ _)⟩, hU _ tw586, hU _ ts15⟩ (pw_preV hw Ta1 (by decide) rfl) rfl rfl hl.1 rfl (lv_room (Nat.le_of_ble_eq_true rfl)) dX6_readStep_254 ⟨Nat.zero_le _, Nat.zero_le _⟩) hw (fun H locs hw hx44 => ?_)
              have Ta0 : TY S_42 a0 6 := ty_ext hx44 Ta0
              have Ta1 : TY S_42 a1 10 := ty_ext hx44 Ta1
              have Ta2 : TY S_42 a2 1 := ty_ext hx44 Ta2
              have hE : Ext S0 S_42 := Ext.tr hE hx44
              cases hm
              exact pw_vret hx hb hr hlk hw hE dX6_readStep_257
            · rw [if_neg h41] at hm
              refine lv_aload_n hx hb dX6_readStep_236 rfl (lv_at hl 1 rfl) ?_
              refine lv_aload_n hx hb dX6_readStep_237 rfl (lv_at hl 2 rfl) ?_
              refine lv_aload_n hx hb dX6_readStep_238 rfl (lv_at hl 3 rfl) ?_
              refine lv_iload hx hb dX6_readStep_239 (lv_at hl 0 rfl) ?_
              refine lv_iload_n hx hb dX6_readStep_241 rfl (lv_at hl 4 rfl) ?_
              obtain ⟨S_45, hq46, hm⟩ := bd_some hm
              refine pw_cv (va_runV (As := [.ref a1, .ref a2, .int r4, .int x3]) (rest := []) ⟨hx, hb, hml, hown, hU⟩ (hrec.2.2 l C X S_36 hw.wf _ a0 a1 a2 r4 x3 (Ta0) (Ta1) (Ta2) S_45 hq46) (cwV 4 hU (pq_gV tw832 tw834 ts48 tw10 tc_X6_readAgain) rfl rfl rfl cd_X6_readAgain ⟨Nat.le_refl _, rmg_proP_l d (by decide)⟩) (pw_preV hw Ta0 (by decide) rfl) rfl rfl hl.1 rfl (lv_room (Nat.le_of_ble_eq_true rfl)) dX6_readStep_242 ⟨Nat.zero_le _, Nat.zero_le _⟩) hw (fun H locs hw hx47 => ?_)
              have Ta0 : TY S_45 a0 6 := ty_ext hx47 Ta0
              have Ta1 : TY S_45 a1 10 := ty_ext hx47 Ta1
              have Ta2 : TY S_45 a2 1 := ty_ext hx47 Ta2
              have hE : Ext S0 S_45 := Ext.tr hE hx47
              refine lv_goto (tgt := 257) hx hb dX6_readStep_245 (by decide) ?_
              cases hm
              exact pw_vret hx hb hr hlk hw hE dX6_readStep_257
          · rw [if_neg h35] at hm
            refine lv_aload_n hx hb dX6_readStep_213 rfl (lv_at hl 1 rfl) ?_
            obtain ⟨q48, hq48, hm⟩ := bd_some hm
            have Tq48 : TY S_30 q48 9 := hw.wf.ref (k := 6) (j := 0) Ta0 (by decide) (by decide) hq48
            refine pg_rb (k := 6) (j := 0) (f := 600) hx hb hown hU iu6 hw Ta0 (by decide) rfl (hU _ tw309) rfl hq48 dX6_readStep_214 ?_
            refine lv_iload hx hb dX6_readStep_217 (lv_at hl 0 rfl) ?_
            refine lv_iconst (v := 0) hx hb dX6_readStep_219 (by decide) ?_
            refine lv_iconst (v := 4) hx hb dX6_readStep_220 (by decide) ?_
            obtain ⟨S_49, hq50, hm⟩ := bd_some hm
            refine pw_cv (va_runVN (As := [.int r4, .int 0, .int 4]) (rest := []) ⟨hx, hb, hml, hown, hU⟩ (c_X9_put l C X n S_30 hw.wf _ q48 r4 0 4 (Tq48) S_49 hq50) ⟨va_cnB (host := "WickNights") 3 hU (pq_g1 tc_X9_put) rfl rfl rfl (hw.nw 130 rfl) (hU _ tw5) cd_X9_put.2 ⟨Nat.le_trans (Nat.le_of_ble_eq_true rfl) (Nat.le_add_right _ _), Nat.le_trans (Nat.le_of_ble_eq_true rfl) (Nat.le_add_right _ _)⟩, hU _ tw673, hU _ ts23⟩ (pw_preV hw Tq48 (by decide) rfl) rfl rfl hl.1 rfl (lv_room (Nat.le_of_ble_eq_true rfl)) dX6_readStep_221 ⟨Nat.zero_le _, Nat.zero_le _⟩) hw (fun H locs hw hx51 => ?_)
            have Ta0 : TY S_49 a0 6 := ty_ext hx51 Ta0
            have Ta1 : TY S_49 a1 10 := ty_ext hx51 Ta1
            have Ta2 : TY S_49 a2 1 := ty_ext hx51 Ta2
            have hE : Ext S0 S_49 := Ext.tr hE hx51
            refine lv_goto (tgt := 257) hx hb dX6_readStep_224 (by decide) ?_
            cases hm
            exact pw_vret hx hb hr hlk hw hE dX6_readStep_257
        · rw [if_neg h29] at hm
          refine lv_aload_n hx hb dX6_readStep_149 rfl (lv_at hl 1 rfl) ?_
          obtain ⟨q52, hq52, hm⟩ := bd_some hm
          have Tq52 : TY S_24 q52 9 := hw.wf.ref (k := 6) (j := 0) Ta0 (by decide) (by decide) hq52
          refine pg_rb (k := 6) (j := 0) (f := 600) hx hb hown hU iu6 hw Ta0 (by decide) rfl (hU _ tw309) rfl hq52 dX6_readStep_150 ?_
          refine lv_iload hx hb dX6_readStep_153 (lv_at hl 0 rfl) ?_
          refine lv_iconst (v := 0) hx hb dX6_readStep_155 (by decide) ?_
          refine lv_iconst (v := 3) hx hb dX6_readStep_156 (by decide) ?_
          obtain ⟨S_53, hq54, hm⟩ := bd_some hm
          refine pw_cv (va_runVN (As := [.int r4, .int 0, .int 3]) (rest := []) ⟨hx, hb, hml, hown, hU⟩ (c_X9_put l C X n S_24 hw.wf _ q52 r4 0 3 (Tq52) S_53 hq54) ⟨va_cnB (host := "WickNights") 3 hU (pq_g1 tc_X9_put) rfl rfl rfl (hw.nw 130 rfl) (hU _ tw5) cd_X9_put.2 ⟨Nat.le_trans (Nat.le_of_ble_eq_true rfl) (Nat.le_add_right _ _), Nat.le_trans (Nat.le_of_ble_eq_true rfl) (Nat.le_add_right _ _)⟩, hU _ tw673, hU _ ts23⟩ (pw_preV hw Tq52 (by decide) rfl) rfl rfl hl.1 rfl (lv_room (Nat.le_of_ble_eq_true rfl)) dX6_readStep_157 ⟨Nat.zero_le _, Nat.zero_le _⟩) hw (fun H locs hw hx55 => ?_)
          have Ta0 : TY S_53 a0 6 := ty_ext hx55 Ta0
          have Ta1 : TY S_53 a1 10 := ty_ext hx55 Ta1
          have Ta2 : TY S_53 a2 1 := ty_ext hx55 Ta2
          have hE : Ext S0 S_53 := Ext.tr hE hx55
          refine lv_aload_n hx hb dX6_readStep_160 rfl (lv_at hl 1 rfl) ?_
          obtain ⟨q56, hq56, hm⟩ := bd_some hm
          have Tq56 : TY S_53 q56 9 := hw.wf.ref (k := 6) (j := 0) Ta0 (by decide) (by decide) hq56
          refine pg_rb (k := 6) (j := 0) (f := 600) hx hb hown hU iu6 hw Ta0 (by decide) rfl (hU _ tw309) rfl hq56 dX6_readStep_161 ?_
          refine lv_iload hx hb dX6_readStep_164 (lv_at hl 0 rfl) ?_
          refine lv_iconst (v := 1) hx hb dX6_readStep_166 (by decide) ?_
          refine lv_aload_n hx hb dX6_readStep_167 rfl (lv_at hl 2 rfl) ?_
          refine lv_iconst (v := 0) hx hb dX6_readStep_168 (by decide) ?_
          refine lv_aload_n hx hb dX6_readStep_169 rfl (lv_at hl 3 rfl) ?_
          obtain ⟨q57, hq57, hm⟩ := bd_some hm
          have Tq57 : TY S_53 q57 9 := hw.wf.ref (k := 1) (j := 2) Ta2 (by decide) (by decide) hq57
          refine pgN_rb (k := 1) (j := 2) (f := 102) hx hb hown hU iu1 hw Ta2 (by decide) rfl 34 rfl rfl hq57 dX6_readStep_170 ?_
          refine pgN_i (k := 9) (j := 2) (f := 902) hx hb hown hU iu9 hw Tq57 (by decide) rfl 16 rfl rfl dX6_readStep_173 ?_
          refine lv_iconst (v := 1) hx hb dX6_readStep_176 (by decide) ?_
          refine lv_isub hx hb dX6_readStep_177 ?_
          obtain ⟨r60, S_58, hq59, hm⟩ := cb_some hm
          refine pw_ci (va_runVN (As := [.int 0, .int ((pI S_53 902 q57) - (1 : Int32))]) (rest := [.int 1, .int r4, .ref q56]) ⟨hx, hb, hml, hown, hU⟩ (c_X10_takeNumber l C X n S_53 hw.wf _ a1 0 ((pI S_53 902 q57) - (1 : Int32)) (Ta1) r60 S_58 hq59) ⟨va_cnB (host := "WickNights") 2 hU (pq_g1 tc_X10_takeNumber) rfl rfl rfl (hw.nw 128 rfl) (hU _ tw2) cd_X10_takeNumber.2 ⟨Nat.le_trans (Nat.le_of_ble_eq_true rfl) (Nat.le_add_right _ _), Nat.le_trans (Nat.le_of_ble_eq_true rfl) (Nat.le_add_right _ _)⟩, hU _ tw668, hU _ ts22⟩ (pw_preV hw Ta1 (by decide) rfl) rfl rfl hl.1 rfl (lv_room (Nat.le_of_ble_eq_true rfl)) dX6_readStep_178 ⟨Nat.zero_le _, Nat.zero_le _⟩) hw (fun H locs hw hx61 => ?_)
          have Tq56 : TY S_58 q56 9 := ty_ext hx61 Tq56
          have Ta0 : TY S_58 a0 6 := ty_ext hx61 Ta0
          have Ta1 : TY S_58 a1 10 := ty_ext hx61 Ta1
          have Ta2 : TY S_58 a2 1 := ty_ext hx61 Ta2
          have hE : Ext S0 S_58 := Ext.tr hE hx61
          obtain ⟨S_62, hq63, hm⟩ := bd_some hm
          refine pw_cv (va_runVN (As := [.int r4, .int 1, .int r60]) (rest := []) ⟨hx, hb, hml, hown, hU⟩ (c_X9_put l C X n S_58 hw.wf _ q56 r4 1 r60 (Tq56) S_62 hq63) ⟨va_cnB (host := "WickNights") 3 hU (pq_g1 tc_X9_put) rfl rfl rfl (hw.nw 130 rfl) (hU _ tw5) cd_X9_put.2 ⟨Nat.le_trans (Nat.le_of_ble_eq_true rfl) (Nat.le_add_right _ _), Nat.le_trans (Nat.le_of_ble_eq_true rfl) (Nat.le_add_right _ _)⟩, hU _ tw673, hU _ ts23⟩ (pw_preV hw Tq56 (by decide) rfl) rfl rfl hl.1 rfl (lv_room (Nat.le_of_ble_eq_true rfl)) dX6_readStep_181 ⟨Nat.zero_le _, Nat.zero_le _⟩) hw (fun H locs hw hx64 => ?_)
          have Ta0 : TY S_62 a0 6 := ty_ext hx64 Ta0
          have Ta1 : TY S_62 a1 10 := ty_ext hx64 Ta1
          have Ta2 : TY S_62 a2 1 := ty_ext hx64 Ta2
          have hE : Ext S0 S_62 := Ext.tr hE hx64
          refine lv_aload_n hx hb dX6_readStep_184 rfl (lv_at hl 1 rfl) ?_
          obtain ⟨q65, hq65, hm⟩ := bd_some hm
          have Tq65 : TY S_62 q65 9 := hw.wf.ref (k := 6) (j := 0) Ta0 (by decide) (by decide) hq65
          refine pg_rb (k := 6) (j := 0) (f := 600) hx hb hown hU iu6 hw Ta0 (by decide) rfl (hU _ tw309) rfl hq65 dX6_readStep_185 ?_
          refine lv_iload hx hb dX6_readStep_188 (lv_at hl 0 rfl) ?_
          refine lv_iconst (v := 2) hx hb dX6_readStep_190 (by decide) ?_
          refine lv_aload_n hx hb dX6_readStep_191 rfl (lv_at hl 2 rfl) ?_
          refine lv_iconst (v := 1) hx hb dX6_readStep_192 (by decide) ?_
          refine lv_bipush (v := 9) hx hb dX6_readStep_193 (by decide) ?_
          obtain ⟨r68, S_66, hq67, hm⟩ := cb_some hm
          refine pw_ci (va_runVN (As := [.int 1, .int 9]) (rest := [.int 2, .int r4, .ref q65]) ⟨hx, hb, hml, hown, hU⟩ (c_X10_takeNumber l C X n S_62 hw.wf _ a1 1 9 (Ta1) r68 S_66 hq67) ⟨va_cnB (host := "WickNights") 2 hU (pq_g1 tc_X10_takeNumber) rfl rfl rfl (hw.nw 128 rfl) (hU _ tw2) cd_X10_takeNumber.2 ⟨Nat.le_trans (Nat.le_of_ble_eq_true rfl) (Nat.le_add_right _ _), Nat.le_trans (Nat.le_of_ble_eq_true rfl) (Nat.le_add_right _ _)⟩, hU _ tw668, hU _ ts22⟩ (pw_preV hw Ta1 (by decide) rfl) rfl rfl hl.1 rfl (lv_room (Nat.le_of_ble_eq_true rfl)) dX6_readStep_195 ⟨Nat.zero_le _, Nat.zero_le _⟩) hw (fun H locs hw hx69 => ?_)
          have Tq65 : TY S_66 q65 9 := ty_ext hx69 Tq65
          have Ta0 : TY S_66 a0 6 := ty_ext hx69 Ta0
          have Ta1 : TY S_66 a1 10 := ty_ext hx69 Ta1
          have Ta2 : TY S_66 a2 1 := ty_ext hx69 Ta2
          have hE : Ext S0 S_66 := Ext.tr hE hx69
          obtain ⟨S_70, hq71, hm⟩ := bd_some hm
          refine pw_cv (va_runVN (As := [.int r4, .int 2, .int r68]) (rest := []) ⟨hx, hb, hml, hown, hU⟩ (c_X9_put l C X n S_66 hw.wf _ q65 r4 2 r68 (Tq65) S_70 hq71) ⟨va_cnB (host := "WickNights") 3 hU (pq_g1 tc_X9_put) rfl rfl rfl (hw.nw 130 rfl) (hU _ tw5) cd_X9_put.2 ⟨Nat.le_trans (Nat.le_of_ble_eq_true rfl) (Nat.le_add_right _ _), Nat.le_trans (Nat.le_of_ble_eq_true rfl) (Nat.le_add_right _ _)⟩, hU _ tw673, hU _ ts23⟩ (pw_preV hw Tq65 (by decide) rfl) rfl rfl hl.1 rfl (lv_room (Nat.le_of_ble_eq_true rfl)) dX6_readStep_198 ⟨Nat.zero_le _, Nat.zero_le _⟩) hw (fun H locs hw hx72 => ?_)
          have Ta0 : TY S_70 a0 6 := ty_ext hx72 Ta0
          have Ta1 : TY S_70 a1 10 := ty_ext hx72 Ta1
          have Ta2 : TY S_70 a2 1 := ty_ext hx72 Ta2
          have hE : Ext S0 S_70 := Ext.tr hE hx72
          refine lv_goto (tgt := 257) hx hb dX6_readStep_201 (by decide) ?_
          cases hm
          exact pw_vret hx hb hr hlk hw hE dX6_readStep_257
      · rw [if_neg h23] at hm
        refine lv_aload_n hx hb dX6_readStep_85 rfl (lv_at hl 1 rfl) ?_
        obtain ⟨q73, hq73, hm⟩ := bd_some hm
        have Tq73 : TY S_18 q73 9 := hw.wf.ref (k := 6) (j := 0) Ta0 (by decide) (by decide) hq73
        refine pg_rb (k := 6) (j := 0) (f := 600) hx hb hown hU iu6 hw Ta0 (by decide) rfl (hU _ tw309) rfl hq73 dX6_readStep_86 ?_
        refine lv_iload hx hb dX6_readStep_89 (lv_at hl 0 rfl) ?_
        refine lv_iconst (v := 0) hx hb dX6_readStep_91 (by decide) ?_
        refine lv_iconst (v := 2) hx hb dX6_readStep_92 (by decide) ?_
        obtain ⟨S_74, hq75, hm⟩ := bd_some hm
        refine pw_cv (va_runVN (As := [.int r4, .int 0, .int 2]) (rest := []) ⟨hx, hb, hml, hown, hU⟩ (c_X9_put l C X n S_18 hw.wf _ q73 r4 0 2 (Tq73) S_74 hq75) ⟨va_cnB (host := "WickNights") 3 hU (pq_g1 tc_X9_put) rfl rfl rfl (hw.nw 130 rfl) (hU _ tw5) cd_X9_put.2 ⟨Nat.le_trans (Nat.le_of_ble_eq_true rfl) (Nat.le_add_right _ _), Nat.le_trans (Nat.le_of_ble_eq_true rfl) (Nat.le_add_right _ _)⟩, hU _ tw673, hU _ ts23⟩ (pw_preV hw Tq73 (by decide) rfl) rfl rfl hl.1 rfl (lv_room (Nat.le_of_ble_eq_true rfl)) dX6_readStep_93 ⟨Nat.zero_le _, Nat.zero_le _⟩) hw (fun H locs hw hx76 => ?_)
        have Ta0 : TY S_74 a0 6 := ty_ext hx76 Ta0
        have Ta1 : TY S_74 a1 10 := ty_ext hx76 Ta1
        have Ta2 : TY S_74 a2 1 := ty_ext hx76 Ta2
        have hE : Ext S0 S_74 := Ext.tr hE hx76
        refine lv_aload_n hx hb dX6_readStep_96 rfl (lv_at hl 1 rfl) ?_
        obtain ⟨q77, hq77, hm⟩ := bd_some hm
        have Tq77 : TY S_74 q77 9 := hw.wf.ref (k := 6) (j := 0) Ta0 (by decide) (by decide) hq77
        refine pg_rb (k := 6) (j := 0) (f := 600) hx hb hown hU iu6 hw Ta0 (by decide) rfl (hU _ tw309) rfl hq77 dX6_readStep_97 ?_
        refine lv_iload hx hb dX6_readStep_100 (lv_at hl 0 rfl) ?_
        refine lv_iconst (v := 1) hx hb dX6_readStep_102 (by decide) ?_
        refine lv_aload_n hx hb dX6_readStep_103 rfl (lv_at hl 2 rfl) ?_
        refine lv_iconst (v := 0) hx hb dX6_readStep_104 (by decide) ?_
        refine lv_aload_n hx hb dX6_readStep_105 rfl (lv_at hl 3 rfl) ?_
        obtain ⟨q78, hq78, hm⟩ := bd_some hm
        have Tq78 : TY S_74 q78 9 := hw.wf.ref (k := 1) (j := 0) Ta2 (by decide) (by decide) hq78
        refine pgN_rb (k := 1) (j := 0) (f := 100) hx hb hown hU iu1 hw Ta2 (by decide) rfl 23 rfl rfl hq78 dX6_readStep_106 ?_
        refine pgN_i (k := 9) (j := 2) (f := 902) hx hb hown hU iu9 hw Tq78 (by decide) rfl 16 rfl rfl dX6_readStep_109 ?_
        refine lv_iconst (v := 1) hx hb dX6_readStep_112 (by decide) ?_
        refine lv_isub hx hb dX6_readStep_113 ?_
        obtain ⟨r81, S_79, hq80, hm⟩ := cb_some hm
        refine pw_ci (va_runVN (As := [.int 0, .int ((pI S_74 902 q78) - (1 : Int32))]) (rest := [.int 1, .int r4, .ref q77]) ⟨hx, hb, hml, hown, hU⟩ (c_X10_takeNumber l C X n S_74 hw.wf _ a1 0 ((pI S_74 902 q78) - (1 : Int32)) (Ta1) r81 S_79 hq80) ⟨va_cnB (host := "WickNights") 2 hU (pq_g1 tc_X10_takeNumber) rfl rfl rfl (hw.nw 128 rfl) (hU _ tw2) cd_X10_takeNumber.2 ⟨Nat.le_trans (Nat.le_of_ble_eq_true rfl) (Nat.le_add_right _ _), Nat.le_trans (Nat.le_of_ble_eq_true rfl) (Nat.le_add_right _ _)⟩, hU _ tw668, hU _ ts22⟩ (pw_preV hw Ta1 (by decide) rfl) rfl rfl hl.1 rfl (lv_room (Nat.le_of_ble_eq_true rfl)) dX6_readStep_114 ⟨Nat.zero_le _, Nat.zero_le _⟩) hw (fun H locs hw hx82 => ?_)
        have Tq77 : TY S_79 q77 9 := ty_ext hx82 Tq77
        have Ta0 : TY S_79 a0 6 := ty_ext hx82 Ta0
        have Ta1 : TY S_79 a1 10 := ty_ext hx82 Ta1
        have Ta2 : TY S_79 a2 1 := ty_ext hx82 Ta2
        have hE : Ext S0 S_79 := Ext.tr hE hx82
        obtain ⟨S_83, hq84, hm⟩ := bd_some hm
        refine pw_cv (va_runVN (As := [.int r4, .int 1, .int r81]) (rest := []) ⟨hx, hb, hml, hown, hU⟩ (c_X9_put l C X n S_79 hw.wf _ q77 r4 1 r81 (Tq77) S_83 hq84) ⟨va_cnB (host := "WickNights") 3 hU (pq_g1 tc_X9_put) rfl rfl rfl (hw.nw 130 rfl) (hU _ tw5) cd_X9_put.2 ⟨Nat.le_trans (Nat.le_of_ble_eq_true rfl) (Nat.le_add_right _ _), Nat.le_trans (Nat.le_of_ble_eq_true rfl) (Nat.le_add_right _ _)⟩, hU _ tw673, hU _ ts23⟩ (pw_preV hw Tq77 (by decide) rfl) rfl rfl hl.1 rfl (lv_room (Nat.le_of_ble_eq_true rfl)) dX6_readStep_117 ⟨Nat.zero_le _, Nat.zero_le _⟩) hw (fun H locs hw hx85 => ?_)
        have Ta0 : TY S_83 a0 6 := ty_ext hx85 Ta0
        have Ta1 : TY S_83 a1 10 := ty_ext hx85 Ta1
        have Ta2 : TY S_83 a2 1 := ty_ext hx85 Ta2
        have hE : Ext S0 S_83 := Ext.tr hE hx85
        refine lv_aload_n hx hb dX6_readStep_120 rfl (lv_at hl 1 rfl) ?_
        obtain ⟨q86, hq86, hm⟩ := bd_some hm
        have Tq86 : TY S_83 q86 9 := hw.wf.ref (k := 6) (j := 0) Ta0 (by decide) (by decide) hq86
        refine pg_rb (k := 6) (j := 0) (f := 600) hx hb hown hU iu6 hw Ta0 (by decide) rfl (hU _ tw309) rfl hq86 dX6_readStep_121 ?_
        refine lv_iload hx hb dX6_readStep_124 (lv_at hl 0 rfl) ?_
        refine lv_iconst (v := 2) hx hb dX6_readStep_126 (by decide) ?_
        refine lv_aload_n hx hb dX6_readStep_127 rfl (lv_at hl 2 rfl) ?_
        refine lv_iconst (v := 1) hx hb dX6_readStep_128 (by decide) ?_
        refine lv_bipush (v := 99) hx hb dX6_readStep_129 (by decide) ?_
        obtain ⟨r89, S_87, hq88, hm⟩ := cb_some hm
        refine pw_ci (va_runVN (As := [.int 1, .int 99]) (rest := [.int 2, .int r4, .ref q86]) ⟨hx, hb, hml, hown, hU⟩ (c_X10_takeNumber l C X n S_83 hw.wf _ a1 1 99 (Ta1) r89 S_87 hq88) ⟨va_cnB (host := "WickNights") 2 hU (pq_g1 tc_X10_takeNumber) rfl rfl rfl (hw.nw 128 rfl) (hU _ tw2) cd_X10_takeNumber.2 ⟨Nat.le_trans (Nat.le_of_ble_eq_true rfl) (Nat.le_add_right _ _), Nat.le_trans (Nat.le_of_ble_eq_true rfl) (Nat.le_add_right _ _)⟩, hU _ tw668, hU _ ts22⟩ (pw_preV hw Ta1 (by decide) rfl) rfl rfl hl.1 rfl (lv_room (Nat.le_of_ble_eq_true rfl)) dX6_readStep_131 ⟨Nat.zero_le _, Nat.zero_le _⟩) hw (fun H locs hw hx90 => ?_)
        have Tq86 : TY S_87 q86 9 := ty_ext hx90 Tq86
        have Ta0 : TY S_87 a0 6 := ty_ext hx90 Ta0
        have Ta1 : TY S_87 a1 10 := ty_ext hx90 Ta1
        have Ta2 : TY S_87 a2 1 := ty_ext hx90 Ta2
        have hE : Ext S0 S_87 := Ext.tr hE hx90
        obtain ⟨S_91, hq92, hm⟩ := bd_some hm
        refine pw_cv (va_runVN (As := [.int r4, .int 2, .int r89]) (rest := []) ⟨hx, hb, hml, hown, hU⟩ (c_X9_put l C X n S_87 hw.wf _ q86 r4 2 r89 (Tq86) S_91 hq92) ⟨va_cnB (host := "WickNights") 3 hU (pq_g1 tc_X9_put) rfl rfl rfl (hw.nw 130 rfl) (hU _ tw5) cd_X9_put.2 ⟨Nat.le_trans (Nat.le_of_ble_eq_true rfl) (Nat.le_add_right _ _), Nat.le_trans (Nat.le_of_ble_eq_true rfl) (Nat.le_add_right _ _)⟩, hU _ tw673, hU _ ts23⟩ (pw_preV hw Tq86 (by decide) rfl) rfl rfl hl.1 rfl (lv_room (Nat.le_of_ble_eq_true rfl)) dX6_readStep_134 ⟨Nat.zero_le _, Nat.zero_le _⟩) hw (fun H locs hw hx93 => ?_)
        have Ta0 : TY S_91 a0 6 := ty_ext hx93 Ta0
        have Ta1 : TY S_91 a1 10 := ty_ext hx93 Ta1
        have Ta2 : TY S_91 a2 1 := ty_ext hx93 Ta2
        have hE : Ext S0 S_91 := Ext.tr hE hx93
        refine lv_goto (tgt := 257) hx hb dX6_readStep_137 (by decide) ?_
        cases hm
        exact pw_vret hx hb hr hlk hw hE dX6_readStep_257
    · rw [if_neg h17] at hm
      refine lv_aload_n hx hb dX6_readStep_38 rfl (lv_at hl 1 rfl) ?_
      obtain ⟨q94, hq94, hm⟩ := bd_some hm
      have Tq94 : TY S_12 q94 9 := hw.wf.ref (k := 6) (j := 0) Ta0 (by decide) (by decide) hq94
      refine pg_rb (k := 6) (j := 0) (f := 600) hx hb hown hU iu6 hw Ta0 (by decide) rfl (hU _ tw309) rfl hq94 dX6_readStep_39 ?_
      refine lv_iload hx hb dX6_readStep_42 (lv_at hl 0 rfl) ?_
      refine lv_iconst (v := 0) hx hb dX6_readStep_44 (by decide) ?_
      refine lv_iconst (v := 1) hx hb dX6_readStep_45 (by decide) ?_
      obtain ⟨S_95, hq96, hm⟩ := bd_some hm
      refine pw_cv (va_runVN (As := [.int r4, .int 0, .int 1]) (rest := []) ⟨hx, hb, hml, hown, hU⟩ (c_X9_put l C X n S_12 hw.wf _ q94 r4 0 1 (Tq94) S_95 hq96) ⟨va_cnB (host := "WickNights") 3 hU (pq_g1 tc_X9_put) rfl rfl rfl (hw.nw 130 rfl) (hU _ tw5) cd_X9_put.2 ⟨Nat.le_trans (Nat.le_of_ble_eq_true rfl) (Nat.le_add_right _ _), Nat.le_trans (Nat.le_of_ble_eq_true rfl) (Nat.le_add_right _ _)⟩, hU _ tw673, hU _ ts23⟩ (pw_preV hw Tq94 (by decide) rfl) rfl rfl hl.1 rfl (lv_room (Nat.le_of_ble_eq_true rfl)) dX6_readStep_46 ⟨Nat.zero_le _, Nat.zero_le _⟩) hw (fun H locs hw hx97 => ?_)
      have Ta0 : TY S_95 a0 6 := ty_ext hx97 Ta0
      have Ta1 : TY S_95 a1 10 := ty_ext hx97 Ta1
      have Ta2 : TY S_95 a2 1 := ty_ext hx97 Ta2
      have hE : Ext S0 S_95 := Ext.tr hE hx97
      refine lv_aload_n hx hb dX6_readStep_49 rfl (lv_at hl 1 rfl) ?_
      obtain ⟨q98, hq98, hm⟩ := bd_some hm
      have Tq98 : TY S_95 q98 9 := hw.wf.ref (k := 6) (j := 0) Ta0 (by decide) (by decide) hq98
      refine pg_rb (k := 6) (j := 0) (f := 600) hx hb hown hU iu6 hw Ta0 (by decide) rfl (hU _ tw309) rfl hq98 dX6_readStep_50 ?_
      refine lv_iload hx hb dX6_readStep_53 (lv_at hl 0 rfl) ?_
      refine lv_iconst (v := 1) hx hb dX6_readStep_55 (by decide) ?_
      refine lv_aload_n hx hb dX6_readStep_56 rfl (lv_at hl 2 rfl) ?_
      refine lv_iconst (v := 0) hx hb dX6_readStep_57 (by decide) ?_
      refine lv_aload_n hx hb dX6_readStep_58 rfl (lv_at hl 3 rfl) ?_
      obtain ⟨q99, hq99, hm⟩ := bd_some hm
      have Tq99 : TY S_95 q99 9 := hw.wf.ref (k := 1) (j := 1) Ta2 (by decide) (by decide) hq99
      refine pgN_rb (k := 1) (j := 1) (f := 101) hx hb hown hU iu1 hw Ta2 (by decide) rfl 29 rfl rfl hq99 dX6_readStep_59 ?_
      refine pgN_i (k := 9) (j := 2) (f := 902) hx hb hown hU iu9 hw Tq99 (by decide) rfl 16 rfl rfl dX6_readStep_62 ?_
      refine lv_iconst (v := 1) hx hb dX6_readStep_65 (by decide) ?_
      refine lv_isub hx hb dX6_readStep_66 ?_
      obtain ⟨r102, S_100, hq101, hm⟩ := cb_some hm
      refine pw_ci (va_runVN (As := [.int 0, .int ((pI S_95 902 q99) - (1 : Int32))]) (rest := [.int 1, .int r4, .ref q98]) ⟨hx, hb, hml, hown, hU⟩ (c_X10_takeNumber l C X n S_95 hw.wf _ a1 0 ((pI S_95 902 q99) - (1 : Int32)) (Ta1) r102 S_100 hq101) ⟨va_cnB (host := "WickNights") 2 hU (pq_g1 tc_X10_takeNumber) rfl rfl rfl (hw.nw 128 rfl) (hU _ tw2) cd_X10_takeNumber.2 ⟨Nat.le_trans (Nat.le_of_ble_eq_true rfl) (Nat.le_add_right _ _), Nat.le_trans (Nat.le_of_ble_eq_true rfl) (Nat.le_add_right _ _)⟩, hU _ tw668, hU _ ts22⟩ (pw_preV hw Ta1 (by decide) rfl) rfl rfl hl.1 rfl (lv_room (Nat.le_of_ble_eq_true rfl)) dX6_readStep_67 ⟨Nat.zero_le _, Nat.zero_le _⟩) hw (fun H locs hw hx103 => ?_)
      have Tq98 : TY S_100 q98 9 := ty_ext hx103 Tq98
      have Ta0 : TY S_100 a0 6 := ty_ext hx103 Ta0
      have Ta1 : TY S_100 a1 10 := ty_ext hx103 Ta1
      have Ta2 : TY S_100 a2 1 := ty_ext hx103 Ta2
      have hE : Ext S0 S_100 := Ext.tr hE hx103
      obtain ⟨S_104, hq105, hm⟩ := bd_some hm
      refine pw_cv (va_runVN (As := [.int r4, .int 1, .int r102]) (rest := []) ⟨hx, hb, hml, hown, hU⟩ (c_X9_put l C X n S_100 hw.wf _ q98 r4 1 r102 (Tq98) S_104 hq105) ⟨va_cnB (host := "WickNights") 3 hU (pq_g1 tc_X9_put) rfl rfl rfl (hw.nw 130 rfl) (hU _ tw5) cd_X9_put.2 ⟨Nat.le_trans (Nat.le_of_ble_eq_true rfl) (Nat.le_add_right _ _), Nat.le_trans (Nat.le_of_ble_eq_true rfl) (Nat.le_add_right _ _)⟩, hU _ tw673, hU _ ts23⟩ (pw_preV hw Tq98 (by decide) rfl) rfl rfl hl.1 rfl (lv_room (Nat.le_of_ble_eq_true rfl)) dX6_readStep_70 ⟨Nat.zero_le _, Nat.zero_le _⟩) hw (fun H locs hw hx106 => ?_)
      have Ta0 : TY S_104 a0 6 := ty_ext hx106 Ta0
      have Ta1 : TY S_104 a1 10 := ty_ext hx106 Ta1
      have Ta2 : TY S_104 a2 1 := ty_ext hx106 Ta2
      have hE : Ext S0 S_104 := Ext.tr hE hx106
      refine lv_goto (tgt := 257) hx hb dX6_readStep_73 (by decide) ?_
      cases hm
      exact pw_vret hx hb hr hlk hw hE dX6_readStep_257
  · rw [if_neg h11] at hm
    refine lv_aload_n hx hb dX6_readStep_18 rfl (lv_at hl 1 rfl) ?_
    refine lv_aload_n hx hb dX6_readStep_19 rfl (lv_at hl 2 rfl) ?_
    refine lv_aload_n hx hb dX6_readStep_20 rfl (lv_at hl 3 rfl) ?_
    refine lv_iload hx hb dX6_readStep_21 (lv_at hl 0 rfl) ?_
    obtain ⟨S_107, hq108, hm⟩ := bd_some hm
    refine pw_cv (va_runV (As := [.ref a1, .ref a2, .int r4]) (rest := []) ⟨hx, hb, hml, hown, hU⟩ (c_X6_readCarry l C X n S_6 hw.wf _ a0 a1 a2 r4 (Ta0) (Ta1) (Ta2) S_107 hq108) (cwV 3 hU (pq_gV tw820 tw822 ts47 tw10 tc_X6_readCarry) rfl rfl rfl cd_X6_readCarry ⟨Nat.le_trans (Nat.le_of_ble_eq_true rfl) (Nat.le_add_right _ _), Nat.le_trans (Nat.le_of_ble_eq_true rfl) (Nat.le_add_right _ _)⟩) (pw_preV hw Ta0 (by decide) rfl) rfl rfl hl.1 rfl (lv_room (Nat.le_of_ble_eq_true rfl)) dX6_readStep_23 ⟨Nat.zero_le _, Nat.zero_le _⟩) hw (fun H locs hw hx109 => ?_)
    have Ta0 : TY S_107 a0 6 := ty_ext hx109 Ta0
    have Ta1 : TY S_107 a1 10 := ty_ext hx109 Ta1
    have Ta2 : TY S_107 a2 1 := ty_ext hx109 Ta2
    have hE : Ext S0 S_107 := Ext.tr hE hx109
    refine lv_goto (tgt := 257) hx hb dX6_readStep_26 (by decide) ?_
    cases hm
    exact pw_vret hx hb hr hlk hw hE dX6_readStep_257
def g_X6_readAgain (n : Nat) (rec : (Nat → Nat → Nat → Int32 → pq_S → Option pq_S) × (Nat → Nat → Nat → Int32 → pq_S → Option pq_S) × (Nat → Nat → Nat → Int32 → Int32 → pq_S → Option pq_S)) (a0 : Nat) (a1 : Nat) (a2 : Nat) (x3 : Int32) (x4 : Int32) (S0 : pq_S) : Option pq_S := if x4 < 6 then Option.bind (pR S0 600 a0) fun q2 => Option.bind (m_X9_put n q2 x3 0 5 S0) fun S_3 => Option.bind (pR S_3 600 a0) fun q6 => cb (m_X10_takeNumber n a1 0 20 S_3) fun r9 S_7 => Option.bind (m_X9_put n q6 x3 1 r9 S_7) fun S_11 => Option.bind (m_X10_takeSign n a1 91 S_11) fun S_14 => Option.bind (rec.1 a0 a1 a2 (x4 + (1 : Int32)) S_14) fun S_17 => Option.bind (m_X10_takeSign n a1 93 S_17) fun S_20 => Option.bind (pR S_20 600 a0) fun q23 => Option.bind (pR S_20 600 a0) fun q24 => Option.bind (m_X9_put n q23 x3 2 (pI S_20 902 q24) S_20) fun S_25 => some S_25 else Option.bind (m_X10_refuse n a1 3 (pI S0 1004 a1) S0) fun S_28 => some S_28
set_option maxHeartbeats 4000000 in
set_option maxRecDepth 100000 in
theorem cg_X6_readAgain (n d : Nat) (rec : (Nat → Nat → Nat → Int32 → pq_S → Option pq_S) × (Nat → Nat → Nat → Int32 → pq_S → Option pq_S) × (Nat → Nat → Nat → Int32 → Int32 → pq_S → Option pq_S)) (hrec : HG_proP n d rec) (l : Launch) (C : pq_C) (X : va_W) (S0 : pq_S) (hF : WF S0) (sz : Nat) (a0 : Nat) (a1 : Nat) (a2 : Nat) (x3 : Int32) (x4 : Int32) (Ta0 : TY S0 a0 6) (Ta1 : TY S0 a1 10) (Ta2 : TY S0 a2 1) (S1 : pq_S) (hm : g_X6_readAgain n rec a0 a1 a2 x3 x4 S0 = some S1) : MV l yX6_readAgain (.code yX6_readAgain cX6_readAgain 5 none :: pq_U) (rmg_proP (d + 1)) C X S0 sz [.ref a0, .ref a1, .ref a2, .int x3, .int x4] S1 0 0 := by
  refine Met.ofW (cc := cX6_readAgain) (maxL := 5) (ret := none) (by decide) rfl ?_
  intro p e s m args below meth c s₁ B hml hv
  obtain ⟨rfl, hv⟩ := hv
  have hsz := hv.1
  subst hsz
  have hw := pw_entry hF hv
  have hts := atoms_spec (ws := .code yX6_readAgain cX6_readAgain 5 none :: pq_U) B.pre
  have hU : ∀ w ∈ pq_U, w.before _ s = true := fun w h => hts w (List.mem_cons_of_mem _ h)
  have hx := B.exec
  have hb := B.bytes
  have hr := B.returns
  have hown : s.vm.findClass RX6 = some m.cls := findClass_of_methodNamed B.named
  have hlk := B.notSynchronized
  have hl := lv_entry ([.ref a0, .ref a1, .ref a2, .int x3, .int x4]) (n := 5) (Nat.le_of_ble_eq_true rfl)
  rw [lg_entry_eq]
  generalize (lg_sl ([.ref a0, .ref a1, .ref a2, .int x3, .int x4]) ++ List.replicate (5 - (lg_sl ([.ref a0, .ref a1, .ref a2, .int x3, .int x4])).length) Slot.unset).toArray = ls at hl ⊢
  have hl : lv_has ls 5 [(0, .ref a0), (1, .ref a1), (2, .ref a2), (3, .int x3), (4, .int x4)] := hl
  have hE : Ext S0 S0 := Ext.rf _
  have cx : Cx p s m _ meth c cX6_readAgain 5 RX6 none := ⟨hx, hb, hml, hown, hU, hr, hlk⟩
  rw [g_X6_readAgain] at hm
  refine lv_iload hx hb dX6_readAgain_0 (lv_at hl 4 rfl) ?_
  refine lv_bipush (v := 6) hx hb dX6_readAgain_2 (by decide) ?_
  refine lv_icmp_lt (tgt := 17) hx hb dX6_readAgain_4 (by decide) (fun h1 => ?_) (fun h1 => ?_)
  · rw [if_pos h1] at hm
    refine lv_aload_n hx hb dX6_readAgain_17 rfl (lv_at hl 0 rfl) ?_
    obtain ⟨q2, hq2, hm⟩ := bd_some hm
    have Tq2 : TY S0 q2 9 := hw.wf.ref (k := 6) (j := 0) Ta0 (by decide) (by decide) hq2
    refine pg_rb (k := 6) (j := 0) (f := 600) hx hb hown hU iu6 hw Ta0 (by decide) rfl (hU _ tw309) rfl hq2 dX6_readAgain_18 ?_
    refine lv_iload_n hx hb dX6_readAgain_21 rfl (lv_at hl 3 rfl) ?_
    refine lv_iconst (v := 0) hx hb dX6_readAgain_22 (by decide) ?_
    refine lv_iconst (v := 5) hx hb dX6_readAgain_23 (by decide) ?_
    obtain ⟨S_3, hq4, hm⟩ := bd_some hm
    refine pw_cv (va_runVN (As := [.int x3, .int 0, .int 5]) (rest := []) ⟨hx, hb, hml, hown, hU⟩ (c_X9_put l C X n S0 hw.wf _ q2 x3 0 5 (Tq2) S_3 hq4) ⟨va_cnB (host := "WickNights") 3 hU (pq_g1 tc_X9_put) rfl rfl rfl (hw.nw 130 rfl) (hU _ tw5) cd_X9_put.2 ⟨Nat.le_trans (Nat.le_of_ble_eq_true rfl) (Nat.le_add_right _ _), Nat.le_trans (Nat.le_of_ble_eq_true rfl) (Nat.le_add_right _ _)⟩, hU _ tw673, hU _ ts23⟩ (pw_preV hw Tq2 (by decide) rfl) rfl rfl hl.1 rfl (lv_room (Nat.le_of_ble_eq_true rfl)) dX6_readAgain_24 ⟨Nat.zero_le _, Nat.zero_le _⟩) hw (fun H locs hw hx5 => ?_)
    have Ta0 : TY S_3 a0 6 := ty_ext hx5 Ta0
    have Ta1 : TY S_3 a1 10 := ty_ext hx5 Ta1
    have Ta2 : TY S_3 a2 1 := ty_ext hx5 Ta2
    have hE : Ext S0 S_3 := Ext.tr hE hx5
    refine lv_aload_n hx hb dX6_readAgain_27 rfl (lv_at hl 0 rfl) ?_
    obtain ⟨q6, hq6, hm⟩ := bd_some hm
    have Tq6 : TY S_3 q6 9 := hw.wf.ref (k := 6) (j := 0) Ta0 (by decide) (by decide) hq6
    refine pg_rb (k := 6) (j := 0) (f := 600) hx hb hown hU iu6 hw Ta0 (by decide) rfl (hU _ tw309) rfl hq6 dX6_readAgain_28 ?_
    refine lv_iload_n hx hb dX6_readAgain_31 rfl (lv_at hl 3 rfl) ?_
    refine lv_iconst (v := 1) hx hb dX6_readAgain_32 (by decide) ?_
    refine lv_aload_n hx hb dX6_readAgain_33 rfl (lv_at hl 1 rfl) ?_
    refine lv_iconst (v := 0) hx hb dX6_readAgain_34 (by decide) ?_
    refine lv_bipush (v := 20) hx hb dX6_readAgain_35 (by decide) ?_
    obtain ⟨r9, S_7, hq8, hm⟩ := cb_some hm
    refine pw_ci (va_runVN (As := [.int 0, .int 20]) (rest := [.int 1, .int x3, .ref q6]) ⟨hx, hb, hml, hown, hU⟩ (c_X10_takeNumber l C X n S_3 hw.wf _ a1 0 20 (Ta1) r9 S_7 hq8) ⟨va_cnB (host := "WickNights") 2 hU (pq_g1 tc_X10_takeNumber) rfl rfl rfl (hw.nw 128 rfl) (hU _ tw2) cd_X10_takeNumber.2 ⟨Nat.le_trans (Nat.le_of_ble_eq_true rfl) (Nat.le_add_right _ _), Nat.le_trans (Nat.le_of_ble_eq_true rfl) (Nat.le_add_right _ _)⟩, hU _ tw668, hU _ ts22⟩ (pw_preV hw Ta1 (by decide) rfl) rfl rfl hl.1 rfl (lv_room (Nat.le_of_ble_eq_true rfl)) dX6_readAgain_37 ⟨Nat.zero_le _, Nat.zero_le _⟩) hw (fun H locs hw hx10 => ?_)
    have Tq6 : TY S_7 q6 9 := ty_ext hx10 Tq6
    have Ta0 : TY S_7 a0 6 := ty_ext hx10 Ta0
    have Ta1 : TY S_7 a1 10 := ty_ext hx10 Ta1
    have Ta2 : TY S_7 a2 1 := ty_ext hx10 Ta2
    have hE : Ext S0 S_7 := Ext.tr hE hx10
    obtain ⟨S_11, hq12, hm⟩ := bd_some hm
    refine pw_cv (va_runVN (As := [.int x3, .int 1, .int r9]) (rest := []) ⟨hx, hb, hml, hown, hU⟩ (c_X9_put l C X n S_7 hw.wf _ q6 x3 1 r9 (Tq6) S_11 hq12) ⟨va_cnB (host := "WickNights") 3 hU (pq_g1 tc_X9_put) rfl rfl rfl (hw.nw 130 rfl) (hU _ tw5) cd_X9_put.2 ⟨Nat.le_trans (Nat.le_of_ble_eq_true rfl) (Nat.le_add_right _ _), Nat.le_trans (Nat.le_of_ble_eq_true rfl) (Nat.le_add_right _ _)⟩, hU _ tw673, hU _ ts23⟩ (pw_preV hw Tq6 (by decide) rfl) rfl rfl hl.1 rfl (lv_room (Nat.le_of_ble_eq_true rfl)) dX6_readAgain_40 ⟨Nat.zero_le _, Nat.zero_le _⟩) hw (fun H locs hw hx13 => ?_)
    have Ta0 : TY S_11 a0 6 := ty_ext hx13 Ta0
    have Ta1 : TY S_11 a1 10 := ty_ext hx13 Ta1
    have Ta2 : TY S_11 a2 1 := ty_ext hx13 Ta2
    have hE : Ext S0 S_11 := Ext.tr hE hx13
    refine lv_aload_n hx hb dX6_readAgain_43 rfl (lv_at hl 1 rfl) ?_
    refine lv_bipush (v := 91) hx hb dX6_readAgain_44 (by decide) ?_
    obtain ⟨S_14, hq15, hm⟩ := bd_some hm
    refine pw_cv (va_runVN (As := [.int 91]) (rest := []) ⟨hx, hb, hml, hown, hU⟩ (c_X10_takeSign l C X n S_11 hw.wf _ a1 91 (Ta1) S_14 hq15) ⟨va_cnB (host := "WickNights") 1 hU (pq_g1 tc_X10_takeSign) rfl rfl rfl (hw.nw 131 rfl) (hU _ tw2) cd_X10_takeSign.2 ⟨Nat.le_trans (Nat.le_of_ble_eq_true rfl) (Nat.le_add_right _ _), Nat.le_trans (Nat.le_of_ble_eq_true rfl) (Nat.le_add_right _ _)⟩, hU _ tw697, hU _ ts27⟩ (pw_preV hw Ta1 (by decide) rfl) rfl rfl hl.1 rfl (lv_room (Nat.le_of_ble_eq_true rfl)) dX6_readAgain_46 ⟨Nat.zero_le _, Nat.zero_le _⟩) hw (fun H locs hw hx16 => ?_)
    have Ta0 : TY S_14 a0 6 := ty_ext hx16 Ta0
    have Ta1 : TY S_14 a1 10 := ty_ext hx16 Ta1
    have Ta2 : TY S_14 a2 1 := ty_ext hx16 Ta2
    have hE : Ext S0 S_14 := Ext.tr hE hx16
    refine lv_aload_n hx hb dX6_readAgain_49 rfl (lv_at hl 0 rfl) ?_
    refine lv_aload_n hx hb dX6_readAgain_50 rfl (lv_at hl 1 rfl) ?_
    refine lv_aload_n hx hb dX6_readAgain_51 rfl (lv_at hl 2 rfl) ?_
    refine lv_iload hx hb dX6_readAgain_52 (lv_at hl 4 rfl) ?_
    refine lv_iconst (v := 1) hx hb dX6_readAgain_54 (by decide) ?_
    refine lv_iadd hx hb dX6_readAgain_55 ?_
    obtain ⟨S_17, hq18, hm⟩ := bd_some hm
    refine pw_cv (va_runV (As := [.ref a1, .ref a2, .int (x4 + (1 : Int32))]) (rest := []) ⟨hx, hb, hml, hown, hU⟩ (hrec.1 l C X S_14 hw.wf _ a0 a1 a2 (x4 + (1 : Int32)) (Ta0) (Ta1) (Ta2) S_17 hq18) (cwV 3 hU (pq_gV tw806 tw808 ts45 tw10 tc_X6_readSteps) rfl rfl rfl cd_X6_readSteps ⟨Nat.le_refl _, rmg_proP_l d (by decide)⟩) (pw_preV hw Ta0 (by decide) rfl) rfl rfl hl.1 rfl (lv_room (Nat.le_of_ble_eq_true rfl)) dX6_readAgain_56 ⟨Nat.zero_le _, Nat.zero_le _⟩) hw (fun H locs hw hx19 => ?_)
    have Ta0 : TY S_17 a0 6 := ty_ext hx19 Ta0
    have Ta1 : TY S_17 a1 10 := ty_ext hx19 Ta1
    have Ta2 : TY S_17 a2 1 := ty_ext hx19 Ta2
    have hE : Ext S0 S_17 := Ext.tr hE hx19
    refine lv_aload_n hx hb dX6_readAgain_59 rfl (lv_at hl 1 rfl) ?_
    refine lv_bipush (v := 93) hx hb dX6_readAgain_60 (by decide) ?_
    obtain ⟨S_20, hq21, hm⟩ := bd_some hm
    refine pw_cv (va_runVN (As := [.int 93]) (rest := []) ⟨hx, hb, hml, hown, hU⟩ (c_X10_takeSign l C X n S_17 hw.wf _ a1 93 (Ta1) S_20 hq21) ⟨va_cnB (host := "WickNights") 1 hU (pq_g1 tc_X10_takeSign) rfl rfl rfl (hw.nw 131 rfl) (hU _ tw2) cd_X10_takeSign.2 ⟨Nat.le_trans (Nat.le_of_ble_eq_true rfl) (Nat.le_add_right _ _), Nat.le_trans (Nat.le_of_ble_eq_true rfl) (Nat.le_add_right _ _)⟩, hU _ tw697, hU _ ts27⟩ (pw_preV hw Ta1 (by decide) rfl) rfl rfl hl.1 rfl (lv_room (Nat.le_of_ble_eq_true rfl)) dX6_readAgain_62 ⟨Nat.zero_le _, Nat.zero_le _⟩) hw (fun H locs hw hx22 => ?_)
    have Ta0 : TY S_20 a0 6 := ty_ext hx22 Ta0
    have Ta1 : TY S_20 a1 10 := ty_ext hx22 Ta1
    have Ta2 : TY S_20 a2 1 := ty_ext hx22 Ta2
    have hE : Ext S0 S_20 := Ext.tr hE hx22
    refine lv_aload_n hx hb dX6_readAgain_65 rfl (lv_at hl 0 rfl) ?_
    obtain ⟨q23, hq23, hm⟩ := bd_some hm
    have Tq23 : TY S_20 q23 9 := hw.wf.ref (k := 6) (j := 0) Ta0 (by decide) (by decide) hq23
    refine pg_rb (k := 6) (j := 0) (f := 600) hx hb hown hU iu6 hw Ta0 (by decide) rfl (hU _ tw309) rfl hq23 dX6_readAgain_66 ?_
    refine lv_iload_n hx hb dX6_readAgain_69 rfl (lv_at hl 3 rfl) ?_
    refine lv_iconst (v := 2) hx hb dX6_readAgain_70 (by decide) ?_
    refine lv_aload_n hx hb dX6_readAgain_71 rfl (lv_at hl 0 rfl) ?_
    obtain ⟨q24, hq24, hm⟩ := bd_some hm
    have Tq24 : TY S_20 q24 9 := hw.wf.ref (k := 6) (j := 0) Ta0 (by decide) (by decide) hq24
    refine pg_rb (k := 6) (j := 0) (f := 600) hx hb hown hU iu6 hw Ta0 (by decide) rfl (hU _ tw309) rfl hq24 dX6_readAgain_72 ?_
    refine pgN_i (k := 9) (j := 2) (f := 902) hx hb hown hU iu9 hw Tq24 (by decide) rfl 16 rfl rfl dX6_readAgain_75 ?_
    obtain ⟨S_25, hq26, hm⟩ := bd_some hm
    refine pw_cv (va_runVN (As := [.int x3, .int 2, .int (pI S_20 902 q24)]) (rest := []) ⟨hx, hb, hml, hown, hU⟩ (c_X9_put l C X n S_20 hw.wf _ q23 x3 2 (pI S_20 902 q24) (Tq23) S_25 hq26) ⟨va_cnB (host := "WickNights") 3 hU (pq_g1 tc_X9_put) rfl rfl rfl (hw.nw 130 rfl) (hU _ tw5) cd_X9_put.2 ⟨Nat.le_trans (Nat.le_of_ble_eq_true rfl) (Nat.le_add_right _ _), Nat.le_trans (Nat.le_of_ble_eq_true rfl) (Nat.le_add_right _ _)⟩, hU _ tw673, hU _ ts23⟩ (pw_preV hw Tq23 (by decide) rfl) rfl rfl hl.1 rfl (lv_room (Nat.le_of_ble_eq_true rfl)) dX6_readAgain_78 ⟨Nat.zero_le _, Nat.zero_le _⟩) hw (fun H locs hw hx27 => ?_)
    have Ta0 : TY S_25 a0 6 := ty_ext hx27 Ta0
    have Ta1 : TY S_25 a1 10 := ty_ext hx27 Ta1
    have Ta2 : TY S_25 a2 1 := ty_ext hx27 Ta2
    have hE : Ext S0 S_25 := Ext.tr hE hx27
    cases hm
    exact pw_vret hx hb hr hlk hw hE dX6_readAgain_81
  · rw [if_neg h1] at hm
    refine lv_aload_n hx hb dX6_readAgain_7 rfl (lv_at hl 1 rfl) ?_
    refine lv_iconst (v := 3) hx hb dX6_readAgain_8 (by decide) ?_
    refine lv_aload_n hx hb dX6_readAgain_9 rfl (lv_at hl 1 rfl) ?_
    refine pgN_i (k := 10) (j := 4) (f := 1004) hx hb hown hU iu10 hw Ta1 (by decide) rfl 6 rfl rfl dX6_readAgain_10 ?_
    obtain ⟨S_28, hq29, hm⟩ := bd_some hm
    refine pw_cv (va_runVN (As := [.int 3, .int (pI S0 1004 a1)]) (rest := []) ⟨hx, hb, hml, hown, hU⟩ (c_X10_refuse l C X n S0 hw.wf _ a1 3 (pI S0 1004 a1) (Ta1) S_28 hq29) ⟨va_cnB (host := "WickNights") 2 hU (pq_g1 tc_X10_refuse) rfl rfl rfl (hw.nw 129 rfl) (hU _ tw2) cd_X10_refuse.2 ⟨Nat.le_trans (Nat.le_of_ble_eq_true rfl) (Nat.le_add_right _ _), Nat.le_trans (Nat.le_of_ble_eq_true rfl) (Nat.le_add_right _ _)⟩, hU _ tw586, hU _ ts15⟩ (pw_preV hw Ta1 (by decide) rfl) rfl rfl hl.1 rfl (lv_room (Nat.le_of_ble_eq_true rfl)) dX6_readAgain_13 ⟨Nat.zero_le _, Nat.zero_le _⟩) hw (fun H locs hw hx30 => ?_)
    have Ta0 : TY S_28 a0 6 := ty_ext hx30 Ta0
    have Ta1 : TY S_28 a1 10 := ty_ext hx30 Ta1
    have Ta2 : TY S_28 a2 1 := ty_ext hx30 Ta2
    have hE : Ext S0 S_28 := Ext.tr hE hx30
    cases hm
    exact pw_vret hx hb hr hlk hw hE dX6_readAgain_16
def m_proP_d (n : Nat) : Nat → (Nat → Nat → Nat → Int32 → pq_S → Option pq_S) × (Nat → Nat → Nat → Int32 → pq_S → Option pq_S) × (Nat → Nat → Nat → Int32 → Int32 → pq_S → Option pq_S)
  | 0 => ((fun _ _ _ _ _ => none), (fun _ _ _ _ _ => none), (fun _ _ _ _ _ _ => none))
  | d + 1 => ((g_X6_readSteps n (m_proP_d n d)), (g_X6_readStep n (m_proP_d n d)), (g_X6_readAgain n (m_proP_d n d)))
theorem hg_proP (n : Nat) : ∀ d : Nat, HG_proP n d (m_proP_d n d) := by
  intro d
  induction d with
  | zero =>
    exact ⟨(fun _ _ _ _ _ _ _ _ _ _ _ _ _ _ hm => by cases hm), (fun _ _ _ _ _ _ _ _ _ _ _ _ _ _ hm => by cases hm), (fun _ _ _ _ _ _ _ _ _ _ _ _ _ _ _ hm => by cases hm)⟩
  | succ d ih =>
    exact ⟨(fun q0 q1 q2 q3 q4 q5 q6 q7 q8 q9 q10 q11 q12 q13 hm => cg_X6_readSteps n d _ ih q0 q1 q2 q3 q4 q5 q6 q7 q8 q9 q10 q11 q12 q13 hm), (fun q0 q1 q2 q3 q4 q5 q6 q7 q8 q9 q10 q11 q12 q13 hm => cg_X6_readStep n d _ ih q0 q1 q2 q3 q4 q5 q6 q7 q8 q9 q10 q11 q12 q13 hm), (fun q0 q1 q2 q3 q4 q5 q6 q7 q8 q9 q10 q11 q12 q13 q14 hm => cg_X6_readAgain n d _ ih q0 q1 q2 q3 q4 q5 q6 q7 q8 q9 q10 q11 q12 q13 q14 hm)⟩
def m_X6_readSteps (n : Nat) (a0 : Nat) (a1 : Nat) (a2 : Nat) (x3 : Int32) (S : pq_S) : Option pq_S := (m_proP_d n 64).1 a0 a1 a2 x3 S
abbrev rm_X6_readSteps : Room := { frames := 69, cells := 0, slots := 0, locals := 1643 }
theorem c_X6_readSteps (l : Launch) (C : pq_C) (X : va_W) (n : Nat) (S0 : pq_S) (hF : WF S0) (sz : Nat) (a0 : Nat) (a1 : Nat) (a2 : Nat) (x3 : Int32) (Ta0 : TY S0 a0 6) (Ta1 : TY S0 a1 10) (Ta2 : TY S0 a2 1) (S1 : pq_S) (hm : m_X6_readSteps n a0 a1 a2 x3 S0 = some S1) : MV l yX6_readSteps (.code yX6_readSteps cX6_readSteps 5 none :: pq_U) rm_X6_readSteps C X S0 sz [.ref a0, .ref a1, .ref a2, .int x3] S1 0 0 := (hg_proP n 64).1 l C X S0 hF sz a0 a1 a2 x3 Ta0 Ta1 Ta2 S1 hm
def m_X6_readStep (n : Nat) (a0 : Nat) (a1 : Nat) (a2 : Nat) (x3 : Int32) (S : pq_S) : Option pq_S := (m_proP_d n 64).2.1 a0 a1 a2 x3 S
abbrev rm_X6_readStep : Room := { frames := 69, cells := 0, slots := 0, locals := 1643 }
theorem c_X6_readStep (l : Launch) (C : pq_C) (X : va_W) (n : Nat) (S0 : pq_S) (hF : WF S0) (sz : Nat) (a0 : Nat) (a1 : Nat) (a2 : Nat) (x3 : Int32) (Ta0 : TY S0 a0 6) (Ta1 : TY S0 a1 10) (Ta2 : TY S0 a2 1) (S1 : pq_S) (hm : m_X6_readStep n a0 a1 a2 x3 S0 = some S1) : MV l yX6_readStep (.code yX6_readStep cX6_readStep 5 none :: pq_U) rm_X6_readStep C X S0 sz [.ref a0, .ref a1, .ref a2, .int x3] S1 0 0 := (hg_proP n 64).2.1 l C X S0 hF sz a0 a1 a2 x3 Ta0 Ta1 Ta2 S1 hm
def m_X6_readAgain (n : Nat) (a0 : Nat) (a1 : Nat) (a2 : Nat) (x3 : Int32) (x4 : Int32) (S : pq_S) : Option pq_S := (m_proP_d n 64).2.2 a0 a1 a2 x3 x4 S
abbrev rm_X6_readAgain : Room := { frames := 69, cells := 0, slots := 0, locals := 1643 }
theorem c_X6_readAgain (l : Launch) (C : pq_C) (X : va_W) (n : Nat) (S0 : pq_S) (hF : WF S0) (sz : Nat) (a0 : Nat) (a1 : Nat) (a2 : Nat) (x3 : Int32) (x4 : Int32) (Ta0 : TY S0 a0 6) (Ta1 : TY S0 a1 10) (Ta2 : TY S0 a2 1) (S1 : pq_S) (hm : m_X6_readAgain n a0 a1 a2 x3 x4 S0 = some S1) : MV l yX6_readAgain (.code yX6_readAgain cX6_readAgain 5 none :: pq_U) rm_X6_readAgain C X S0 sz [.ref a0, .ref a1, .ref a2, .int x3, .int x4] S1 0 0 := (hg_proP n 64).2.2 l C X S0 hF sz a0 a1 a2 x3 x4 Ta0 Ta1 Ta2 S1 hm
abbrev rm_X12_work : Room := { frames := 70, cells := 0, slots := 0, locals := 1745 }
def b_X12_work_155 (n : Nat) (a0 : Nat) (S : pq_S) : Option (Int32 × pq_S) := Option.bind (pR (sI S 1241 a0 ((pI S 1241 a0) + (1 : Int32))) 1246 a0) fun q49 => Option.bind (pR (sI S 1241 a0 ((pI S 1241 a0) + (1 : Int32))) 1247 a0) fun q50 => Option.bind (m_X12_copies n a0 q49 q50 50 (sI S 1241 a0 ((pI S 1241 a0) + (1 : Int32)))) fun S_51 => Option.bind (m_X12_goesSteps n a0 0 (pI (sI (sI (sI S_51 1243 a0 0) 1244 a0 0) 1245 a0 0) 1240 a0) (sI (sI (sI S_51 1243 a0 0) 1244 a0 0) 1245 a0 0)) fun S_54 => Option.bind (pR S_54 1247 a0) fun q57 => Option.bind (pR S_54 1246 a0) fun q58 => Option.bind (m_X12_copies n a0 q57 q58 50 S_54) fun S_59 => some ((pI (sI S_59 1242 a0 (pI S_59 1245 a0)) 1244 a0), (sI S_59 1242 a0 (pI S_59 1245 a0)))
set_option maxHeartbeats 4000000 in
set_option maxRecDepth 100000 in
theorem wb_X12_work_155 {p : Program} {l : Launch} {e : Env} {s : State} {m : MethodId} {args : Array Value} {below : List Frame} {meth : Method} {c : Code} (cx : Cx p s m args meth c cX12_work 4 RX12 (some .int)) (C : pq_C) (X : va_W) (S0 : pq_S) (n : Nat) (r : Int32) (S1 : pq_S) : ∀ (a0 : Nat) (S : pq_S) (H : Heap) (locs : List Loc) (ls : Array Slot), PW C X S (pq_F C X S0 s.heap.size) H locs s → Ext S0 S → TY S a0 12 → lv_has ls 4 [(0, .ref a0)] → b_X12_work_155 n a0 S = some (r, S1) → W p l e rm_X12_work s m args below meth c H locs 0 0 (MQ below (QcI C X S0 s.heap.size r S1) args s 0 0 (pq_F C X S0 s.heap.size)) (F0 m 155 ls []) := by
  obtain ⟨hx, hb, hml, hown, hU, hr, hlk⟩ := id cx
  intro a0 S H locs ls hw hE Ta0 hl hm
  rw [b_X12_work_155] at hm
  refine lv_aload_n hx hb dX12_work_155 rfl (lv_at hl 0 rfl) ?_
  refine lv_dup hx hb dX12_work_156 rfl ?_
  refine pg_i (k := 12) (j := 41) (f := 1241) hx hb hown hU iu12 hw Ta0 (by decide) rfl (hU _ tw1512) rfl dX12_work_157 ?_
  refine lv_iconst (v := 1) hx hb dX12_work_160 (by decide) ?_
  refine lv_iadd hx hb dX12_work_161 ?_
  refine pp_i (k := 12) (j := 41) (f := 1241) hx hb hown hU iu12 tyX12_ok nmX12 hw Ta0 (by decide) rfl (hU _ tw1512) rfl rfl rfl dX12_work_162 (fun H locs hw => ?_)
  refine lv_aload_n hx hb dX12_work_165 rfl (lv_at hl 0 rfl) ?_
  refine lv_aload_n hx hb dX12_work_166 rfl (lv_at hl 0 rfl) ?_
  obtain ⟨q49, hq49, hm⟩ := bd_some hm
  have Tq49 : TY (sI S 1241 a0 ((pI S 1241 a0) + (1 : Int32))) q49 14 := hw.wf.ref (k := 12) (j := 46) Ta0 (by decide) (by decide) hq49
  refine pg_rb (k := 12) (j := 46) (f := 1246) hx hb hown hU iu12 hw Ta0 (by decide) rfl (hU _ tw1517) rfl hq49 dX12_work_167 ?_
  refine lv_aload_n hx hb dX12_work_170 rfl (lv_at hl 0 rfl) ?_
  obtain ⟨q50, hq50, hm⟩ := bd_some hm
  have Tq50 : TY (sI S 1241 a0 ((pI S 1241 a0) + (1 : Int32))) q50 14 := hw.wf.ref (k := 12) (j := 47) Ta0 (by decide) (by decide) hq50
  refine pg_rb (k := 12) (j := 47) (f := 1247) hx hb hown hU iu12 hw Ta0 (by decide) rfl (hU _ tw1518) rfl hq50 dX12_work_171 ?_
  refine lv_bipush (v := 50) hx hb dX12_work_174 (by decide) ?_
  obtain ⟨S_51, hq52, hm⟩ := bd_some hm
  refine pw_cv (va_runV (As := [.ref q49, .ref q50, .int 50]) (rest := []) ⟨hx, hb, hml, hown, hU⟩ (c_X12_copies l C X n (sI S 1241 a0 ((pI S 1241 a0) + (1 : Int32))) hw.wf _ a0 q49 q50 50 (Ta0) (Tq49) (Tq50) S_51 hq52) (cwV 3 hU (pq_gV tw1467 tw1469 ts122 tw14 tc_X12_copies) rfl rfl rfl cd_X12_copies ⟨Nat.le_of_ble_eq_true rfl, Nat.le_of_ble_eq_true rfl⟩) (pw_preV hw Ta0 (by decide) rfl) rfl rfl hl.1 rfl (lv_room (Nat.le_of_ble_eq_true rfl)) dX12_work_176 ⟨Nat.zero_le _, Nat.zero_le _⟩) hw (fun H locs hw hx53 => ?_)
  have Ta0 : TY S_51 a0 12 := ty_ext hx53 Ta0
  have hE : Ext S0 S_51 := Ext.tr hE hx53
  refine lv_aload_n hx hb dX12_work_179 rfl (lv_at hl 0 rfl) ?_
  refine lv_iconst (v := 0) hx hb dX12_work_180 (by decide) ?_
  refine pp_i (k := 12) (j := 43) (f := 1243) hx hb hown hU iu12 tyX12_ok nmX12 hw Ta0 (by decide) rfl (hU _ tw1514) rfl rfl rfl dX12_work_181 (fun H locs hw => ?_)
  refine lv_aload_n hx hb dX12_work_184 rfl (lv_at hl 0 rfl) ?_
  refine lv_iconst (v := 0) hx hb dX12_work_185 (by decide) ?_
  refine pp_i (k := 12) (j := 44) (f := 1244) hx hb hown hU iu12 tyX12_ok nmX12 hw Ta0 (by decide) rfl (hU _ tw1515) rfl rfl rfl dX12_work_186 (fun H locs hw => ?_)
  refine lv_aload_n hx hb dX12_work_189 rfl (lv_at hl 0 rfl) ?_
  refine lv_iconst (v := 0) hx hb dX12_work_190 (by decide) ?_
  refine pp_i (k := 12) (j := 45) (f := 1245) hx hb hown hU iu12 tyX12_ok nmX12 hw Ta0 (by decide) rfl (hU _ tw1516) rfl rfl rfl dX12_work_191 (fun H locs hw => ?_)
  refine lv_aload_n hx hb dX12_work_194 rfl (lv_at hl 0 rfl) ?_
  refine lv_iconst (v := 0) hx hb dX12_work_195 (by decide) ?_
  refine lv_aload_n hx hb dX12_work_196 rfl (lv_at hl 0 rfl) ?_
  refine pg_i (k := 12) (j := 40) (f := 1240) hx hb hown hU iu12 hw Ta0 (by decide) rfl (hU _ tw1511) rfl dX12_work_197 ?_
  obtain ⟨S_54, hq55, hm⟩ := bd_some hm
  refine pw_cv (va_runV (As := [.int 0, .int (pI (sI (sI (sI S_51 1243 a0 0) 1244 a0 0) 1245 a0 0) 1240 a0)]) (rest := []) ⟨hx, hb, hml, hown, hU⟩ (c_X12_goesSteps l C X n (sI (sI (sI S_51 1243 a0 0) 1244 a0 0) 1245 a0 0) hw.wf _ a0 0 (pI (sI (sI (sI S_51 1243 a0 0) 1244 a0 0) 1245 a0 0) 1240 a0) (Ta0) S_54 hq55) (cwV 2 hU (pq_gV tw1837 tw1839 ts146 tw14 tc_X12_goesSteps) rfl rfl rfl cd_X12_goesSteps ⟨Nat.le_of_ble_eq_true rfl, Nat.le_of_ble_eq_true rfl⟩) (pw_preV hw Ta0 (by decide) rfl) rfl rfl hl.1 rfl (lv_room (Nat.le_of_ble_eq_true rfl)) dX12_work_200 ⟨Nat.zero_le _, Nat.zero_le _⟩) hw (fun H locs hw hx56 => ?_)
  have Ta0 : TY S_54 a0 12 := ty_ext hx56 Ta0
  have hE : Ext S0 S_54 := Ext.tr hE hx56
  refine lv_aload_n hx hb dX12_work_203 rfl (lv_at hl 0 rfl) ?_
  refine lv_aload_n hx hb dX12_work_204 rfl (lv_at hl 0 rfl) ?_
  obtain ⟨q57, hq57, hm⟩ := bd_some hm
  have Tq57 : TY S_54 q57 14 := hw.wf.ref (k := 12) (j := 47) Ta0 (by decide) (by decide) hq57
  refine pg_rb (k := 12) (j := 47) (f := 1247) hx hb hown hU iu12 hw Ta0 (by decide) rfl (hU _ tw1518) rfl hq57 dX12_work_205 ?_
  refine lv_aload_n hx hb dX12_work_208 rfl (lv_at hl 0 rfl) ?_
  obtain ⟨q58, hq58, hm⟩ := bd_some hm
  have Tq58 : TY S_54 q58 14 := hw.wf.ref (k := 12) (j := 46) Ta0 (by decide) (by decide) hq58
  refine pg_rb (k := 12) (j := 46) (f := 1246) hx hb hown hU iu12 hw Ta0 (by decide) rfl (hU _ tw1517) rfl hq58 dX12_work_209 ?_
  refine lv_bipush (v := 50) hx hb dX12_work_212 (by decide) ?_
  obtain ⟨S_59, hq60, hm⟩ := bd_some hm
  refine pw_cv (va_runV (As := [.ref q57, .ref q58, .int 50]) (rest := []) ⟨hx, hb, hml, hown, hU⟩ (c_X12_copies l C X n S_54 hw.wf _ a0 q57 q58 50 (Ta0) (Tq57) (Tq58) S_59 hq60) (cwV 3 hU (pq_gV tw1467 tw1469 ts122 tw14 tc_X12_copies) rfl rfl rfl cd_X12_copies ⟨Nat.le_of_ble_eq_true rfl, Nat.le_of_ble_eq_true rfl⟩) (pw_preV hw Ta0 (by decide) rfl) rfl rfl hl.1 rfl (lv_room (Nat.le_of_ble_eq_true rfl)) dX12_work_214 ⟨Nat.zero_le _, Nat.zero_le _⟩) hw (fun H locs hw hx61 => ?_)
  have Ta0 : TY S_59 a0 12 := ty_ext hx61 Ta0
  have hE : Ext S0 S_59 := Ext.tr hE hx61
  refine lv_aload_n hx hb dX12_work_217 rfl (lv_at hl 0 rfl) ?_
  refine lv_aload_n hx hb dX12_work_218 rfl (lv_at hl 0 rfl) ?_
  refine pg_i (k := 12) (j := 45) (f := 1245) hx hb hown hU iu12 hw Ta0 (by decide) rfl (hU _ tw1516) rfl dX12_work_219 ?_
  refine pp_i (k := 12) (j := 42) (f := 1242) hx hb hown hU iu12 tyX12_ok nmX12 hw Ta0 (by decide) rfl (hU _ tw1513) rfl rfl rfl dX12_work_222 (fun H locs hw => ?_)
  refine lv_aload_n hx hb dX12_work_225 rfl (lv_at hl 0 rfl) ?_
  refine pg_i (k := 12) (j := 44) (f := 1244) hx hb hown hU iu12 hw Ta0 (by decide) rfl (hU _ tw1515) rfl dX12_work_226 ?_
  cases hm
  exact pw_iret hx hb hr rfl hlk hw hE dX12_work_229
def b_X12_work_123 (n : Nat) : Nat → Nat → Int32 → pq_S → Option (Int32 × pq_S)
  | 0, _, _, _ => none
  | f + 1, a0, x3, S => if 50 ≤ x3 then b_X12_work_155 n a0 S else Option.bind (pR S 1248 a0) fun q44 => Option.bind (pR S 1246 a0) fun q45 => ck (ix x3 (pN S q45)) (dix _ _) (ck (ix (((50 : Int32) * (pI S 1241 a0)) + x3) (pN S q44)) (dix _ _) (lt_ (sA S q44 (Int32.toNatClampNeg (((50 : Int32) * (pI S 1241 a0)) + x3)) (pA S q45 (Int32.toNatClampNeg x3))) fun S_48 => b_X12_work_123 n f a0 (x3 + 1) S_48))
set_option maxHeartbeats 4000000 in
set_option maxRecDepth 100000 in
theorem wb_X12_work_123 {p : Program} {l : Launch} {e : Env} {s : State} {m : MethodId} {args : Array Value} {below : List Frame} {meth : Method} {c : Code} (cx : Cx p s m args meth c cX12_work 4 RX12 (some .int)) (C : pq_C) (X : va_W) (S0 : pq_S) (n : Nat) (r : Int32) (S1 : pq_S) : ∀ (f : Nat) (a0 : Nat) (x3 : Int32) (S : pq_S) (H : Heap) (locs : List Loc) (ls : Array Slot), PW C X S (pq_F C X S0 s.heap.size) H locs s → Ext S0 S → TY S a0 12 → lv_has ls 4 [(0, .ref a0), (3, .int x3)] → b_X12_work_123 n f a0 x3 S = some (r, S1) → W p l e rm_X12_work s m args below meth c H locs 0 0 (MQ below (QcI C X S0 s.heap.size r S1) args s 0 0 (pq_F C X S0 s.heap.size)) (F0 m 123 ls []) := by
  obtain ⟨hx, hb, hml, hown, hU, hr, hlk⟩ := id cx
  intro f
  induction f with
  | zero =>
    intro a0 x3 S H locs ls hw hE Ta0 hl hm
    cases hm
  | succ f ih =>
    intro a0 x3 S H locs ls hw hE Ta0 hl hm
    rw [b_X12_work_123] at hm
    refine lv_iload_n hx hb dX12_work_123 rfl (lv_at hl 1 rfl) ?_
    refine lv_bipush (v := 50) hx hb dX12_work_124 (by decide) ?_
    refine lv_icmp_ge (tgt := 155) hx hb dX12_work_126 (by decide) (fun h43 => ?_) (fun h43 => ?_)
    · rw [if_pos h43] at hm
      exact wb_X12_work_155 cx C X S0 n r S1 a0 S _ _ _ hw hE Ta0 (lv_sub hl [0] rfl) hm
    · rw [if_neg h43] at hm
      refine lv_aload_n hx hb dX12_work_129 rfl (lv_at hl 0 rfl) ?_
      obtain ⟨q44, hq44, hm⟩ := bd_some hm
      have Tq44 : TY S q44 14 := hw.wf.ref (k := 12) (j := 48) Ta0 (by decide) (by decide) hq44
      refine pg_rb (k := 12) (j := 48) (f := 1248) hx hb hown hU iu12 hw Ta0 (by decide) rfl (hU _ tw1519) rfl hq44 dX12_work_130 ?_
      refine lv_bipush (v := 50) hx hb dX12_work_133 (by decide) ?_
      refine lv_aload_n hx hb dX12_work_135 rfl (lv_at hl 0 rfl) ?_
      refine pg_i (k := 12) (j := 41) (f := 1241) hx hb hown hU iu12 hw Ta0 (by decide) rfl (hU _ tw1512) rfl dX12_work_136 ?_
      refine lv_imul hx hb dX12_work_139 ?_
      refine lv_iload_n hx hb dX12_work_140 rfl (lv_at hl 1 rfl) ?_
      refine lv_iadd hx hb dX12_work_141 ?_
      refine lv_aload_n hx hb dX12_work_142 rfl (lv_at hl 0 rfl) ?_
      obtain ⟨q45, hq45, hm⟩ := bd_some hm
      have Tq45 : TY S q45 14 := hw.wf.ref (k := 12) (j := 46) Ta0 (by decide) (by decide) hq45
      refine pg_rb (k := 12) (j := 46) (f := 1246) hx hb hown hU iu12 hw Ta0 (by decide) rfl (hU _ tw1517) rfl hq45 dX12_work_143 ?_
      refine lv_iload_n hx hb dX12_work_146 rfl (lv_at hl 1 rfl) ?_
      obtain ⟨hi46, hm⟩ := ck_some hm
      refine pw_iald hx hb hw Tq45 hi46 dX12_work_147 ?_
      obtain ⟨hi47, hm⟩ := ck_some hm
      refine pw_iast hx hb hw Tq44 hi47 dX12_work_148 (fun H locs hw => ?_)
      obtain ⟨S_48, eS_48, hm⟩ := lt_some hm
      rw [← eS_48] at hw
      have Ta0 : TY S_48 a0 12 := by rw [eS_48]; exact Ta0
      have hE : Ext S0 S_48 := by rw [eS_48]; exact hE
      refine lv_iinc (v := (x3 + 1)) (lv' := [(3, .int (x3 + 1)), (0, .ref a0)]) hx hb dX12_work_149 hl (k := 1) rfl rfl (by decide) rfl (fun ls hl => ?_)
      refine lv_goto (tgt := 123) hx hb dX12_work_152 (by decide) ?_
      exact ih a0 (x3 + 1) S_48 _ _ _ hw hE Ta0 (lv_sub hl [1, 0] rfl) hm
def b_X12_work_89 (n : Nat) (a0 : Nat) (S : pq_S) : Option (Int32 × pq_S) := cb (m_X12_result n a0 0 S) fun r35 S_33 => if (pI S_33 1205 a0) = (-1) then Option.bind (pR S_33 1238 a0) fun q38 => Option.bind (pR S_33 1239 a0) fun q39 => Option.bind (m_X12_copies n a0 q38 q39 (pI S_33 1240 a0) S_33) fun S_40 => b_X12_work_123 n n a0 0 S_40 else some (r35, S_33)
set_option maxHeartbeats 4000000 in
set_option maxRecDepth 100000 in
theorem wb_X12_work_89 {p : Program} {l : Launch} {e : Env} {s : State} {m : MethodId} {args : Array Value} {below : List Frame} {meth : Method} {c : Code} (cx : Cx p s m args meth c cX12_work 4 RX12 (some .int)) (C : pq_C) (X : va_W) (S0 : pq_S) (n : Nat) (r : Int32) (S1 : pq_S) : ∀ (a0 : Nat) (S : pq_S) (H : Heap) (locs : List Loc) (ls : Array Slot), PW C X S (pq_F C X S0 s.heap.size) H locs s → Ext S0 S → TY S a0 12 → lv_has ls 4 [(0, .ref a0)] → b_X12_work_89 n a0 S = some (r, S1) → W p l e rm_X12_work s m args below meth c H locs 0 0 (MQ below (QcI C X S0 s.heap.size r S1) args s 0 0 (pq_F C X S0 s.heap.size)) (F0 m 89 ls []) := by
  obtain ⟨hx, hb, hml, hown, hU, hr, hlk⟩ := id cx
  intro a0 S H locs ls hw hE Ta0 hl hm
  rw [b_X12_work_89] at hm
  refine lv_aload_n hx hb dX12_work_89 rfl (lv_at hl 0 rfl) ?_
  refine lv_iconst (v := 0) hx hb dX12_work_90 (by decide) ?_
  obtain ⟨r35, S_33, hq34, hm⟩ := cb_some hm
  refine pw_ci (va_runV (As := [.int 0]) (rest := []) ⟨hx, hb, hml, hown, hU⟩ (c_X12_result l C X n S hw.wf _ a0 0 (Ta0) r35 S_33 hq34) (cwV 1 hU (pq_gV tw1768 tw1770 ts135 tw14 tc_X12_result) rfl rfl rfl cd_X12_result ⟨Nat.le_of_ble_eq_true rfl, Nat.le_of_ble_eq_true rfl⟩) (pw_preV hw Ta0 (by decide) rfl) rfl rfl hl.1 rfl (lv_room (Nat.le_of_ble_eq_true rfl)) dX12_work_91 ⟨Nat.zero_le _, Nat.zero_le _⟩) hw (fun H locs hw hx36 => ?_)
  have Ta0 : TY S_33 a0 12 := ty_ext hx36 Ta0
  have hE : Ext S0 S_33 := Ext.tr hE hx36
  refine lv_istore_n (lv' := [(2, .int r35), (0, .ref a0)]) hx hb dX12_work_94 rfl hl (by decide) rfl (fun ls hl => ?_)
  refine lv_aload_n hx hb dX12_work_95 rfl (lv_at hl 1 rfl) ?_
  refine pg_i (k := 12) (j := 5) (f := 1205) hx hb hown hU iu12 hw Ta0 (by decide) rfl (hU _ tw1476) rfl dX12_work_96 ?_
  refine lv_iconst (v := (-1)) hx hb dX12_work_99 (by decide) ?_
  refine lv_icmp_eq (tgt := 105) hx hb dX12_work_100 (by decide) (fun h37 => ?_) (fun h37 => ?_)
  · rw [if_pos h37] at hm
    refine lv_aload_n hx hb dX12_work_105 rfl (lv_at hl 1 rfl) ?_
    refine lv_aload_n hx hb dX12_work_106 rfl (lv_at hl 1 rfl) ?_
    obtain ⟨q38, hq38, hm⟩ := bd_some hm
    have Tq38 : TY S_33 q38 14 := hw.wf.ref (k := 12) (j := 38) Ta0 (by decide) (by decide) hq38
    refine pg_rb (k := 12) (j := 38) (f := 1238) hx hb hown hU iu12 hw Ta0 (by decide) rfl (hU _ tw1509) rfl hq38 dX12_work_107 ?_
    refine lv_aload_n hx hb dX12_work_110 rfl (lv_at hl 1 rfl) ?_
    obtain ⟨q39, hq39, hm⟩ := bd_some hm
    have Tq39 : TY S_33 q39 14 := hw.wf.ref (k := 12) (j := 39) Ta0 (by decide) (by decide) hq39
    refine pg_rb (k := 12) (j := 39) (f := 1239) hx hb hown hU iu12 hw Ta0 (by decide) rfl (hU _ tw1510) rfl hq39 dX12_work_111 ?_
    refine lv_aload_n hx hb dX12_work_114 rfl (lv_at hl 1 rfl) ?_
    refine pg_i (k := 12) (j := 40) (f := 1240) hx hb hown hU iu12 hw Ta0 (by decide) rfl (hU _ tw1511) rfl dX12_work_115 ?_
    obtain ⟨S_40, hq41, hm⟩ := bd_some hm
    refine pw_cv (va_runV (As := [.ref q38, .ref q39, .int (pI S_33 1240 a0)]) (rest := []) ⟨hx, hb, hml, hown, hU⟩ (c_X12_copies l C X n S_33 hw.wf _ a0 q38 q39 (pI S_33 1240 a0) (Ta0) (Tq38) (Tq39) S_40 hq41) (cwV 3 hU (pq_gV tw1467 tw1469 ts122 tw14 tc_X12_copies) rfl rfl rfl cd_X12_copies ⟨Nat.le_of_ble_eq_true rfl, Nat.le_of_ble_eq_true rfl⟩) (pw_preV hw Ta0 (by decide) rfl) rfl rfl hl.1 rfl (lv_room (Nat.le_of_ble_eq_true rfl)) dX12_work_118 ⟨Nat.zero_le _, Nat.zero_le _⟩) hw (fun H locs hw hx42 => ?_)
    have Ta0 : TY S_40 a0 12 := ty_ext hx42 Ta0
    have hE : Ext S0 S_40 := Ext.tr hE hx42
    refine lv_iconst (v := 0) hx hb dX12_work_121 (by decide) ?_
    refine lv_istore_n (lv' := [(3, .int 0), (2, .int r35), (0, .ref a0)]) hx hb dX12_work_122 rfl hl (by decide) rfl (fun ls hl => ?_)
    exact wb_X12_work_123 cx C X S0 n r S1 n a0 0 S_40 _ _ _ hw hE Ta0 (lv_sub hl [2, 0] rfl) hm
  · rw [if_neg h37] at hm
    refine lv_iload_n hx hb dX12_work_103 rfl (lv_at hl 0 rfl) ?_
    cases hm
    exact pw_iret hx hb hr rfl hlk hw hE dX12_work_104
def b_X12_work_68 (n : Nat) : Nat → Nat → pq_S → Option (Int32 × pq_S)
  | 0, _, _ => none
  | f + 1, a0, S => cb (m_X12_fine n a0 S) fun r20 S_18 => if r20 = 0 then b_X12_work_89 n a0 S_18 else cb (m_X12_isMore n a0 S_18) fun r26 S_24 => if r26 = 0 then b_X12_work_89 n a0 S_24 else Option.bind (m_X12_readStep n a0 S_24) fun S_30 => b_X12_work_68 n f a0 S_30
set_option maxHeartbeats 4000000 in
set_option maxRecDepth 100000 in
theorem wb_X12_work_68 {p : Program} {l : Launch} {e : Env} {s : State} {m : MethodId} {args : Array Value} {below : List Frame} {meth : Method} {c : Code} (cx : Cx p s m args meth c cX12_work 4 RX12 (some .int)) (C : pq_C) (X : va_W) (S0 : pq_S) (n : Nat) (r : Int32) (S1 : pq_S) : ∀ (f : Nat) (a0 : Nat) (S : pq_S) (H : Heap) (locs : List Loc) (ls : Array Slot), PW C X S (pq_F C X S0 s.heap.size) H locs s → Ext S0 S → TY S a0 12 → lv_has ls 4 [(0, .ref a0)] → b_X12_work_68 n f a0 S = some (r, S1) → W p l e rm_X12_work s m args below meth c H locs 0 0 (MQ below (QcI C X S0 s.heap.size r S1) args s 0 0 (pq_F C X S0 s.heap.size)) (F0 m 68 ls []) := by
  obtain ⟨hx, hb, hml, hown, hU, hr, hlk⟩ := id cx
  intro f
  induction f with
  | zero =>
    intro a0 S H locs ls hw hE Ta0 hl hm
    cases hm
  | succ f ih =>
    intro a0 S H locs ls hw hE Ta0 hl hm
    rw [b_X12_work_68] at hm
    refine lv_aload_n hx hb dX12_work_68 rfl (lv_at hl 0 rfl) ?_
    obtain ⟨r20, S_18, hq19, hm⟩ := cb_some hm
    refine pw_cz (va_runV (As := []) (rest := []) ⟨hx, hb, hml, hown, hU⟩ (c_X12_fine l C X n S hw.wf _ a0 (Ta0) r20 S_18 hq19) (cwV 0 hU (pq_gV tw1711 tw1713 ts125 tw14 tc_X12_fine) rfl rfl rfl cd_X12_fine ⟨Nat.le_of_ble_eq_true rfl, Nat.le_of_ble_eq_true rfl⟩) (pw_preV hw Ta0 (by decide) rfl) rfl rfl hl.1 rfl (lv_room (Nat.le_of_ble_eq_true rfl)) dX12_work_69 ⟨Nat.zero_le _, Nat.zero_le _⟩) hw (fun H locs hw hx21 hz22 => ?_)
    have Ta0 : TY S_18 a0 12 := ty_ext hx21 Ta0
    have hE : Ext S0 S_18 := Ext.tr hE hx21
    refine lv_if_eq (tgt := 89) hx hb dX12_work_72 (by decide) (fun h23 => ?_) (fun h23 => ?_)
    · rw [if_pos h23] at hm
      exact wb_X12_work_89 cx C X S0 n r S1 a0 S_18 _ _ _ hw hE Ta0 (lv_sub hl [0] rfl) hm
    · rw [if_neg h23] at hm
      refine lv_aload_n hx hb dX12_work_75 rfl (lv_at hl 0 rfl) ?_
      obtain ⟨r26, S_24, hq25, hm⟩ := cb_some hm
      refine pw_cz (va_runV (As := []) (rest := []) ⟨hx, hb, hml, hown, hU⟩ (c_X12_isMore l C X n S_18 hw.wf _ a0 (Ta0) r26 S_24 hq25) (cwV 0 hU (pq_gV tw1715 tw1717 ts126 tw14 tc_X12_isMore) rfl rfl rfl cd_X12_isMore ⟨Nat.le_of_ble_eq_true rfl, Nat.le_of_ble_eq_true rfl⟩) (pw_preV hw Ta0 (by decide) rfl) rfl rfl hl.1 rfl (lv_room (Nat.le_of_ble_eq_true rfl)) dX12_work_76 ⟨Nat.zero_le _, Nat.zero_le _⟩) hw (fun H locs hw hx27 hz28 => ?_)
      have Ta0 : TY S_24 a0 12 := ty_ext hx27 Ta0
      have hE : Ext S0 S_24 := Ext.tr hE hx27
      refine lv_if_eq (tgt := 89) hx hb dX12_work_79 (by decide) (fun h29 => ?_) (fun h29 => ?_)
      · rw [if_pos h29] at hm
        exact wb_X12_work_89 cx C X S0 n r S1 a0 S_24 _ _ _ hw hE Ta0 (lv_sub hl [0] rfl) hm
      · rw [if_neg h29] at hm
        refine lv_aload_n hx hb dX12_work_82 rfl (lv_at hl 0 rfl) ?_
        obtain ⟨S_30, hq31, hm⟩ := bd_some hm
        refine pw_cv (va_runV (As := []) (rest := []) ⟨hx, hb, hml, hown, hU⟩ (c_X12_readStep l C X n S_24 hw.wf _ a0 (Ta0) S_30 hq31) (cwV 0 hU (pq_gV tw1820 tw1822 ts143 tw14 tc_X12_readStep) rfl rfl rfl cd_X12_readStep ⟨Nat.le_of_ble_eq_true rfl, Nat.le_of_ble_eq_true rfl⟩) (pw_preV hw Ta0 (by decide) rfl) rfl rfl hl.1 rfl (lv_room (Nat.le_of_ble_eq_true rfl)) dX12_work_83 ⟨Nat.zero_le _, Nat.zero_le _⟩) hw (fun H locs hw hx32 => ?_)
        have Ta0 : TY S_30 a0 12 := ty_ext hx32 Ta0
        have hE : Ext S0 S_30 := Ext.tr hE hx32
        refine lv_goto (tgt := 68) hx hb dX12_work_86 (by decide) ?_
        exact ih a0 S_30 _ _ _ hw hE Ta0 (lv_sub hl [0] rfl) hm
def b_X12_work_30 (n : Nat) (a0 : Nat) (x1 : Int32) (b0 : Nat) (z1 : Int32) (S : pq_S) : Option (Int32 × pq_S) := cb (m_X12_may n b0 z1 1 1 S) fun r6 S_4 => if r6 = 0 then some (0, S_4) else Option.bind (m_X12_begins n a0 x1 S_4) fun S_10 => if (pI S_10 1241 a0) = 16 then cb (m_X12_result n a0 0 S_10) fun r16 S_14 => some ((-20), S_14) else b_X12_work_68 n n a0 (sI S_10 1240 a0 0)
set_option maxHeartbeats 4000000 in
set_option maxRecDepth 100000 in
theorem wb_X12_work_30 {p : Program} {l : Launch} {e : Env} {s : State} {m : MethodId} {args : Array Value} {below : List Frame} {meth : Method} {c : Code} (cx : Cx p s m args meth c cX12_work 4 RX12 (some .int)) (C : pq_C) (X : va_W) (S0 : pq_S) (n : Nat) (r : Int32) (S1 : pq_S) : ∀ (a0 : Nat) (x1 : Int32) (b0 : Nat) (z1 : Int32) (S : pq_S) (H : Heap) (locs : List Loc) (ls : Array Slot), PW C X S (pq_F C X S0 s.heap.size) H locs s → Ext S0 S → TY S a0 12 → TY S b0 12 → lv_has ls 4 [(0, .ref a0), (1, .int x1)] → b_X12_work_30 n a0 x1 b0 z1 S = some (r, S1) → W p l e rm_X12_work s m args below meth c H locs 0 0 (MQ below (QcI C X S0 s.heap.size r S1) args s 0 0 (pq_F C X S0 s.heap.size)) (F0 m 30 ls [.int z1, .ref b0]) := by
  obtain ⟨hx, hb, hml, hown, hU, hr, hlk⟩ := id cx
  intro a0 x1 b0 z1 S H locs ls hw hE Ta0 Tb0 hl hm
  rw [b_X12_work_30] at hm
  refine lv_iconst (v := 1) hx hb dX12_work_30 (by decide) ?_
  refine lv_iconst (v := 1) hx hb dX12_work_31 (by decide) ?_
  obtain ⟨r6, S_4, hq5, hm⟩ := cb_some hm
  refine pw_cz (va_runV (As := [.int z1, .int 1, .int 1]) (rest := []) ⟨hx, hb, hml, hown, hU⟩ (c_X12_may l C X n S hw.wf _ b0 z1 1 1 (Tb0) r6 S_4 hq5) (cwV 3 hU (pq_gV tw1703 tw1705 ts123 tw14 tc_X12_may) rfl rfl rfl cd_X12_may ⟨Nat.le_of_ble_eq_true rfl, Nat.le_of_ble_eq_true rfl⟩) (pw_preV hw Tb0 (by decide) rfl) rfl rfl hl.1 rfl (lv_room (Nat.le_of_ble_eq_true rfl)) dX12_work_32 ⟨Nat.zero_le _, Nat.zero_le _⟩) hw (fun H locs hw hx7 hz8 => ?_)
  have Ta0 : TY S_4 a0 12 := ty_ext hx7 Ta0
  have hE : Ext S0 S_4 := Ext.tr hE hx7
  refine lv_if_ne (tgt := 40) hx hb dX12_work_35 (by decide) (fun h9 => ?_) (fun h9 => ?_)
  · rw [if_neg h9] at hm
    refine lv_aload_n hx hb dX12_work_40 rfl (lv_at hl 0 rfl) ?_
    refine lv_iload_n hx hb dX12_work_41 rfl (lv_at hl 1 rfl) ?_
    obtain ⟨S_10, hq11, hm⟩ := bd_some hm
    refine pw_cv (va_runV (As := [.int x1]) (rest := []) ⟨hx, hb, hml, hown, hU⟩ (c_X12_begins l C X n S_4 hw.wf _ a0 x1 (Ta0) S_10 hq11) (cwV 1 hU (pq_gV tw1707 tw1709 ts124 tw14 tc_X12_begins) rfl rfl rfl cd_X12_begins ⟨Nat.le_of_ble_eq_true rfl, Nat.le_of_ble_eq_true rfl⟩) (pw_preV hw Ta0 (by decide) rfl) rfl rfl hl.1 rfl (lv_room (Nat.le_of_ble_eq_true rfl)) dX12_work_42 ⟨Nat.zero_le _, Nat.zero_le _⟩) hw (fun H locs hw hx12 => ?_)
    have Ta0 : TY S_10 a0 12 := ty_ext hx12 Ta0
    have hE : Ext S0 S_10 := Ext.tr hE hx12
    refine lv_aload_n hx hb dX12_work_45 rfl (lv_at hl 0 rfl) ?_
    refine pg_i (k := 12) (j := 41) (f := 1241) hx hb hown hU iu12 hw Ta0 (by decide) rfl (hU _ tw1512) rfl dX12_work_46 ?_
    refine lv_bipush (v := 16) hx hb dX12_work_49 (by decide) ?_
    refine lv_icmp_ne (tgt := 63) hx hb dX12_work_51 (by decide) (fun h13 => ?_) (fun h13 => ?_)
    · rw [if_neg h13] at hm
      refine lv_aload_n hx hb dX12_work_63 rfl (lv_at hl 0 rfl) ?_
      refine lv_iconst (v := 0) hx hb dX12_work_64 (by decide) ?_
      refine pp_i (k := 12) (j := 40) (f := 1240) hx hb hown hU iu12 tyX12_ok nmX12 hw Ta0 (by decide) rfl (hU _ tw1511) rfl rfl rfl dX12_work_65 (fun H locs hw => ?_)
      exact wb_X12_work_68 cx C X S0 n r S1 n a0 (sI S_10 1240 a0 0) _ _ _ hw hE Ta0 (lv_sub hl [0] rfl) hm
    · rw [if_pos h13] at hm
      refine lv_aload_n hx hb dX12_work_54 rfl (lv_at hl 0 rfl) ?_
      refine lv_iconst (v := 0) hx hb dX12_work_55 (by decide) ?_
      obtain ⟨r16, S_14, hq15, hm⟩ := cb_some hm
      refine pw_ci (va_runV (As := [.int 0]) (rest := []) ⟨hx, hb, hml, hown, hU⟩ (c_X12_result l C X n S_10 hw.wf _ a0 0 (Ta0) r16 S_14 hq15) (cwV 1 hU (pq_gV tw1768 tw1770 ts135 tw14 tc_X12_result) rfl rfl rfl cd_X12_result ⟨Nat.le_of_ble_eq_true rfl, Nat.le_of_ble_eq_true rfl⟩) (pw_preV hw Ta0 (by decide) rfl) rfl rfl hl.1 rfl (lv_room (Nat.le_of_ble_eq_true rfl)) dX12_work_56 ⟨Nat.zero_le _, Nat.zero_le _⟩) hw (fun H locs hw hx17 => ?_)
      have Ta0 : TY S_14 a0 12 := ty_ext hx17 Ta0
      have hE : Ext S0 S_14 := Ext.tr hE hx17
      refine lv_pop hx hb dX12_work_59 rfl ?_
      refine lv_bipush (v := (-20)) hx hb dX12_work_60 (by decide) ?_
      cases hm
      exact pw_iret hx hb hr rfl hlk hw hE dX12_work_62
  · rw [if_pos h9] at hm
    refine lv_iconst (v := 0) hx hb dX12_work_38 (by decide) ?_
    cases hm
    exact pw_iret hx hb hr rfl hlk hw hE dX12_work_39
def b_X12_work_29 (n : Nat) (a0 : Nat) (x1 : Int32) (b0 : Nat) (S : pq_S) : Option (Int32 × pq_S) := b_X12_work_30 n a0 x1 b0 0 S
set_option maxHeartbeats 4000000 in
set_option maxRecDepth 100000 in
theorem wb_X12_work_29 {p : Program} {l : Launch} {e : Env} {s : State} {m : MethodId} {args : Array Value} {below : List Frame} {meth : Method} {c : Code} (cx : Cx p s m args meth c cX12_work 4 RX12 (some .int)) (C : pq_C) (X : va_W) (S0 : pq_S) (n : Nat) (r : Int32) (S1 : pq_S) : ∀ (a0 : Nat) (x1 : Int32) (b0 : Nat) (S : pq_S) (H : Heap) (locs : List Loc) (ls : Array Slot), PW C X S (pq_F C X S0 s.heap.size) H locs s → Ext S0 S → TY S a0 12 → TY S b0 12 → lv_has ls 4 [(0, .ref a0), (1, .int x1)] → b_X12_work_29 n a0 x1 b0 S = some (r, S1) → W p l e rm_X12_work s m args below meth c H locs 0 0 (MQ below (QcI C X S0 s.heap.size r S1) args s 0 0 (pq_F C X S0 s.heap.size)) (F0 m 29 ls [.ref b0]) := by
  obtain ⟨hx, hb, hml, hown, hU, hr, hlk⟩ := id cx
  intro a0 x1 b0 S H locs ls hw hE Ta0 Tb0 hl hm
  rw [b_X12_work_29] at hm
  refine lv_iconst (v := 0) hx hb dX12_work_29 (by decide) ?_
  exact wb_X12_work_30 cx C X S0 n r S1 a0 x1 b0 0 S _ _ _ hw hE Ta0 Tb0 (lv_sub hl [0, 1] rfl) hm
def m_X12_work (n : Nat) (a0 : Nat) (x1 : Int32) (S0 : pq_S) : Option (Int32 × pq_S) := if x1 < 0 then b_X12_work_29 n a0 x1 a0 (sI S0 1200 a0 0) else if (pI (sI S0 1200 a0 0) 1202 a0) < x1 then b_X12_work_29 n a0 x1 a0 (sI S0 1200 a0 0) else if 150 < x1 then b_X12_work_29 n a0 x1 a0 (sI S0 1200 a0 0) else b_X12_work_30 n a0 x1 a0 1 (sI S0 1200 a0 0)
theorem tc_X12_work : Cond.code yX12_work cX12_work 4 (some .int) ∈ pq_U := tw1819
theorem cd_X12_work : yX12_work.cls = RX12 ∧ yX12_work.cls ≠ "java/lang/invoke/MethodHandle" ∧ yX12_work.cls ≠ "java/lang/invoke/VarHandle" ∧ (parseMethodDescriptor yX12_work.desc).map (fun d => d.parameters.length) = some 1 := by decide +kernel
set_option maxHeartbeats 4000000 in
set_option maxRecDepth 100000 in
theorem c_X12_work (l : Launch) (C : pq_C) (X : va_W) (n : Nat) (S0 : pq_S) (hF : WF S0) (sz : Nat) (a0 : Nat) (x1 : Int32) (Ta0 : TY S0 a0 12) (r : Int32) (S1 : pq_S) (hm : m_X12_work n a0 x1 S0 = some (r, S1)) : MI l yX12_work (.code yX12_work cX12_work 4 (some .int) :: pq_U) rm_X12_work C X S0 sz [.ref a0, .int x1] r S1 0 0 := by
  refine Met.ofW (cc := cX12_work) (maxL := 4) (ret := (some .int)) (by decide) rfl ?_
  intro p e s m args below meth c s₁ B hml hv
  obtain ⟨rfl, hv⟩ := hv
  have hsz := hv.1
  subst hsz
  have hw := pw_entry hF hv
  have hts := atoms_spec (ws := .code yX12_work cX12_work 4 (some .int) :: pq_U) B.pre
  have hU : ∀ w ∈ pq_U, w.before _ s = true := fun w h => hts w (List.mem_cons_of_mem _ h)
  have hx := B.exec
  have hb := B.bytes
  have hr := B.returns
  have hown : s.vm.findClass RX12 = some m.cls := findClass_of_methodNamed B.named
  have hlk := B.notSynchronized
  have hl := lv_entry ([.ref a0, .int x1]) (n := 4) (Nat.le_of_ble_eq_true rfl)
  rw [lg_entry_eq]
  generalize (lg_sl ([.ref a0, .int x1]) ++ List.replicate (4 - (lg_sl ([.ref a0, .int x1])).length) Slot.unset).toArray = ls at hl ⊢
  have hl : lv_has ls 4 [(0, .ref a0), (1, .int x1)] := hl
  have hE : Ext S0 S0 := Ext.rf _
  have cx : Cx p s m _ meth c cX12_work 4 RX12 (some .int) := ⟨hx, hb, hml, hown, hU, hr, hlk⟩
  rw [m_X12_work] at hm
  refine lv_aload_n hx hb dX12_work_0 rfl (lv_at hl 0 rfl) ?_
  refine lv_iconst (v := 0) hx hb dX12_work_1 (by decide) ?_
  refine pp_i (k := 12) (j := 0) (f := 1200) hx hb hown hU iu12 tyX12_ok nmX12 hw Ta0 (by decide) rfl (hU _ tw1471) rfl rfl rfl dX12_work_2 (fun H locs hw => ?_)
  refine lv_aload_n hx hb dX12_work_5 rfl (lv_at hl 0 rfl) ?_
  refine lv_iload_n hx hb dX12_work_6 rfl (lv_at hl 1 rfl) ?_
  refine lv_if_lt (tgt := 29) hx hb dX12_work_7 (by decide) (fun h1 => ?_) (fun h1 => ?_)
  · rw [if_pos h1] at hm
    exact wb_X12_work_29 cx C X S0 n r S1 a0 x1 a0 (sI S0 1200 a0 0) _ _ _ hw hE Ta0 Ta0 (lv_sub hl [0, 1] rfl) hm
  · rw [if_neg h1] at hm
    refine lv_iload_n hx hb dX12_work_10 rfl (lv_at hl 1 rfl) ?_
    refine lv_aload_n hx hb dX12_work_11 rfl (lv_at hl 0 rfl) ?_
    refine pg_i (k := 12) (j := 2) (f := 1202) hx hb hown hU iu12 hw Ta0 (by decide) rfl (hU _ tw1473) rfl dX12_work_12 ?_
    refine lv_icmp_gt (tgt := 29) hx hb dX12_work_15 (by decide) (fun h2 => ?_) (fun h2 => ?_)
    · rw [if_pos h2] at hm
      exact wb_X12_work_29 cx C X S0 n r S1 a0 x1 a0 (sI S0 1200 a0 0) _ _ _ hw hE Ta0 Ta0 (lv_sub hl [0, 1] rfl) hm
    · rw [if_neg h2] at hm
      refine lv_iload_n hx hb dX12_work_18 rfl (lv_at hl 1 rfl) ?_
      refine lv_sipush (v := 150) hx hb dX12_work_19 (by decide) ?_
      refine lv_icmp_gt (tgt := 29) hx hb dX12_work_22 (by decide) (fun h3 => ?_) (fun h3 => ?_)
      · rw [if_pos h3] at hm
        exact wb_X12_work_29 cx C X S0 n r S1 a0 x1 a0 (sI S0 1200 a0 0) _ _ _ hw hE Ta0 Ta0 (lv_sub hl [0, 1] rfl) hm
      · rw [if_neg h3] at hm
        refine lv_iconst (v := 1) hx hb dX12_work_25 (by decide) ?_
        refine lv_goto (tgt := 30) hx hb dX12_work_26 (by decide) ?_
        exact wb_X12_work_30 cx C X S0 n r S1 a0 x1 a0 1 (sI S0 1200 a0 0) _ _ _ hw hE Ta0 Ta0 (lv_sub hl [0, 1] rfl) hm
