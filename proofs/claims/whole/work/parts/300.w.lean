abbrev rw_X11_need (mc ms : Nat) : Room := { frames := 6, cells := mc, slots := ms, locals := 89 }
set_option maxRecDepth 100000 in
theorem thrw_X11_need_14 : ∀ w ∈ vx_at0 "WickNights" 379 "java/lang/IllegalArgumentException" ["java/lang/RuntimeException", "java/lang/Exception"], w ∈ lw_tbl ∧ (goodWord w = true ∨ w ∈ pq_nw) := by decide +kernel
theorem thr_X11_need_14 {args : Array Value} {s : State} {C : pq_C} {X : va_W} {S : pq_S} {A : Nat → Prop} {H : Heap} {locs : List Loc} (hU : ∀ w ∈ pq_U, w.before args s = true) (hw : PW C X S A H locs s) : ∀ w ∈ vx_at0 "WickNights" 379 "java/lang/IllegalArgumentException" ["java/lang/RuntimeException", "java/lang/Exception"], w.before args s = true := fun w h => (thrw_X11_need_14 w h).2.elim (fun h1 => hU w (List.mem_filter.mpr ⟨(thrw_X11_need_14 w h).1, h1⟩)) (fun h1 => pq_N.use hw.fx.1.1 w h1)
def wp_X11_need (n : Nat) (a0 : Nat) (x1 : Int32) (S0 : pq_S) (mc ms : Nat) (E : (Nat → pq_S → Prop)) (Q : (pq_S → Prop)) : Prop := if x1 = 0 then 1 ≤ mc ∧ 6 ≤ ms ∧ E 1 (sI S0 1116 a0 ((pI S0 1116 a0) + (1 : Int32))) else Q S0
theorem tc_X11_need : Cond.code yX11_need cX11_need 2 none ∈ pq_U := tw493
theorem cd_X11_need : yX11_need.cls = RX11 ∧ yX11_need.cls ≠ "java/lang/invoke/MethodHandle" ∧ yX11_need.cls ≠ "java/lang/invoke/VarHandle" ∧ (parseMethodDescriptor yX11_need.desc).map (fun d => d.parameters.length) = some 1 := by decide +kernel
set_option maxHeartbeats 4000000 in
set_option maxRecDepth 100000 in
theorem cw_X11_need (l : Launch) (C : pq_C) (X : va_W) (n : Nat) (S0 : pq_S) (hF : WF S0) (sz : Nat) (a0 : Nat) (x1 : Int32) (Ta0 : TY S0 a0 11) (mc ms : Nat) (hst : l.stackTraces = false) (E : (Nat → pq_S → Prop)) (Q : (pq_S → Prop)) (hm : wp_X11_need n a0 x1 S0 mc ms E Q) : vx_Met l yX11_need (.code yX11_need cX11_need 2 none :: pq_U) (rw_X11_need mc ms) (va_Pc [.ref a0, .int x1] (CPre C X S0 sz)) (QwV C X S0 sz Q) (XcP C X S0 sz E) mc ms (pq_F C X S0 sz) := by
  refine vx_ofW (cc := cX11_need) (maxL := 2) (ret := none) (by decide) rfl ?_
  intro p e s m args below meth c s₁ B hml hno hv
  obtain ⟨rfl, hv⟩ := hv
  have hsz := hv.1
  subst hsz
  have hw := pw_entry hF hv
  have hts := atoms_spec (ws := .code yX11_need cX11_need 2 none :: pq_U) B.pre
  have hU : ∀ w ∈ pq_U, w.before _ s = true := fun w h => hts w (List.mem_cons_of_mem _ h)
  have hx := B.exec
  have hb := B.bytes
  have hr := B.returns
  have hown : s.vm.findClass RX11 = some m.cls := findClass_of_methodNamed B.named
  have hlk := B.notSynchronized
  have hl := lv_entry ([.ref a0, .int x1]) (n := 2) (Nat.le_of_ble_eq_true rfl)
  rw [lg_entry_eq]
  generalize (lg_sl ([.ref a0, .int x1]) ++ List.replicate (2 - (lg_sl ([.ref a0, .int x1])).length) Slot.unset).toArray = ls at hl ⊢
  have hl : lv_has ls 2 [(0, .ref a0), (1, .int x1)] := hl
  have hE : Ext S0 S0 := Ext.rf _
  have cx : Cx p s m _ meth c cX11_need 2 RX11 none := ⟨hx, hb, hml, hown, hU, hr, hlk⟩
  have hcc : 0 + mc ≤ mc := by omega
  have hss : 0 + ms ≤ ms := by omega
  rw [wp_X11_need] at hm
  refine lv_iload_n hx hb dX11_need_0 rfl (lv_at hl 1 rfl) ?_
  refine lv_if_ne (tgt := 22) hx hb dX11_need_1 (by decide) (fun h1 => ?_) (fun h1 => ?_)
  · rw [if_neg h1] at hm
    refine vx_ret ?_
    exact pw_wvret hx hb hr hlk hw hE hm (by omega) (by omega) dX11_need_22
  · rw [if_pos h1] at hm
    refine lv_aload_n hx hb dX11_need_4 rfl (lv_at hl 0 rfl) ?_
    refine lv_dup hx hb dX11_need_5 rfl ?_
    refine pg_i (k := 11) (j := 16) (f := 1116) hx hb hown hU iu11 hw Ta0 (by decide) rfl (hU _ tw379) rfl dX11_need_6 ?_
    refine lv_iconst (v := 1) hx hb dX11_need_9 (by decide) ?_
    refine lv_iadd hx hb dX11_need_10 ?_
    refine pp_i (k := 11) (j := 16) (f := 1116) hx hb hown hU iu11 tyX11_ok nmX11 hw Ta0 (by decide) rfl (hU _ tw379) rfl rfl rfl dX11_need_11 (fun H locs hw => ?_)
    obtain ⟨hb2, hb3, hm⟩ := hm
    exact px_throw (k := 1) (ik := 377) (ic := 379) (names := ["java/lang/RuntimeException", "java/lang/Exception"]) hx hb hst hown (by decide) (by decide) (hU _ tw494) (hU _ tw18) (thr_X11_need_14 hU hw) (by decide +kernel) hw hE hm (by rw [hml]; exact hl.1) dX11_need_14 dX11_need_17 dX11_need_18 dX11_need_21 hno (Nat.le_of_ble_eq_true rfl) (Nat.le_of_ble_eq_true rfl) (by show _ ≤ mc; omega) (by show _ ≤ ms; omega) hlk (by omega) (by omega)
abbrev rw_X11_needSuch (mc ms : Nat) : Room := { frames := 6, cells := mc, slots := ms, locals := 89 }
set_option maxRecDepth 100000 in
theorem thrw_X11_needSuch_14 : ∀ w ∈ vx_at0 "WickNights" 382 "java/util/NoSuchElementException" ["java/lang/RuntimeException", "java/lang/Exception"], w ∈ lw_tbl ∧ (goodWord w = true ∨ w ∈ pq_nw) := by decide +kernel
theorem thr_X11_needSuch_14 {args : Array Value} {s : State} {C : pq_C} {X : va_W} {S : pq_S} {A : Nat → Prop} {H : Heap} {locs : List Loc} (hU : ∀ w ∈ pq_U, w.before args s = true) (hw : PW C X S A H locs s) : ∀ w ∈ vx_at0 "WickNights" 382 "java/util/NoSuchElementException" ["java/lang/RuntimeException", "java/lang/Exception"], w.before args s = true := fun w h => (thrw_X11_needSuch_14 w h).2.elim (fun h1 => hU w (List.mem_filter.mpr ⟨(thrw_X11_needSuch_14 w h).1, h1⟩)) (fun h1 => pq_N.use hw.fx.1.1 w h1)
def wp_X11_needSuch (n : Nat) (a0 : Nat) (x1 : Int32) (S0 : pq_S) (mc ms : Nat) (E : (Nat → pq_S → Prop)) (Q : (pq_S → Prop)) : Prop := if x1 = 0 then 1 ≤ mc ∧ 6 ≤ ms ∧ E 2 (sI S0 1115 a0 ((pI S0 1115 a0) + (1 : Int32))) else Q S0
theorem tc_X11_needSuch : Cond.code yX11_needSuch cX11_needSuch 2 none ∈ pq_U := tw1007
theorem cd_X11_needSuch : yX11_needSuch.cls = RX11 ∧ yX11_needSuch.cls ≠ "java/lang/invoke/MethodHandle" ∧ yX11_needSuch.cls ≠ "java/lang/invoke/VarHandle" ∧ (parseMethodDescriptor yX11_needSuch.desc).map (fun d => d.parameters.length) = some 1 := by decide +kernel
set_option maxHeartbeats 4000000 in
set_option maxRecDepth 100000 in
theorem cw_X11_needSuch (l : Launch) (C : pq_C) (X : va_W) (n : Nat) (S0 : pq_S) (hF : WF S0) (sz : Nat) (a0 : Nat) (x1 : Int32) (Ta0 : TY S0 a0 11) (mc ms : Nat) (hst : l.stackTraces = false) (E : (Nat → pq_S → Prop)) (Q : (pq_S → Prop)) (hm : wp_X11_needSuch n a0 x1 S0 mc ms E Q) : vx_Met l yX11_needSuch (.code yX11_needSuch cX11_needSuch 2 none :: pq_U) (rw_X11_needSuch mc ms) (va_Pc [.ref a0, .int x1] (CPre C X S0 sz)) (QwV C X S0 sz Q) (XcP C X S0 sz E) mc ms (pq_F C X S0 sz) := by
  refine vx_ofW (cc := cX11_needSuch) (maxL := 2) (ret := none) (by decide) rfl ?_
  intro p e s m args below meth c s₁ B hml hno hv
  obtain ⟨rfl, hv⟩ := hv
  have hsz := hv.1
  subst hsz
  have hw := pw_entry hF hv
  have hts := atoms_spec (ws := .code yX11_needSuch cX11_needSuch 2 none :: pq_U) B.pre
  have hU : ∀ w ∈ pq_U, w.before _ s = true := fun w h => hts w (List.mem_cons_of_mem _ h)
  have hx := B.exec
  have hb := B.bytes
  have hr := B.returns
  have hown : s.vm.findClass RX11 = some m.cls := findClass_of_methodNamed B.named
  have hlk := B.notSynchronized
  have hl := lv_entry ([.ref a0, .int x1]) (n := 2) (Nat.le_of_ble_eq_true rfl)
  rw [lg_entry_eq]
  generalize (lg_sl ([.ref a0, .int x1]) ++ List.replicate (2 - (lg_sl ([.ref a0, .int x1])).length) Slot.unset).toArray = ls at hl ⊢
  have hl : lv_has ls 2 [(0, .ref a0), (1, .int x1)] := hl
  have hE : Ext S0 S0 := Ext.rf _
  have cx : Cx p s m _ meth c cX11_needSuch 2 RX11 none := ⟨hx, hb, hml, hown, hU, hr, hlk⟩
  have hcc : 0 + mc ≤ mc := by omega
  have hss : 0 + ms ≤ ms := by omega
  rw [wp_X11_needSuch] at hm
  refine lv_iload_n hx hb dX11_needSuch_0 rfl (lv_at hl 1 rfl) ?_
  refine lv_if_ne (tgt := 22) hx hb dX11_needSuch_1 (by decide) (fun h1 => ?_) (fun h1 => ?_)
  · rw [if_neg h1] at hm
    refine vx_ret ?_
    exact pw_wvret hx hb hr hlk hw hE hm (by omega) (by omega) dX11_needSuch_22
  · rw [if_pos h1] at hm
    refine lv_aload_n hx hb dX11_needSuch_4 rfl (lv_at hl 0 rfl) ?_
    refine lv_dup hx hb dX11_needSuch_5 rfl ?_
    refine pg_i (k := 11) (j := 15) (f := 1115) hx hb hown hU iu11 hw Ta0 (by decide) rfl (hU _ tw378) rfl dX11_needSuch_6 ?_
    refine lv_iconst (v := 1) hx hb dX11_needSuch_9 (by decide) ?_
    refine lv_iadd hx hb dX11_needSuch_10 ?_
    refine pp_i (k := 11) (j := 15) (f := 1115) hx hb hown hU iu11 tyX11_ok nmX11 hw Ta0 (by decide) rfl (hU _ tw378) rfl rfl rfl dX11_needSuch_11 (fun H locs hw => ?_)
    obtain ⟨hb2, hb3, hm⟩ := hm
    exact px_throw (k := 2) (ik := 380) (ic := 382) (names := ["java/lang/RuntimeException", "java/lang/Exception"]) hx hb hst hown (by decide) (by decide) (hU _ tw1008) (hU _ tw25) (thr_X11_needSuch_14 hU hw) (by decide +kernel) hw hE hm (by rw [hml]; exact hl.1) dX11_needSuch_14 dX11_needSuch_17 dX11_needSuch_18 dX11_needSuch_21 hno (Nat.le_of_ble_eq_true rfl) (Nat.le_of_ble_eq_true rfl) (by show _ ≤ mc; omega) (by show _ ≤ ms; omega) hlk (by omega) (by omega)
abbrev rw_X11_needPlace (mc ms : Nat) : Room := { frames := 7, cells := mc, slots := ms, locals := 110 }
def wp_X11_needPlace (n : Nat) (a0 : Nat) (x1 : Int32) (S0 : pq_S) (mc ms : Nat) (E : (Nat → pq_S → Prop)) (Q : (pq_S → Prop)) : Prop := ∃ q1 : Nat, (pR S0 1101 a0) = some q1 ∧ (∃ q2 : Nat, (pR S0 700 q1) = some q2 ∧ (∃ q3 : Nat, (pR S0 100 q2) = some q3 ∧ (∃ r6 S_4, m_X9_has n q3 x1 S0 = some (r6, S_4) ∧ (∃ c10 s11 : Nat, c10 ≤ mc ∧ s11 ≤ ms ∧ wp_X11_needSuch n a0 r6 S_4 c10 s11 E (fun S_9 => Q S_9)))))
theorem tc_X11_needPlace : Cond.code yX11_needPlace cX11_needPlace 2 none ∈ pq_U := tw999
theorem cd_X11_needPlace : yX11_needPlace.cls = RX11 ∧ yX11_needPlace.cls ≠ "java/lang/invoke/MethodHandle" ∧ yX11_needPlace.cls ≠ "java/lang/invoke/VarHandle" ∧ (parseMethodDescriptor yX11_needPlace.desc).map (fun d => d.parameters.length) = some 1 := by decide +kernel
set_option maxHeartbeats 4000000 in
set_option maxRecDepth 100000 in
theorem cw_X11_needPlace (l : Launch) (C : pq_C) (X : va_W) (n : Nat) (S0 : pq_S) (hF : WF S0) (sz : Nat) (a0 : Nat) (x1 : Int32) (Ta0 : TY S0 a0 11) (mc ms : Nat) (hst : l.stackTraces = false) (E : (Nat → pq_S → Prop)) (Q : (pq_S → Prop)) (hm : wp_X11_needPlace n a0 x1 S0 mc ms E Q) : vx_Met l yX11_needPlace (.code yX11_needPlace cX11_needPlace 2 none :: pq_U) (rw_X11_needPlace mc ms) (va_Pc [.ref a0, .int x1] (CPre C X S0 sz)) (QwV C X S0 sz Q) (XcP C X S0 sz E) mc ms (pq_F C X S0 sz) := by
  refine vx_ofW (cc := cX11_needPlace) (maxL := 2) (ret := none) (by decide) rfl ?_
  intro p e s m args below meth c s₁ B hml hno hv
  obtain ⟨rfl, hv⟩ := hv
  have hsz := hv.1
  subst hsz
  have hw := pw_entry hF hv
  have hts := atoms_spec (ws := .code yX11_needPlace cX11_needPlace 2 none :: pq_U) B.pre
  have hU : ∀ w ∈ pq_U, w.before _ s = true := fun w h => hts w (List.mem_cons_of_mem _ h)
  have hx := B.exec
  have hb := B.bytes
  have hr := B.returns
  have hown : s.vm.findClass RX11 = some m.cls := findClass_of_methodNamed B.named
  have hlk := B.notSynchronized
  have hl := lv_entry ([.ref a0, .int x1]) (n := 2) (Nat.le_of_ble_eq_true rfl)
  rw [lg_entry_eq]
  generalize (lg_sl ([.ref a0, .int x1]) ++ List.replicate (2 - (lg_sl ([.ref a0, .int x1])).length) Slot.unset).toArray = ls at hl ⊢
  have hl : lv_has ls 2 [(0, .ref a0), (1, .int x1)] := hl
  have hE : Ext S0 S0 := Ext.rf _
  have cx : Cx p s m _ meth c cX11_needPlace 2 RX11 none := ⟨hx, hb, hml, hown, hU, hr, hlk⟩
  have hcc : 0 + mc ≤ mc := by omega
  have hss : 0 + ms ≤ ms := by omega
  rw [wp_X11_needPlace] at hm
  refine lv_aload_n hx hb dX11_needPlace_0 rfl (lv_at hl 0 rfl) ?_
  refine lv_aload_n hx hb dX11_needPlace_1 rfl (lv_at hl 0 rfl) ?_
  obtain ⟨q1, hq1, hm⟩ := hm
  have Tq1 : TY S0 q1 7 := hw.wf.ref (k := 11) (j := 1) Ta0 (by decide) (by decide) hq1
  refine pg_rb (k := 11) (j := 1) (f := 1101) hx hb hown hU iu11 hw Ta0 (by decide) rfl (hU _ tw364) rfl hq1 dX11_needPlace_2 ?_
  obtain ⟨q2, hq2, hm⟩ := hm
  have Tq2 : TY S0 q2 1 := hw.wf.ref (k := 7) (j := 0) Tq1 (by decide) (by decide) hq2
  refine pgN_rb (k := 7) (j := 0) (f := 700) hx hb hown hU iu7 hw Tq1 (by decide) rfl 55 rfl rfl hq2 dX11_needPlace_5 ?_
  obtain ⟨q3, hq3, hm⟩ := hm
  have Tq3 : TY S0 q3 9 := hw.wf.ref (k := 1) (j := 0) Tq2 (by decide) (by decide) hq3
  refine pgN_rb (k := 1) (j := 0) (f := 100) hx hb hown hU iu1 hw Tq2 (by decide) rfl 22 rfl rfl hq3 dX11_needPlace_8 ?_
  refine lv_iload_n hx hb dX11_needPlace_11 rfl (lv_at hl 1 rfl) ?_
  obtain ⟨r6, S_4, hq5, hm⟩ := hm
  refine pw_cz (va_runVN (As := [.int x1]) (rest := [.ref a0]) ⟨hx, hb, hml, hown, hU⟩ (c_X9_has l C X n S0 hw.wf _ q3 x1 (Tq3) r6 S_4 hq5) ⟨va_cnB (host := "WickNights") 1 hU (pq_g1 tc_X9_has) rfl rfl rfl (hw.nw 156 rfl) (hU _ tw5) cd_X9_has.2 ⟨Nat.le_of_ble_eq_true rfl, Nat.le_of_ble_eq_true rfl⟩, hU _ tw1002, hU _ ts77⟩ (pw_preV hw Tq3 (by decide) rfl) rfl rfl hl.1 rfl (lv_room (Nat.le_of_ble_eq_true rfl)) dX11_needPlace_12 ⟨by show _ ≤ mc; omega, by show _ ≤ ms; omega⟩) hw (fun H locs hw hx7 hz8 => ?_)
  have Ta0 : TY S_4 a0 11 := ty_ext hx7 Ta0
  have hE : Ext S0 S_4 := Ext.tr hE hx7
  obtain ⟨c10, s11, hb12, hb13, hm⟩ := hm
  refine px_v (vx_runV (As := [.int r6]) (rest := []) ⟨hx, hb, hml, hown, hU⟩ (cw_X11_needSuch l C X n S_4 hw.wf _ a0 r6 (Ta0) c10 s11 hst E _ hm) (cwV 1 hU (pq_gV tw1004 tw1006 ts78 tw1 tc_X11_needSuch) rfl rfl rfl cd_X11_needSuch ⟨Nat.le_of_ble_eq_true rfl, Nat.le_of_ble_eq_true rfl⟩) (pw_preV hw Ta0 (by decide) rfl) rfl rfl hl.1 rfl (lv_room (Nat.le_of_ble_eq_true rfl)) dX11_needPlace_15 ⟨by show _ ≤ mc; omega, by show _ ≤ ms; omega⟩) hw hE hno hlk (by omega) (by omega) (fun S_9 H locs hm hw hx14 => ?_)
  have Ta0 : TY S_9 a0 11 := ty_ext hx14 Ta0
  have hE : Ext S0 S_9 := Ext.tr hE hx14
  refine W.widen (k := c10) (n := s11) (by omega) (by omega) ?_
  have hcc : c10 + (mc - (c10)) ≤ mc := by omega
  have hss : s11 + (ms - (s11)) ≤ ms := by omega
  refine vx_ret ?_
  exact pw_wvret hx hb hr hlk hw hE hm (by omega) (by omega) dX11_needPlace_18
abbrev rw_X11_needWant (mc ms : Nat) : Room := { frames := 7, cells := mc, slots := ms, locals := 110 }
def wp_X11_needWant (n : Nat) (a0 : Nat) (x1 : Int32) (S0 : pq_S) (mc ms : Nat) (E : (Nat → pq_S → Prop)) (Q : (pq_S → Prop)) : Prop := ∃ q1 : Nat, (pR S0 1101 a0) = some q1 ∧ (∃ q2 : Nat, (pR S0 700 q1) = some q2 ∧ (∃ q3 : Nat, (pR S0 101 q2) = some q3 ∧ (∃ r6 S_4, m_X9_has n q3 x1 S0 = some (r6, S_4) ∧ (∃ c10 s11 : Nat, c10 ≤ mc ∧ s11 ≤ ms ∧ wp_X11_needSuch n a0 r6 S_4 c10 s11 E (fun S_9 => Q S_9)))))
theorem tc_X11_needWant : Cond.code yX11_needWant cX11_needWant 2 none ∈ pq_U := tw1042
theorem cd_X11_needWant : yX11_needWant.cls = RX11 ∧ yX11_needWant.cls ≠ "java/lang/invoke/MethodHandle" ∧ yX11_needWant.cls ≠ "java/lang/invoke/VarHandle" ∧ (parseMethodDescriptor yX11_needWant.desc).map (fun d => d.parameters.length) = some 1 := by decide +kernel
set_option maxHeartbeats 4000000 in
set_option maxRecDepth 100000 in
theorem cw_X11_needWant (l : Launch) (C : pq_C) (X : va_W) (n : Nat) (S0 : pq_S) (hF : WF S0) (sz : Nat) (a0 : Nat) (x1 : Int32) (Ta0 : TY S0 a0 11) (mc ms : Nat) (hst : l.stackTraces = false) (E : (Nat → pq_S → Prop)) (Q : (pq_S → Prop)) (hm : wp_X11_needWant n a0 x1 S0 mc ms E Q) : vx_Met l yX11_needWant (.code yX11_needWant cX11_needWant 2 none :: pq_U) (rw_X11_needWant mc ms) (va_Pc [.ref a0, .int x1] (CPre C X S0 sz)) (QwV C X S0 sz Q) (XcP C X S0 sz E) mc ms (pq_F C X S0 sz) := by
  refine vx_ofW (cc := cX11_needWant) (maxL := 2) (ret := none) (by decide) rfl ?_
  intro p e s m args below meth c s₁ B hml hno hv
  obtain ⟨rfl, hv⟩ := hv
  have hsz := hv.1
  subst hsz
  have hw := pw_entry hF hv
  have hts := atoms_spec (ws := .code yX11_needWant cX11_needWant 2 none :: pq_U) B.pre
  have hU : ∀ w ∈ pq_U, w.before _ s = true := fun w h => hts w (List.mem_cons_of_mem _ h)
  have hx := B.exec
  have hb := B.bytes
  have hr := B.returns
  have hown : s.vm.findClass RX11 = some m.cls := findClass_of_methodNamed B.named
  have hlk := B.notSynchronized
  have hl := lv_entry ([.ref a0, .int x1]) (n := 2) (Nat.le_of_ble_eq_true rfl)
  rw [lg_entry_eq]
  generalize (lg_sl ([.ref a0, .int x1]) ++ List.replicate (2 - (lg_sl ([.ref a0, .int x1])).length) Slot.unset).toArray = ls at hl ⊢
  have hl : lv_has ls 2 [(0, .ref a0), (1, .int x1)] := hl
  have hE : Ext S0 S0 := Ext.rf _
  have cx : Cx p s m _ meth c cX11_needWant 2 RX11 none := ⟨hx, hb, hml, hown, hU, hr, hlk⟩
  have hcc : 0 + mc ≤ mc := by omega
  have hss : 0 + ms ≤ ms := by omega
  rw [wp_X11_needWant] at hm
  refine lv_aload_n hx hb dX11_needWant_0 rfl (lv_at hl 0 rfl) ?_
  refine lv_aload_n hx hb dX11_needWant_1 rfl (lv_at hl 0 rfl) ?_
  obtain ⟨q1, hq1, hm⟩ := hm
  have Tq1 : TY S0 q1 7 := hw.wf.ref (k := 11) (j := 1) Ta0 (by decide) (by decide) hq1
  refine pg_rb (k := 11) (j := 1) (f := 1101) hx hb hown hU iu11 hw Ta0 (by decide) rfl (hU _ tw364) rfl hq1 dX11_needWant_2 ?_
  obtain ⟨q2, hq2, hm⟩ := hm
  have Tq2 : TY S0 q2 1 := hw.wf.ref (k := 7) (j := 0) Tq1 (by decide) (by decide) hq2
  refine pgN_rb (k := 7) (j := 0) (f := 700) hx hb hown hU iu7 hw Tq1 (by decide) rfl 55 rfl rfl hq2 dX11_needWant_5 ?_
  obtain ⟨q3, hq3, hm⟩ := hm
  have Tq3 : TY S0 q3 9 := hw.wf.ref (k := 1) (j := 1) Tq2 (by decide) (by decide) hq3
  refine pgN_rb (k := 1) (j := 1) (f := 101) hx hb hown hU iu1 hw Tq2 (by decide) rfl 32 rfl rfl hq3 dX11_needWant_8 ?_
  refine lv_iload_n hx hb dX11_needWant_11 rfl (lv_at hl 1 rfl) ?_
  obtain ⟨r6, S_4, hq5, hm⟩ := hm
  refine pw_cz (va_runVN (As := [.int x1]) (rest := [.ref a0]) ⟨hx, hb, hml, hown, hU⟩ (c_X9_has l C X n S0 hw.wf _ q3 x1 (Tq3) r6 S_4 hq5) ⟨va_cnB (host := "WickNights") 1 hU (pq_g1 tc_X9_has) rfl rfl rfl (hw.nw 156 rfl) (hU _ tw5) cd_X9_has.2 ⟨Nat.le_of_ble_eq_true rfl, Nat.le_of_ble_eq_true rfl⟩, hU _ tw1002, hU _ ts77⟩ (pw_preV hw Tq3 (by decide) rfl) rfl rfl hl.1 rfl (lv_room (Nat.le_of_ble_eq_true rfl)) dX11_needWant_12 ⟨by show _ ≤ mc; omega, by show _ ≤ ms; omega⟩) hw (fun H locs hw hx7 hz8 => ?_)
  have Ta0 : TY S_4 a0 11 := ty_ext hx7 Ta0
  have hE : Ext S0 S_4 := Ext.tr hE hx7
  obtain ⟨c10, s11, hb12, hb13, hm⟩ := hm
  refine px_v (vx_runV (As := [.int r6]) (rest := []) ⟨hx, hb, hml, hown, hU⟩ (cw_X11_needSuch l C X n S_4 hw.wf _ a0 r6 (Ta0) c10 s11 hst E _ hm) (cwV 1 hU (pq_gV tw1004 tw1006 ts78 tw1 tc_X11_needSuch) rfl rfl rfl cd_X11_needSuch ⟨Nat.le_of_ble_eq_true rfl, Nat.le_of_ble_eq_true rfl⟩) (pw_preV hw Ta0 (by decide) rfl) rfl rfl hl.1 rfl (lv_room (Nat.le_of_ble_eq_true rfl)) dX11_needWant_15 ⟨by show _ ≤ mc; omega, by show _ ≤ ms; omega⟩) hw hE hno hlk (by omega) (by omega) (fun S_9 H locs hm hw hx14 => ?_)
  have Ta0 : TY S_9 a0 11 := ty_ext hx14 Ta0
  have hE : Ext S0 S_9 := Ext.tr hE hx14
  refine W.widen (k := c10) (n := s11) (by omega) (by omega) ?_
  have hcc : c10 + (mc - (c10)) ≤ mc := by omega
  have hss : s11 + (ms - (s11)) ≤ ms := by omega
  refine vx_ret ?_
  exact pw_wvret hx hb hr hlk hw hE hm (by omega) (by omega) dX11_needWant_18
abbrev rw_X11_needMine (mc ms : Nat) : Room := { frames := 7, cells := mc, slots := ms, locals := 110 }
def wp_X11_needMine (n : Nat) (a0 : Nat) (x1 : Int32) (S0 : pq_S) (mc ms : Nat) (E : (Nat → pq_S → Prop)) (Q : (pq_S → Prop)) : Prop := ∃ q1 : Nat, (pR S0 1101 a0) = some q1 ∧ (∃ q2 : Nat, (pR S0 700 q1) = some q2 ∧ (∃ q3 : Nat, (pR S0 102 q2) = some q3 ∧ (∃ r6 S_4, m_X9_has n q3 x1 S0 = some (r6, S_4) ∧ (∃ c10 s11 : Nat, c10 ≤ mc ∧ s11 ≤ ms ∧ wp_X11_needSuch n a0 r6 S_4 c10 s11 E (fun S_9 => Q S_9)))))
theorem tc_X11_needMine : Cond.code yX11_needMine cX11_needMine 2 none ∈ pq_U := tw1053
theorem cd_X11_needMine : yX11_needMine.cls = RX11 ∧ yX11_needMine.cls ≠ "java/lang/invoke/MethodHandle" ∧ yX11_needMine.cls ≠ "java/lang/invoke/VarHandle" ∧ (parseMethodDescriptor yX11_needMine.desc).map (fun d => d.parameters.length) = some 1 := by decide +kernel
set_option maxHeartbeats 4000000 in
set_option maxRecDepth 100000 in
theorem cw_X11_needMine (l : Launch) (C : pq_C) (X : va_W) (n : Nat) (S0 : pq_S) (hF : WF S0) (sz : Nat) (a0 : Nat) (x1 : Int32) (Ta0 : TY S0 a0 11) (mc ms : Nat) (hst : l.stackTraces = false) (E : (Nat → pq_S → Prop)) (Q : (pq_S → Prop)) (hm : wp_X11_needMine n a0 x1 S0 mc ms E Q) : vx_Met l yX11_needMine (.code yX11_needMine cX11_needMine 2 none :: pq_U) (rw_X11_needMine mc ms) (va_Pc [.ref a0, .int x1] (CPre C X S0 sz)) (QwV C X S0 sz Q) (XcP C X S0 sz E) mc ms (pq_F C X S0 sz) := by
  refine vx_ofW (cc := cX11_needMine) (maxL := 2) (ret := none) (by decide) rfl ?_
  intro p e s m args below meth c s₁ B hml hno hv
  obtain ⟨rfl, hv⟩ := hv
  have hsz := hv.1
  subst hsz
  have hw := pw_entry hF hv
  have hts := atoms_spec (ws := .code yX11_needMine cX11_needMine 2 none :: pq_U) B.pre
  have hU : ∀ w ∈ pq_U, w.before _ s = true := fun w h => hts w (List.mem_cons_of_mem _ h)
  have hx := B.exec
  have hb := B.bytes
  have hr := B.returns
  have hown : s.vm.findClass RX11 = some m.cls := findClass_of_methodNamed B.named
  have hlk := B.notSynchronized
  have hl := lv_entry ([.ref a0, .int x1]) (n := 2) (Nat.le_of_ble_eq_true rfl)
  rw [lg_entry_eq]
  generalize (lg_sl ([.ref a0, .int x1]) ++ List.replicate (2 - (lg_sl ([.ref a0, .int x1])).length) Slot.unset).toArray = ls at hl ⊢
  have hl : lv_has ls 2 [(0, .ref a0), (1, .int x1)] := hl
  have hE : Ext S0 S0 := Ext.rf _
  have cx : Cx p s m _ meth c cX11_needMine 2 RX11 none := ⟨hx, hb, hml, hown, hU, hr, hlk⟩
  have hcc : 0 + mc ≤ mc := by omega
  have hss : 0 + ms ≤ ms := by omega
  rw [wp_X11_needMine] at hm
  refine lv_aload_n hx hb dX11_needMine_0 rfl (lv_at hl 0 rfl) ?_
  refine lv_aload_n hx hb dX11_needMine_1 rfl (lv_at hl 0 rfl) ?_
  obtain ⟨q1, hq1, hm⟩ := hm
  have Tq1 : TY S0 q1 7 := hw.wf.ref (k := 11) (j := 1) Ta0 (by decide) (by decide) hq1
  refine pg_rb (k := 11) (j := 1) (f := 1101) hx hb hown hU iu11 hw Ta0 (by decide) rfl (hU _ tw364) rfl hq1 dX11_needMine_2 ?_
  obtain ⟨q2, hq2, hm⟩ := hm
  have Tq2 : TY S0 q2 1 := hw.wf.ref (k := 7) (j := 0) Tq1 (by decide) (by decide) hq2
  refine pgN_rb (k := 7) (j := 0) (f := 700) hx hb hown hU iu7 hw Tq1 (by decide) rfl 55 rfl rfl hq2 dX11_needMine_5 ?_
  obtain ⟨q3, hq3, hm⟩ := hm
  have Tq3 : TY S0 q3 9 := hw.wf.ref (k := 1) (j := 2) Tq2 (by decide) (by decide) hq3
  refine pgN_rb (k := 1) (j := 2) (f := 102) hx hb hown hU iu1 hw Tq2 (by decide) rfl 36 rfl rfl hq3 dX11_needMine_8 ?_
  refine lv_iload_n hx hb dX11_needMine_11 rfl (lv_at hl 1 rfl) ?_
  obtain ⟨r6, S_4, hq5, hm⟩ := hm
  refine pw_cz (va_runVN (As := [.int x1]) (rest := [.ref a0]) ⟨hx, hb, hml, hown, hU⟩ (c_X9_has l C X n S0 hw.wf _ q3 x1 (Tq3) r6 S_4 hq5) ⟨va_cnB (host := "WickNights") 1 hU (pq_g1 tc_X9_has) rfl rfl rfl (hw.nw 156 rfl) (hU _ tw5) cd_X9_has.2 ⟨Nat.le_of_ble_eq_true rfl, Nat.le_of_ble_eq_true rfl⟩, hU _ tw1002, hU _ ts77⟩ (pw_preV hw Tq3 (by decide) rfl) rfl rfl hl.1 rfl (lv_room (Nat.le_of_ble_eq_true rfl)) dX11_needMine_12 ⟨by show _ ≤ mc; omega, by show _ ≤ ms; omega⟩) hw (fun H locs hw hx7 hz8 => ?_)
  have Ta0 : TY S_4 a0 11 := ty_ext hx7 Ta0
  have hE : Ext S0 S_4 := Ext.tr hE hx7
  obtain ⟨c10, s11, hb12, hb13, hm⟩ := hm
  refine px_v (vx_runV (As := [.int r6]) (rest := []) ⟨hx, hb, hml, hown, hU⟩ (cw_X11_needSuch l C X n S_4 hw.wf _ a0 r6 (Ta0) c10 s11 hst E _ hm) (cwV 1 hU (pq_gV tw1004 tw1006 ts78 tw1 tc_X11_needSuch) rfl rfl rfl cd_X11_needSuch ⟨Nat.le_of_ble_eq_true rfl, Nat.le_of_ble_eq_true rfl⟩) (pw_preV hw Ta0 (by decide) rfl) rfl rfl hl.1 rfl (lv_room (Nat.le_of_ble_eq_true rfl)) dX11_needMine_15 ⟨by show _ ≤ mc; omega, by show _ ≤ ms; omega⟩) hw hE hno hlk (by omega) (by omega) (fun S_9 H locs hm hw hx14 => ?_)
  have Ta0 : TY S_9 a0 11 := ty_ext hx14 Ta0
  have hE : Ext S0 S_9 := Ext.tr hE hx14
  refine W.widen (k := c10) (n := s11) (by omega) (by omega) ?_
  have hcc : c10 + (mc - (c10)) ≤ mc := by omega
  have hss : s11 + (ms - (s11)) ≤ ms := by omega
  refine vx_ret ?_
  exact pw_wvret hx hb hr hlk hw hE hm (by omega) (by omega) dX11_needMine_18
abbrev rw_X12_init (mc ms : Nat) : Room := { frames := 2, cells := mc, slots := ms, locals := 45 }
def wp_X12_init (n : Nat) (a0 : Nat) (S0 : pq_S) (mc ms : Nat) (Q : (pq_S → Prop)) : Prop := 1 ≤ mc ∧ 2 ≤ ms ∧ ∀ q1 : Nat, q1 ∉ pL S0 → (1 ≤ (mc - (1)) ∧ 600 ≤ (ms - (2)) ∧ ∀ q7 : Nat, q7 ∉ pL (sI (sR (nA S0 q1 14 2) 1201 a0 (some q1)) 1208 a0 (-1)) → (lt_ (nA (sI (sR (nA S0 q1 14 2) 1201 a0 (some q1)) 1208 a0 (-1)) q7 14 600) fun S_13 => 1 ≤ (mc - (2)) ∧ 24 ≤ (ms - (602)) ∧ ∀ q14 : Nat, q14 ∉ pL (sR S_13 1209 a0 (some q7)) → (1 ≤ (mc - (3)) ∧ 48 ≤ (ms - (626)) ∧ ∀ q20 : Nat, q20 ∉ pL (sR (nA (sR S_13 1209 a0 (some q7)) q14 14 24) 1210 a0 (some q14)) → (lt_ (nA (sR (nA (sR S_13 1209 a0 (some q7)) q14 14 24) 1210 a0 (some q14)) q20 14 48) fun S_26 => 1 ≤ (mc - (4)) ∧ 9 ≤ (ms - (674)) ∧ ∀ q27 : Nat, q27 ∉ pL (sR S_26 1211 a0 (some q20)) → (1 ≤ (mc - (5)) ∧ 6 ≤ (ms - (683)) ∧ ∀ q33 : Nat, q33 ∉ pL (sR (nA (sR S_26 1211 a0 (some q20)) q27 14 9) 1212 a0 (some q27)) → (lt_ (nA (sR (nA (sR S_26 1211 a0 (some q20)) q27 14 9) 1212 a0 (some q27)) q33 14 6) fun S_39 => 1 ≤ (mc - (6)) ∧ 24 ≤ (ms - (689)) ∧ ∀ q40 : Nat, q40 ∉ pL (sR S_39 1213 a0 (some q33)) → (1 ≤ (mc - (7)) ∧ 48 ≤ (ms - (713)) ∧ ∀ q46 : Nat, q46 ∉ pL (sR (nA (sR S_39 1213 a0 (some q33)) q40 14 24) 1214 a0 (some q40)) → (lt_ (nA (sR (nA (sR S_39 1213 a0 (some q33)) q40 14 24) 1214 a0 (some q40)) q46 14 48) fun S_52 => 1 ≤ (mc - (8)) ∧ 9 ≤ (ms - (761)) ∧ ∀ q53 : Nat, q53 ∉ pL (sR S_52 1215 a0 (some q46)) → (1 ≤ (mc - (9)) ∧ 6 ≤ (ms - (770)) ∧ ∀ q59 : Nat, q59 ∉ pL (sR (nA (sR S_52 1215 a0 (some q46)) q53 14 9) 1216 a0 (some q53)) → (lt_ (nA (sR (nA (sR S_52 1215 a0 (some q46)) q53 14 9) 1216 a0 (some q53)) q59 14 6) fun S_65 => 1 ≤ (mc - (10)) ∧ 150 ≤ (ms - (776)) ∧ ∀ q66 : Nat, q66 ∉ pL (sR S_65 1217 a0 (some q59)) → (1 ≤ (mc - (11)) ∧ 150 ≤ (ms - (926)) ∧ ∀ q72 : Nat, q72 ∉ pL (sR (nA (sR S_65 1217 a0 (some q59)) q66 14 150) 1230 a0 (some q66)) → (lt_ (nA (sR (nA (sR S_65 1217 a0 (some q59)) q66 14 150) 1230 a0 (some q66)) q72 14 150) fun S_78 => 1 ≤ (mc - (12)) ∧ 300 ≤ (ms - (1076)) ∧ ∀ q79 : Nat, q79 ∉ pL (sR S_78 1231 a0 (some q72)) → (1 ≤ (mc - (13)) ∧ 300 ≤ (ms - (1376)) ∧ ∀ q85 : Nat, q85 ∉ pL (sR (nA (sR S_78 1231 a0 (some q72)) q79 14 300) 1232 a0 (some q79)) → (lt_ (nA (sR (nA (sR S_78 1231 a0 (some q72)) q79 14 300) 1232 a0 (some q79)) q85 14 300) fun S_91 => 1 ≤ (mc - (14)) ∧ 2 ≤ (ms - (1676)) ∧ ∀ q92 : Nat, q92 ∉ pL (sR S_91 1233 a0 (some q85)) → (1 ≤ (mc - (15)) ∧ 150 ≤ (ms - (1678)) ∧ ∀ q98 : Nat, q98 ∉ pL (sR (nA (sR S_91 1233 a0 (some q85)) q92 14 2) 1234 a0 (some q92)) → (lt_ (nA (sR (nA (sR S_91 1233 a0 (some q85)) q92 14 2) 1234 a0 (some q92)) q98 14 150) fun S_104 => 1 ≤ (mc - (16)) ∧ 7 ≤ (ms - (1828)) ∧ ∀ q105 : Nat, q105 ∉ pL (sR S_104 1235 a0 (some q98)) → (1 ≤ (mc - (17)) ∧ 250 ≤ (ms - (1835)) ∧ ∀ q111 : Nat, q111 ∉ pL (sR (nA (sR S_104 1235 a0 (some q98)) q105 14 7) 1237 a0 (some q105)) → (lt_ (nA (sR (nA (sR S_104 1235 a0 (some q98)) q105 14 7) 1237 a0 (some q105)) q111 14 250) fun S_117 => 1 ≤ (mc - (18)) ∧ 250 ≤ (ms - (2085)) ∧ ∀ q118 : Nat, q118 ∉ pL (sR S_117 1238 a0 (some q111)) → (lt_ (sR (nA (sR S_117 1238 a0 (some q111)) q118 14 250) 1239 a0 (some q118)) fun S_124 => 1 ≤ (mc - (19)) ∧ 50 ≤ (ms - (2335)) ∧ ∀ q125 : Nat, q125 ∉ pL S_124 → (1 ≤ (mc - (20)) ∧ 50 ≤ (ms - (2385)) ∧ ∀ q131 : Nat, q131 ∉ pL (sR (nA S_124 q125 14 50) 1246 a0 (some q125)) → (lt_ (sR (nA (sR (nA S_124 q125 14 50) 1246 a0 (some q125)) q131 14 50) 1247 a0 (some q131)) fun S_137 => 1 ≤ (mc - (21)) ∧ 800 ≤ (ms - (2435)) ∧ ∀ q138 : Nat, q138 ∉ pL S_137 → (1 ≤ (mc - (22)) ∧ 12 ≤ (ms - (3235)) ∧ ∀ q144 : Nat, q144 ∉ pL (sR (nA S_137 q138 14 800) 1248 a0 (some q138)) → (lt_ (sR (nA (sR (nA S_137 q138 14 800) 1248 a0 (some q138)) q144 14 12) 1249 a0 (some q144)) fun S_150 => 1 ≤ (mc - (23)) ∧ 12 ≤ (ms - (3247)) ∧ ∀ q151 : Nat, q151 ∉ pL S_150 → (1 ≤ (mc - (24)) ∧ 12 ≤ (ms - (3259)) ∧ ∀ q157 : Nat, q157 ∉ pL (sR (nA S_150 q151 14 12) 1250 a0 (some q151)) → (lt_ (sR (nA (sR (nA S_150 q151 14 12) 1250 a0 (some q151)) q157 14 12) 1252 a0 (some q157)) fun S_163 => 1 ≤ (mc - (25)) ∧ 12 ≤ (ms - (3271)) ∧ ∀ q164 : Nat, q164 ∉ pL S_163 → (1 ≤ (mc - (26)) ∧ 12 ≤ (ms - (3283)) ∧ ∀ q170 : Nat, q170 ∉ pL (sR (nA S_163 q164 14 12) 1259 a0 (some q164)) → (lt_ (sR (nA (sR (nA S_163 q164 14 12) 1259 a0 (some q164)) q170 14 12) 1260 a0 (some q170)) fun S_176 => 1 ≤ (mc - (27)) ∧ 41 ≤ (ms - (3295)) ∧ ∀ q177 : Nat, q177 ∉ pL S_176 → (1 ≤ (mc - (28)) ∧ 41 ≤ (ms - (3336)) ∧ ∀ q183 : Nat, q183 ∉ pL (sR (nA S_176 q177 14 41) 1262 a0 (some q177)) → (lt_ (sR (nA (sR (nA S_176 q177 14 41) 1262 a0 (some q177)) q183 14 41) 1263 a0 (some q183)) fun S_189 => 1 ≤ (mc - (29)) ∧ 6 ≤ (ms - (3377)) ∧ ∀ q190 : Nat, q190 ∉ pL S_189 → (1 ≤ (mc - (30)) ∧ 2553 ≤ (ms - (3383)) ∧ ∀ q196 : Nat, q196 ∉ pL (sR (nA S_189 q190 14 6) 1264 a0 (some q190)) → (lt_ (sR (nA (sR (nA S_189 q190 14 6) 1264 a0 (some q190)) q196 14 2553) 1271 a0 (some q196)) fun S_202 => ∃ S_203 : pq_S, m_X12_clears n a0 S_202 = some S_203 ∧ (∃ S_206 : pq_S, m_X12_sets n a0 S_203 = some S_206 ∧ (Q S_206)))))))))))))))))))))))))))))))))
theorem tc_X12_init : Cond.code yX12_init cX12_init 1 none ∈ pq_U := tw1457
theorem cd_X12_init : yX12_init.cls = RX12 ∧ yX12_init.cls ≠ "java/lang/invoke/MethodHandle" ∧ yX12_init.cls ≠ "java/lang/invoke/VarHandle" ∧ (parseMethodDescriptor yX12_init.desc).map (fun d => d.parameters.length) = some 0 := by decide +kernel
set_option maxHeartbeats 4000000 in
set_option maxRecDepth 100000 in
theorem cw_X12_init (l : Launch) (C : pq_C) (X : va_W) (n : Nat) (S0 : pq_S) (hF : WF S0) (sz : Nat) (a0 : Nat) (Ta0 : TY S0 a0 12) (mc ms : Nat) (Q : (pq_S → Prop)) (hm : wp_X12_init n a0 S0 mc ms Q) : Met l yX12_init (.code yX12_init cX12_init 1 none :: pq_U) (rw_X12_init mc ms) (va_Pc [.ref a0] (CPre C X S0 sz)) (QwV C X S0 sz Q) mc ms (pq_F C X S0 sz) := by
  refine Met.ofW (cc := cX12_init) (maxL := 1) (ret := none) (by decide) rfl ?_
  intro p e s m args below meth c s₁ B hml hv
  obtain ⟨rfl, hv⟩ := hv
  have hsz := hv.1
  subst hsz
  have hw := pw_entry hF hv
  have hts := atoms_spec (ws := .code yX12_init cX12_init 1 none :: pq_U) B.pre
  have hU : ∀ w ∈ pq_U, w.before _ s = true := fun w h => hts w (List.mem_cons_of_mem _ h)
  have hx := B.exec
  have hb := B.bytes
  have hr := B.returns
  have hown : s.vm.findClass RX12 = some m.cls := findClass_of_methodNamed B.named
  have hlk := B.notSynchronized
  have hin : meth.name = "<init>" := (name_of_methodNamed B.named B.method).1
  have hl := lv_entry ([.ref a0]) (n := 1) (Nat.le_of_ble_eq_true rfl)
  rw [lg_entry_eq]
  generalize (lg_sl ([.ref a0]) ++ List.replicate (1 - (lg_sl ([.ref a0])).length) Slot.unset).toArray = ls at hl ⊢
  have hl : lv_has ls 1 [(0, .ref a0)] := hl
  have hE : Ext S0 S0 := Ext.rf _
  have cx : Cx p s m _ meth c cX12_init 1 RX12 none := ⟨hx, hb, hml, hown, hU, hr, hlk⟩
  have hcc : 0 + mc ≤ mc := by omega
  have hss : 0 + ms ≤ ms := by omega
  rw [wp_X12_init] at hm
  refine lv_aload_n hx hb dX12_init_0 rfl (lv_at hl 0 rfl) ?_
  refine pw_obj hx hb (by rw [hml]; exact hl.1.symm) hown (hU _ tw1458) (hU _ tw_obji) (hU _ tw_objc) dX12_init_1 (Nat.le_of_ble_eq_true rfl) (Nat.le_of_ble_eq_true rfl) ?_
  refine lv_aload_n hx hb dX12_init_4 rfl (lv_at hl 0 rfl) ?_
  refine lv_iconst (v := 2) hx hb dX12_init_5 (by decide) ?_
  obtain ⟨hb3, hb4, hm⟩ := hm
  refine pn_newI (N := 2) hx hb (hU _ tw108) hw (by decide) (by decide) (by decide) (by show _ ≤ mc; omega) (by show _ ≤ ms; omega) dX12_init_6 (fun q1 H hf2 hw => ?_)
  replace hm := hm q1 hf2
  have Ta0 : TY (nA S0 q1 14 2) a0 12 := ty_ext (ext_nA (n := 2) hf2) Ta0
  have hE : Ext S0 (nA S0 q1 14 2) := Ext.tr hE (ext_nA (n := 2) hf2)
  have Tq1 : TY (nA S0 q1 14 2) q1 14 := ty_nA _ _ _ _
  refine W.widen (k := 1) (n := 2) (by omega) (by omega) ?_
  have hcc : 1 + (mc - (1)) ≤ mc := by omega
  have hss : 2 + (ms - (2)) ≤ ms := by omega
  refine ppF_r (k := 12) (j := 1) (f := 1201) hx hb hown hU iu12 tyX12_ok nmX12 hw Ta0 Tq1 (by decide) rfl (hU _ tw1472) rfl rfl hin rfl rfl rfl rfl dX12_init_8 (fun H locs hw => ?_)
  refine lv_aload_n hx hb dX12_init_11 rfl (lv_at hl 0 rfl) ?_
  refine lv_iconst (v := (-1)) hx hb dX12_init_12 (by decide) ?_
  refine pp_i (k := 12) (j := 8) (f := 1208) hx hb hown hU iu12 tyX12_ok nmX12 hw Ta0 (by decide) rfl (hU _ tw1479) rfl rfl rfl dX12_init_13 (fun H locs hw => ?_)
  refine lv_aload_n hx hb dX12_init_16 rfl (lv_at hl 0 rfl) ?_
  refine lv_sipush (v := 600) hx hb dX12_init_17 (by decide) ?_
  obtain ⟨hb9, hb10, hm⟩ := hm
  refine pn_newI (N := 600) hx hb (hU _ tw108) hw (by decide) (by decide) (by decide) (by show _ ≤ mc; omega) (by show _ ≤ ms; omega) dX12_init_20 (fun q7 H hf8 hw => ?_)
  replace hm := hm q7 hf8
  have Ta0 : TY (nA (sI (sR (nA S0 q1 14 2) 1201 a0 (some q1)) 1208 a0 (-1)) q7 14 600) a0 12 := ty_ext (ext_nA (n := 600) hf8) Ta0
  have hE : Ext S0 (nA (sI (sR (nA S0 q1 14 2) 1201 a0 (some q1)) 1208 a0 (-1)) q7 14 600) := Ext.tr hE (ext_nA (n := 600) hf8)
  have Tq7 : TY (nA (sI (sR (nA S0 q1 14 2) 1201 a0 (some q1)) 1208 a0 (-1)) q7 14 600) q7 14 := ty_nA _ _ _ _
  refine W.widen (k := 2) (n := 602) (by omega) (by omega) ?_
  have hcc : 2 + (mc - (2)) ≤ mc := by omega
  have hss : 602 + (ms - (602)) ≤ ms := by omega
  obtain ⟨S_13, eS_13, hm⟩ := lt_prop hm
  rw [← eS_13] at hw
  have Ta0 : TY S_13 a0 12 := by rw [eS_13]; exact Ta0
  have Tq7 : TY S_13 q7 14 := by rw [eS_13]; exact Tq7
  have hE : Ext S0 S_13 := by rw [eS_13]; exact hE
  refine ppF_r (k := 12) (j := 9) (f := 1209) hx hb hown hU iu12 tyX12_ok nmX12 hw Ta0 Tq7 (by decide) rfl (hU _ tw1480) rfl rfl hin rfl rfl rfl rfl dX12_init_22 (fun H locs hw => ?_)
  refine lv_aload_n hx hb dX12_init_25 rfl (lv_at hl 0 rfl) ?_
  refine lv_bipush (v := 24) hx hb dX12_init_26 (by decide) ?_
  obtain ⟨hb16, hb17, hm⟩ := hm
  refine pn_newI (N := 24) hx hb (hU _ tw108) hw (by decide) (by decide) (by decide) (by show _ ≤ mc; omega) (by show _ ≤ ms; omega) dX12_init_28 (fun q14 H hf15 hw => ?_)
  replace hm := hm q14 hf15
  have Ta0 : TY (nA (sR S_13 1209 a0 (some q7)) q14 14 24) a0 12 := ty_ext (ext_nA (n := 24) hf15) Ta0
  have hE : Ext S0 (nA (sR S_13 1209 a0 (some q7)) q14 14 24) := Ext.tr hE (ext_nA (n := 24) hf15)
  have Tq14 : TY (nA (sR S_13 1209 a0 (some q7)) q14 14 24) q14 14 := ty_nA _ _ _ _
  refine W.widen (k := 3) (n := 626) (by omega) (by omega) ?_
  have hcc : 3 + (mc - (3)) ≤ mc := by omega
  have hss : 626 + (ms - (626)) ≤ ms := by omega
  refine ppF_r (k := 12) (j := 10) (f := 1210) hx hb hown hU iu12 tyX12_ok nmX12 hw Ta0 Tq14 (by decide) rfl (hU _ tw1481) rfl rfl hin rfl rfl rfl rfl dX12_init_30 (fun H locs hw => ?_)
  refine lv_aload_n hx hb dX12_init_33 rfl (lv_at hl 0 rfl) ?_
  refine lv_bipush (v := 48) hx hb dX12_init_34 (by decide) ?_
  obtain ⟨hb22, hb23, hm⟩ := hm
  refine pn_newI (N := 48) hx hb (hU _ tw108) hw (by decide) (by decide) (by decide) (by show _ ≤ mc; omega) (by show _ ≤ ms; omega) dX12_init_36 (fun q20 H hf21 hw => ?_)
  replace hm := hm q20 hf21
  have Ta0 : TY (nA (sR (nA (sR S_13 1209 a0 (some q7)) q14 14 24) 1210 a0 (some q14)) q20 14 48) a0 12 := ty_ext (ext_nA (n := 48) hf21) Ta0
  have hE : Ext S0 (nA (sR (nA (sR S_13 1209 a0 (some q7)) q14 14 24) 1210 a0 (some q14)) q20 14 48) := Ext.tr hE (ext_nA (n := 48) hf21)
  have Tq20 : TY (nA (sR (nA (sR S_13 1209 a0 (some q7)) q14 14 24) 1210 a0 (some q14)) q20 14 48) q20 14 := ty_nA _ _ _ _
  refine W.widen (k := 4) (n := 674) (by omega) (by omega) ?_
  have hcc : 4 + (mc - (4)) ≤ mc := by omega
  have hss : 674 + (ms - (674)) ≤ ms := by omega
  obtain ⟨S_26, eS_26, hm⟩ := lt_prop hm
  rw [← eS_26] at hw
  have Ta0 : TY S_26 a0 12 := by rw [eS_26]; exact Ta0
  have Tq20 : TY S_26 q20 14 := by rw [eS_26]; exact Tq20
  have hE : Ext S0 S_26 := by rw [eS_26]; exact hE
  refine ppF_r (k := 12) (j := 11) (f := 1211) hx hb hown hU iu12 tyX12_ok nmX12 hw Ta0 Tq20 (by decide) rfl (hU _ tw1482) rfl rfl hin rfl rfl rfl rfl dX12_init_38 (fun H locs hw => ?_)
  refine lv_aload_n hx hb dX12_init_41 rfl (lv_at hl 0 rfl) ?_
  refine lv_bipush (v := 9) hx hb dX12_init_42 (by decide) ?_
  obtain ⟨hb29, hb30, hm⟩ := hm
  refine pn_newI (N := 9) hx hb (hU _ tw108) hw (by decide) (by decide) (by decide) (by show _ ≤ mc; omega) (by show _ ≤ ms; omega) dX12_init_44 (fun q27 H hf28 hw => ?_)
  replace hm := hm q27 hf28
  have Ta0 : TY (nA (sR S_26 1211 a0 (some q20)) q27 14 9) a0 12 := ty_ext (ext_nA (n := 9) hf28) Ta0
  have hE : Ext S0 (nA (sR S_26 1211 a0 (some q20)) q27 14 9) := Ext.tr hE (ext_nA (n := 9) hf28)
  have Tq27 : TY (nA (sR S_26 1211 a0 (some q20)) q27 14 9) q27 14 := ty_nA _ _ _ _
  refine W.widen (k := 5) (n := 683) (by omega) (by omega) ?_
  have hcc : 5 + (mc - (5)) ≤ mc := by omega
  have hss : 683 + (ms - (683)) ≤ ms := by omega
  refine ppF_r (k := 12) (j := 12) (f := 1212) hx hb hown hU iu12 tyX12_ok nmX12 hw Ta0 Tq27 (by decide) rfl (hU _ tw1483) rfl rfl hin rfl rfl rfl rfl dX12_init_46 (fun H locs hw => ?_)
  refine lv_aload_n hx hb dX12_init_49 rfl (lv_at hl 0 rfl) ?_
  refine lv_bipush (v := 6) hx hb dX12_init_50 (by decide) ?_
  obtain ⟨hb35, hb36, hm⟩ := hm
  refine pn_newI (N := 6) hx hb (hU _ tw108) hw (by decide) (by decide) (by decide) (by show _ ≤ mc; omega) (by show _ ≤ ms; omega) dX12_init_52 (fun q33 H hf34 hw => ?_)
  replace hm := hm q33 hf34
  have Ta0 : TY (nA (sR (nA (sR S_26 1211 a0 (some q20)) q27 14 9) 1212 a0 (some q27)) q33 14 6) a0 12 := ty_ext (ext_nA (n := 6) hf34) Ta0
  have hE : Ext S0 (nA (sR (nA (sR S_26 1211 a0 (some q20)) q27 14 9) 1212 a0 (some q27)) q33 14 6) := Ext.tr hE (ext_nA (n := 6) hf34)
  have Tq33 : TY (nA (sR (nA (sR S_26 1211 a0 (some q20)) q27 14 9) 1212 a0 (some q27)) q33 14 6) q33 14 := ty_nA _ _ _ _
  refine W.widen (k := 6) (n := 689) (by omega) (by omega) ?_
  have hcc : 6 + (mc - (6)) ≤ mc := by omega
  have hss : 689 + (ms - (689)) ≤ ms := by omega
  obtain ⟨S_39, eS_39, hm⟩ := lt_prop hm
  rw [← eS_39] at hw
  have Ta0 : TY S_39 a0 12 := by rw [eS_39]; exact Ta0
  have Tq33 : TY S_39 q33 14 := by rw [eS_39]; exact Tq33
  have hE : Ext S0 S_39 := by rw [eS_39]; exact hE
  refine ppF_r (k := 12) (j := 13) (f := 1213) hx hb hown hU iu12 tyX12_ok nmX12 hw Ta0 Tq33 (by decide) rfl (hU _ tw1484) rfl rfl hin rfl rfl rfl rfl dX12_init_54 (fun H locs hw => ?_)
  refine lv_aload_n hx hb dX12_init_57 rfl (lv_at hl 0 rfl) ?_
  refine lv_bipush (v := 24) hx hb dX12_init_58 (by decide) ?_
  obtain ⟨hb42, hb43, hm⟩ := hm
  refine pn_newI (N := 24) hx hb (hU _ tw108) hw (by decide) (by decide) (by decide) (by show _ ≤ mc; omega) (by show _ ≤ ms; omega) dX12_init_60 (fun q40 H hf41 hw => ?_)
  replace hm := hm q40 hf41
  have Ta0 : TY (nA (sR S_39 1213 a0 (some q33)) q40 14 24) a0 12 := ty_ext (ext_nA (n := 24) hf41) Ta0
  have hE : Ext S0 (nA (sR S_39 1213 a0 (some q33)) q40 14 24) := Ext.tr hE (ext_nA (n := 24) hf41)
  have Tq40 : TY (nA (sR S_39 1213 a0 (some q33)) q40 14 24) q40 14 := ty_nA _ _ _ _
  refine W.widen (k := 7) (n := 713) (by omega) (by omega) ?_
  have hcc : 7 + (mc - (7)) ≤ mc := by omega
  have hss : 713 + (ms - (713)) ≤ ms := by omega
  refine ppF_r (k := 12) (j := 14) (f := 1214) hx hb hown hU iu12 tyX12_ok nmX12 hw Ta0 Tq40 (by decide) rfl (hU _ tw1485) rfl rfl hin rfl rfl rfl rfl dX12_init_62 (fun H locs hw => ?_)
  refine lv_aload_n hx hb dX12_init_65 rfl (lv_at hl 0 rfl) ?_
  refine lv_bipush (v := 48) hx hb dX12_init_66 (by decide) ?_
  obtain ⟨hb48, hb49, hm⟩ := hm
  refine pn_newI (N := 48) hx hb (hU _ tw108) hw (by decide) (by decide) (by decide) (by show _ ≤ mc; omega) (by show _ ≤ ms; omega) dX12_init_68 (fun q46 H hf47 hw => ?_)
  replace hm := hm q46 hf47
  have Ta0 : TY (nA (sR (nA (sR S_39 1213 a0 (some q33)) q40 14 24) 1214 a0 (some q40)) q46 14 48) a0 12 := ty_ext (ext_nA (n := 48) hf47) Ta0
  have hE : Ext S0 (nA (sR (nA (sR S_39 1213 a0 (some q33)) q40 14 24) 1214 a0 (some q40)) q46 14 48) := Ext.tr hE (ext_nA (n := 48) hf47)
  have Tq46 : TY (nA (sR (nA (sR S_39 1213 a0 (some q33)) q40 14 24) 1214 a0 (some q40)) q46 14 48) q46 14 := ty_nA _ _ _ _
  refine W.widen (k := 8) (n := 761) (by omega) (by omega) ?_
  have hcc : 8 + (mc - (8)) ≤ mc := by omega
  have hss : 761 + (ms - (761)) ≤ ms := by omega
  obtain ⟨S_52, eS_52, hm⟩ := lt_prop hm
  rw [← eS_52] at hw
  have Ta0 : TY S_52 a0 12 := by rw [eS_52]; exact Ta0
  have Tq46 : TY S_52 q46 14 := by rw [eS_52]; exact Tq46
  have hE : Ext S0 S_52 := by rw [eS_52]; exact hE
  refine ppF_r (k := 12) (j := 15) (f := 1215) hx hb hown hU iu12 tyX12_ok nmX12 hw Ta0 Tq46 (by decide) rfl (hU _ tw1486) rfl rfl hin rfl rfl rfl rfl dX12_init_70 (fun H locs hw => ?_)
  refine lv_aload_n hx hb dX12_init_73 rfl (lv_at hl 0 rfl) ?_
  refine lv_bipush (v := 9) hx hb dX12_init_74 (by decide) ?_
  obtain ⟨hb55, hb56, hm⟩ := hm
  refine pn_newI (N := 9) hx hb (hU _ tw108) hw (by decide) (by decide) (by decide) (by show _ ≤ mc; omega) (by show _ ≤ ms; omega) dX12_init_76 (fun q53 H hf54 hw => ?_)
  replace hm := hm q53 hf54
  have Ta0 : TY (nA (sR S_52 1215 a0 (some q46)) q53 14 9) a0 12 := ty_ext (ext_nA (n := 9) hf54) Ta0
  have hE : Ext S0 (nA (sR S_52 1215 a0 (some q46)) q53 14 9) := Ext.tr hE (ext_nA (n := 9) hf54)
  have Tq53 : TY (nA (sR S_52 1215 a0 (some q46)) q53 14 9) q53 14 := ty_nA _ _ _ _
  refine W.widen (k := 9) (n := 770) (by omega) (by omega) ?_
  have hcc : 9 + (mc - (9)) ≤ mc := by omega
  have hss : 770 + (ms - (770)) ≤ ms := by omega
  refine ppF_r (k := 12) (j := 16) (f := 1216) hx hb hown hU iu12 tyX12_ok nmX12 hw Ta0 Tq53 (by decide) rfl (hU _ tw1487) rfl rfl hin rfl rfl rfl rfl dX12_init_78 (fun H locs hw => ?_)
  refine lv_aload_n hx hb dX12_init_81 rfl (lv_at hl 0 rfl) ?_
  refine lv_bipush (v := 6) hx hb dX12_init_82 (by decide) ?_
  obtain ⟨hb61, hb62, hm⟩ := hm
  refine pn_newI (N := 6) hx hb (hU _ tw108) hw (by decide) (by decide) (by decide) (by show _ ≤ mc; omega) (by show _ ≤ ms; omega) dX12_init_84 (fun q59 H hf60 hw => ?_)
  replace hm := hm q59 hf60
  have Ta0 : TY (nA (sR (nA (sR S_52 1215 a0 (some q46)) q53 14 9) 1216 a0 (some q53)) q59 14 6) a0 12 := ty_ext (ext_nA (n := 6) hf60) Ta0
  have hE : Ext S0 (nA (sR (nA (sR S_52 1215 a0 (some q46)) q53 14 9) 1216 a0 (some q53)) q59 14 6) := Ext.tr hE (ext_nA (n := 6) hf60)
  have Tq59 : TY (nA (sR (nA (sR S_52 1215 a0 (some q46)) q53 14 9) 1216 a0 (some q53)) q59 14 6) q59 14 := ty_nA _ _ _ _
  refine W.widen (k := 10) (n := 776) (by omega) (by omega) ?_
  have hcc : 10 + (mc - (10)) ≤ mc := by omega
  have hss : 776 + (ms - (776)) ≤ ms := by omega
  obtain ⟨S_65, eS_65, hm⟩ := lt_prop hm
  rw [← eS_65] at hw
  have Ta0 : TY S_65 a0 12 := by rw [eS_65]; exact Ta0
  have Tq59 : TY S_65 q59 14 := by rw [eS_65]; exact Tq59
  have hE : Ext S0 S_65 := by rw [eS_65]; exact hE
  refine ppF_r (k := 12) (j := 17) (f := 1217) hx hb hown hU iu12 tyX12_ok nmX12 hw Ta0 Tq59 (by decide) rfl (hU _ tw1488) rfl rfl hin rfl rfl rfl rfl dX12_init_86 (fun H locs hw => ?_)
  refine lv_aload_n hx hb dX12_init_89 rfl (lv_at hl 0 rfl) ?_
  refine lv_sipush (v := 150) hx hb dX12_init_90 (by decide) ?_
  obtain ⟨hb68, hb69, hm⟩ := hm
  refine pn_newI (N := 150) hx hb (hU _ tw108) hw (by decide) (by decide) (by decide) (by show _ ≤ mc; omega) (by show _ ≤ ms; omega) dX12_init_93 (fun q66 H hf67 hw => ?_)
  replace hm := hm q66 hf67
  have Ta0 : TY (nA (sR S_65 1217 a0 (some q59)) q66 14 150) a0 12 := ty_ext (ext_nA (n := 150) hf67) Ta0
  have hE : Ext S0 (nA (sR S_65 1217 a0 (some q59)) q66 14 150) := Ext.tr hE (ext_nA (n := 150) hf67)
  have Tq66 : TY (nA (sR S_65 1217 a0 (some q59)) q66 14 150) q66 14 := ty_nA _ _ _ _
  refine W.widen (k := 11) (n := 926) (by omega) (by omega) ?_
  have hcc : 11 + (mc - (11)) ≤ mc := by omega
  have hss : 926 + (ms - (926)) ≤ ms := by omega
  refine ppF_r (k := 12) (j := 30) (f := 1230) hx hb hown hU iu12 tyX12_ok nmX12 hw Ta0 Tq66 (by decide) rfl (hU _ tw1501) rfl rfl hin rfl rfl rfl rfl dX12_init_95 (fun H locs hw => ?_)
  refine lv_aload_n hx hb dX12_init_98 rfl (lv_at hl 0 rfl) ?_
  refine lv_sipush (v := 150) hx hb dX12_init_99 (by decide) ?_
  obtain ⟨hb74, hb75, hm⟩ := hm
  refine pn_newI (N := 150) hx hb (hU _ tw108) hw (by decide) (by decide) (by decide) (by show _ ≤ mc; omega) (by show _ ≤ ms; omega) dX12_init_102 (fun q72 H hf73 hw => ?_)
  replace hm := hm q72 hf73
  have Ta0 : TY (nA (sR (nA (sR S_65 1217 a0 (some q59)) q66 14 150) 1230 a0 (some q66)) q72 14 150) a0 12 := ty_ext (ext_nA (n := 150) hf73) Ta0
  have hE : Ext S0 (nA (sR (nA (sR S_65 1217 a0 (some q59)) q66 14 150) 1230 a0 (some q66)) q72 14 150) := Ext.tr hE (ext_nA (n := 150) hf73)
  have Tq72 : TY (nA (sR (nA (sR S_65 1217 a0 (some q59)) q66 14 150) 1230 a0 (some q66)) q72 14 150) q72 14 := ty_nA _ _ _ _
  refine W.widen (k := 12) (n := 1076) (by omega) (by omega) ?_
  have hcc : 12 + (mc - (12)) ≤ mc := by omega
  have hss : 1076 + (ms - (1076)) ≤ ms := by omega
  obtain ⟨S_78, eS_78, hm⟩ := lt_prop hm
  rw [← eS_78] at hw
  have Ta0 : TY S_78 a0 12 := by rw [eS_78]; exact Ta0
  have Tq72 : TY S_78 q72 14 := by rw [eS_78]; exact Tq72
  have hE : Ext S0 S_78 := by rw [eS_78]; exact hE
  refine ppF_r (k := 12) (j := 31) (f := 1231) hx hb hown hU iu12 tyX12_ok nmX12 hw Ta0 Tq72 (by decide) rfl (hU _ tw1502) rfl rfl hin rfl rfl rfl rfl dX12_init_104 (fun H locs hw => ?_)
  refine lv_aload_n hx hb dX12_init_107 rfl (lv_at hl 0 rfl) ?_
  refine lv_sipush (v := 300) hx hb dX12_init_108 (by decide) ?_
  obtain ⟨hb81, hb82, hm⟩ := hm
  refine pn_newI (N := 300) hx hb (hU _ tw108) hw (by decide) (by decide) (by decide) (by show _ ≤ mc; omega) (by show _ ≤ ms; omega) dX12_init_111 (fun q79 H hf80 hw => ?_)
  replace hm := hm q79 hf80
  have Ta0 : TY (nA (sR S_78 1231 a0 (some q72)) q79 14 300) a0 12 := ty_ext (ext_nA (n := 300) hf80) Ta0
  have hE : Ext S0 (nA (sR S_78 1231 a0 (some q72)) q79 14 300) := Ext.tr hE (ext_nA (n := 300) hf80)
  have Tq79 : TY (nA (sR S_78 1231 a0 (some q72)) q79 14 300) q79 14 := ty_nA _ _ _ _
  refine W.widen (k := 13) (n := 1376) (by omega) (by omega) ?_
  have hcc : 13 + (mc - (13)) ≤ mc := by omega
  have hss : 1376 + (ms - (1376)) ≤ ms := by omega
  refine ppF_r (k := 12) (j := 32) (f := 1232) hx hb hown hU iu12 tyX12_ok nmX12 hw Ta0 Tq79 (by decide) rfl (hU _ tw1503) rfl rfl hin rfl rfl rfl rfl dX12_init_113 (fun H locs hw => ?_)
  refine lv_aload_n hx hb dX12_init_116 rfl (lv_at hl 0 rfl) ?_
  refine lv_sipush (v := 300) hx hb dX12_init_117 (by decide) ?_
  obtain ⟨hb87, hb88, hm⟩ := hm
  refine pn_newI (N := 300) hx hb (hU _ tw108) hw (by decide) (by decide) (by decide) (by show _ ≤ mc; omega) (by show _ ≤ ms; omega) dX12_init_120 (fun q85 H hf86 hw => ?_)
  replace hm := hm q85 hf86
  have Ta0 : TY (nA (sR (nA (sR S_78 1231 a0 (some q72)) q79 14 300) 1232 a0 (some q79)) q85 14 300) a0 12 := ty_ext (ext_nA (n := 300) hf86) Ta0
  have hE : Ext S0 (nA (sR (nA (sR S_78 1231 a0 (some q72)) q79 14 300) 1232 a0 (some q79)) q85 14 300) := Ext.tr hE (ext_nA (n := 300) hf86)
  have Tq85 : TY (nA (sR (nA (sR S_78 1231 a0 (some q72)) q79 14 300) 1232 a0 (some q79)) q85 14 300) q85 14 := ty_nA _ _ _ _
  refine W.widen (k := 14) (n := 1676) (by omega) (by omega) ?_
  have hcc : 14 + (mc - (14)) ≤ mc := by omega
  have hss : 1676 + (ms - (1676)) ≤ ms := by omega
  obtain ⟨S_91, eS_91, hm⟩ := lt_prop hm
  rw [← eS_91] at hw
  have Ta0 : TY S_91 a0 12 := by rw [eS_91]; exact Ta0
  have Tq85 : TY S_91 q85 14 := by rw [eS_91]; exact Tq85
  have hE : Ext S0 S_91 := by rw [eS_91]; exact hE
  refine ppF_r (k := 12) (j := 33) (f := 1233) hx hb hown hU iu12 tyX12_ok nmX12 hw Ta0 Tq85 (by decide) rfl (hU _ tw1504) rfl rfl hin rfl rfl rfl rfl dX12_init_122 (fun H locs hw => ?_)
  refine lv_aload_n hx hb dX12_init_125 rfl (lv_at hl 0 rfl) ?_
  refine lv_iconst (v := 2) hx hb dX12_init_126 (by decide) ?_
  obtain ⟨hb94, hb95, hm⟩ := hm
  refine pn_newI (N := 2) hx hb (hU _ tw108) hw (by decide) (by decide) (by decide) (by show _ ≤ mc; omega) (by show _ ≤ ms; omega) dX12_init_127 (fun q92 H hf93 hw => ?_)
  replace hm := hm q92 hf93
  have Ta0 : TY (nA (sR S_91 1233 a0 (some q85)) q92 14 2) a0 12 := ty_ext (ext_nA (n := 2) hf93) Ta0
  have hE : Ext S0 (nA (sR S_91 1233 a0 (some q85)) q92 14 2) := Ext.tr hE (ext_nA (n := 2) hf93)
  have Tq92 : TY (nA (sR S_91 1233 a0 (some q85)) q92 14 2) q92 14 := ty_nA _ _ _ _
  refine W.widen (k := 15) (n := 1678) (by omega) (by omega) ?_
  have hcc : 15 + (mc - (15)) ≤ mc := by omega
  have hss : 1678 + (ms - (1678)) ≤ ms := by omega
  refine ppF_r (k := 12) (j := 34) (f := 1234) hx hb hown hU iu12 tyX12_ok nmX12 hw Ta0 Tq92 (by decide) rfl (hU _ tw1505) rfl rfl hin rfl rfl rfl rfl dX12_init_129 (fun H locs hw => ?_)
  refine lv_aload_n hx hb dX12_init_132 rfl (lv_at hl 0 rfl) ?_
  refine lv_sipush (v := 150) hx hb dX12_init_133 (by decide) ?_
  obtain ⟨hb100, hb101, hm⟩ := hm
  refine pn_newI (N := 150) hx hb (hU _ tw108) hw (by decide) (by decide) (by decide) (by show _ ≤ mc; omega) (by show _ ≤ ms; omega) dX12_init_136 (fun q98 H hf99 hw => ?_)
  replace hm := hm q98 hf99
  have Ta0 : TY (nA (sR (nA (sR S_91 1233 a0 (some q85)) q92 14 2) 1234 a0 (some q92)) q98 14 150) a0 12 := ty_ext (ext_nA (n := 150) hf99) Ta0
  have hE : Ext S0 (nA (sR (nA (sR S_91 1233 a0 (some q85)) q92 14 2) 1234 a0 (some q92)) q98 14 150) := Ext.tr hE (ext_nA (n := 150) hf99)
  have Tq98 : TY (nA (sR (nA (sR S_91 1233 a0 (some q85)) q92 14 2) 1234 a0 (some q92)) q98 14 150) q98 14 := ty_nA _ _ _ _
  refine W.widen (k := 16) (n := 1828) (by omega) (by omega) ?_
  have hcc : 16 + (mc - (16)) ≤ mc := by omega
  have hss : 1828 + (ms - (1828)) ≤ ms := by omega
  obtain ⟨S_104, eS_104, hm⟩ := lt_prop hm
  rw [← eS_104] at hw
  have Ta0 : TY S_104 a0 12 := by rw [eS_104]; exact Ta0
  have Tq98 : TY S_104 q98 14 := by rw [eS_104]; exact Tq98
  have hE : Ext S0 S_104 := by rw [eS_104]; exact hE
  refine ppF_r (k := 12) (j := 35) (f := 1235) hx hb hown hU iu12 tyX12_ok nmX12 hw Ta0 Tq98 (by decide) rfl (hU _ tw1506) rfl rfl hin rfl rfl rfl rfl dX12_init_138 (fun H locs hw => ?_)
  refine lv_aload_n hx hb dX12_init_141 rfl (lv_at hl 0 rfl) ?_
  refine lv_bipush (v := 7) hx hb dX12_init_142 (by decide) ?_
  obtain ⟨hb107, hb108, hm⟩ := hm
  refine pn_newI (N := 7) hx hb (hU _ tw108) hw (by decide) (by decide) (by decide) (by show _ ≤ mc; omega) (by show _ ≤ ms; omega) dX12_init_144 (fun q105 H hf106 hw => ?_)
  replace hm := hm q105 hf106
  have Ta0 : TY (nA (sR S_104 1235 a0 (some q98)) q105 14 7) a0 12 := ty_ext (ext_nA (n := 7) hf106) Ta0
  have hE : Ext S0 (nA (sR S_104 1235 a0 (some q98)) q105 14 7) := Ext.tr hE (ext_nA (n := 7) hf106)
  have Tq105 : TY (nA (sR S_104 1235 a0 (some q98)) q105 14 7) q105 14 := ty_nA _ _ _ _
  refine W.widen (k := 17) (n := 1835) (by omega) (by omega) ?_
  have hcc : 17 + (mc - (17)) ≤ mc := by omega
  have hss : 1835 + (ms - (1835)) ≤ ms := by omega
  refine ppF_r (k := 12) (j := 37) (f := 1237) hx hb hown hU iu12 tyX12_ok nmX12 hw Ta0 Tq105 (by decide) rfl (hU _ tw1508) rfl rfl hin rfl rfl rfl rfl dX12_init_146 (fun H locs hw => ?_)
  refine lv_aload_n hx hb dX12_init_149 rfl (lv_at hl 0 rfl) ?_
  refine lv_sipush (v := 250) hx hb dX12_init_150 (by decide) ?_
  obtain ⟨hb113, hb114, hm⟩ := hm
  refine pn_newI (N := 250) hx hb (hU _ tw108) hw (by decide) (by decide) (by decide) (by show _ ≤ mc; omega) (by show _ ≤ ms; omega) dX12_init_153 (fun q111 H hf112 hw => ?_)
  replace hm := hm q111 hf112
  have Ta0 : TY (nA (sR (nA (sR S_104 1235 a0 (some q98)) q105 14 7) 1237 a0 (some q105)) q111 14 250) a0 12 := ty_ext (ext_nA (n := 250) hf112) Ta0
  have hE : Ext S0 (nA (sR (nA (sR S_104 1235 a0 (some q98)) q105 14 7) 1237 a0 (some q105)) q111 14 250) := Ext.tr hE (ext_nA (n := 250) hf112)
  have Tq111 : TY (nA (sR (nA (sR S_104 1235 a0 (some q98)) q105 14 7) 1237 a0 (some q105)) q111 14 250) q111 14 := ty_nA _ _ _ _
  refine W.widen (k := 18) (n := 2085) (by omega) (by omega) ?_
  have hcc : 18 + (mc - (18)) ≤ mc := by omega
  have hss : 2085 + (ms - (2085)) ≤ ms := by omega
  obtain ⟨S_117, eS_117, hm⟩ := lt_prop hm
  rw [← eS_117] at hw
  have Ta0 : TY S_117 a0 12 := by rw [eS_117]; exact Ta0
  have Tq111 : TY S_117 q111 14 := by rw [eS_117]; exact Tq111
  have hE : Ext S0 S_117 := by rw [eS_117]; exact hE
  refine ppF_r (k := 12) (j := 38) (f := 1238) hx hb hown hU iu12 tyX12_ok nmX12 hw Ta0 Tq111 (by decide) rfl (hU _ tw1509) rfl rfl hin rfl rfl rfl rfl dX12_init_155 (fun H locs hw => ?_)
  refine lv_aload_n hx hb dX12_init_158 rfl (lv_at hl 0 rfl) ?_
  refine lv_sipush (v := 250) hx hb dX12_init_159 (by decide) ?_
  obtain ⟨hb120, hb121, hm⟩ := hm
  refine pn_newI (N := 250) hx hb (hU _ tw108) hw (by decide) (by decide) (by decide) (by show _ ≤ mc; omega) (by show _ ≤ ms; omega) dX12_init_162 (fun q118 H hf119 hw => ?_)
  replace hm := hm q118 hf119
  have Ta0 : TY (nA (sR S_117 1238 a0 (some q111)) q118 14 250) a0 12 := ty_ext (ext_nA (n := 250) hf119) Ta0
  have hE : Ext S0 (nA (sR S_117 1238 a0 (some q111)) q118 14 250) := Ext.tr hE (ext_nA (n := 250) hf119)
  have Tq118 : TY (nA (sR S_117 1238 a0 (some q111)) q118 14 250) q118 14 := ty_nA _ _ _ _
  refine W.widen (k := 19) (n := 2335) (by omega) (by omega) ?_
  have hcc : 19 + (mc - (19)) ≤ mc := by omega
  have hss : 2335 + (ms - (2335)) ≤ ms := by omega
  refine ppF_r (k := 12) (j := 39) (f := 1239) hx hb hown hU iu12 tyX12_ok nmX12 hw Ta0 Tq118 (by decide) rfl (hU _ tw1510) rfl rfl hin rfl rfl rfl rfl dX12_init_164 (fun H locs hw => ?_)
  obtain ⟨S_124, eS_124, hm⟩ := lt_prop hm
  rw [← eS_124] at hw
  have Ta0 : TY S_124 a0 12 := by rw [eS_124]; exact Ta0
  have hE : Ext S0 S_124 := by rw [eS_124]; exact hE
  refine lv_aload_n hx hb dX12_init_167 rfl (lv_at hl 0 rfl) ?_
  refine lv_bipush (v := 50) hx hb dX12_init_168 (by decide) ?_
  obtain ⟨hb127, hb128, hm⟩ := hm
  refine pn_newI (N := 50) hx hb (hU _ tw108) hw (by decide) (by decide) (by decide) (by show _ ≤ mc; omega) (by show _ ≤ ms; omega) dX12_init_170 (fun q125 H hf126 hw => ?_)
  replace hm := hm q125 hf126
  have Ta0 : TY (nA S_124 q125 14 50) a0 12 := ty_ext (ext_nA (n := 50) hf126) Ta0
  have hE : Ext S0 (nA S_124 q125 14 50) := Ext.tr hE (ext_nA (n := 50) hf126)
  have Tq125 : TY (nA S_124 q125 14 50) q125 14 := ty_nA _ _ _ _
  refine W.widen (k := 20) (n := 2385) (by omega) (by omega) ?_
  have hcc : 20 + (mc - (20)) ≤ mc := by omega
  have hss : 2385 + (ms - (2385)) ≤ ms := by omega
  refine ppF_r (k := 12) (j := 46) (f := 1246) hx hb hown hU iu12 tyX12_ok nmX12 hw Ta0 Tq125 (by decide) rfl (hU _ tw1517) rfl rfl hin rfl rfl rfl rfl dX12_init_172 (fun H locs hw => ?_)
  refine lv_aload_n hx hb dX12_init_175 rfl (lv_at hl 0 rfl) ?_
  refine lv_bipush (v := 50) hx hb dX12_init_176 (by decide) ?_
  obtain ⟨hb133, hb134, hm⟩ := hm
  refine pn_newI (N := 50) hx hb (hU _ tw108) hw (by decide) (by decide) (by decide) (by show _ ≤ mc; omega) (by show _ ≤ ms; omega) dX12_init_178 (fun q131 H hf132 hw => ?_)
  replace hm := hm q131 hf132
  have Ta0 : TY (nA (sR (nA S_124 q125 14 50) 1246 a0 (some q125)) q131 14 50) a0 12 := ty_ext (ext_nA (n := 50) hf132) Ta0
  have hE : Ext S0 (nA (sR (nA S_124 q125 14 50) 1246 a0 (some q125)) q131 14 50) := Ext.tr hE (ext_nA (n := 50) hf132)
  have Tq131 : TY (nA (sR (nA S_124 q125 14 50) 1246 a0 (some q125)) q131 14 50) q131 14 := ty_nA _ _ _ _
  refine W.widen (k := 21) (n := 2435) (by omega) (by omega) ?_
  have hcc : 21 + (mc - (21)) ≤ mc := by omega
  have hss : 2435 + (ms - (2435)) ≤ ms := by omega
  refine ppF_r (k := 12) (j := 47) (f := 1247) hx hb hown hU iu12 tyX12_ok nmX12 hw Ta0 Tq131 (by decide) rfl (hU _ tw1518) rfl rfl hin rfl rfl rfl rfl dX12_init_180 (fun H locs hw => ?_)
  obtain ⟨S_137, eS_137, hm⟩ := lt_prop hm
  rw [← eS_137] at hw
  have Ta0 : TY S_137 a0 12 := by rw [eS_137]; exact Ta0
  have hE : Ext S0 S_137 := by rw [eS_137]; exact hE
  refine lv_aload_n hx hb dX12_init_183 rfl (lv_at hl 0 rfl) ?_
  refine lv_sipush (v := 800) hx hb dX12_init_184 (by decide) ?_
  obtain ⟨hb140, hb141, hm⟩ := hm
  refine pn_newI (N := 800) hx hb (hU _ tw108) hw (by decide) (by decide) (by decide) (by show _ ≤ mc; omega) (by show _ ≤ ms; omega) dX12_init_187 (fun q138 H hf139 hw => ?_)
  replace hm := hm q138 hf139
  have Ta0 : TY (nA S_137 q138 14 800) a0 12 := ty_ext (ext_nA (n := 800) hf139) Ta0
  have hE : Ext S0 (nA S_137 q138 14 800) := Ext.tr hE (ext_nA (n := 800) hf139)
  have Tq138 : TY (nA S_137 q138 14 800) q138 14 := ty_nA _ _ _ _
  refine W.widen (k := 22) (n := 3235) (by omega) (by omega) ?_
  have hcc : 22 + (mc - (22)) ≤ mc := by omega
  have hss : 3235 + (ms - (3235)) ≤ ms := by omega
  refine ppF_r (k := 12) (j := 48) (f := 1248) hx hb hown hU iu12 tyX12_ok nmX12 hw Ta0 Tq138 (by decide) rfl (hU _ tw1519) rfl rfl hin rfl rfl rfl rfl dX12_init_189 (fun H locs hw => ?_)
  refine lv_aload_n hx hb dX12_init_192 rfl (lv_at hl 0 rfl) ?_
  refine lv_bipush (v := 12) hx hb dX12_init_193 (by decide) ?_
  obtain ⟨hb146, hb147, hm⟩ := hm
  refine pn_newI (N := 12) hx hb (hU _ tw108) hw (by decide) (by decide) (by decide) (by show _ ≤ mc; omega) (by show _ ≤ ms; omega) dX12_init_195 (fun q144 H hf145 hw => ?_)
  replace hm := hm q144 hf145
  have Ta0 : TY (nA (sR (nA S_137 q138 14 800) 1248 a0 (some q138)) q144 14 12) a0 12 := ty_ext (ext_nA (n := 12) hf145) Ta0
  have hE : Ext S0 (nA (sR (nA S_137 q138 14 800) 1248 a0 (some q138)) q144 14 12) := Ext.tr hE (ext_nA (n := 12) hf145)
  have Tq144 : TY (nA (sR (nA S_137 q138 14 800) 1248 a0 (some q138)) q144 14 12) q144 14 := ty_nA _ _ _ _
  refine W.widen (k := 23) (n := 3247) (by omega) (by omega) ?_
  have hcc : 23 + (mc - (23)) ≤ mc := by omega
  have hss : 3247 + (ms - (3247)) ≤ ms := by omega
  refine ppF_r (k := 12) (j := 49) (f := 1249) hx hb hown hU iu12 tyX12_ok nmX12 hw Ta0 Tq144 (by decide) rfl (hU _ tw1520) rfl rfl hin rfl rfl rfl rfl dX12_init_197 (fun H locs hw => ?_)
  obtain ⟨S_150, eS_150, hm⟩ := lt_prop hm
  rw [← eS_150] at hw
  have Ta0 : TY S_150 a0 12 := by rw [eS_150]; exact Ta0
  have hE : Ext S0 S_150 := by rw [eS_150]; exact hE
  refine lv_aload_n hx hb dX12_init_200 rfl (lv_at hl 0 rfl) ?_
  refine lv_bipush (v := 12) hx hb dX12_init_201 (by decide) ?_
  obtain ⟨hb153, hb154, hm⟩ := hm
  refine pn_newI (N := 12) hx hb (hU _ tw108) hw (by decide) (by decide) (by decide) (by show _ ≤ mc; omega) (by show _ ≤ ms; omega) dX12_init_203 (fun q151 H hf152 hw => ?_)
  replace hm := hm q151 hf152
  have Ta0 : TY (nA S_150 q151 14 12) a0 12 := ty_ext (ext_nA (n := 12) hf152) Ta0
  have hE : Ext S0 (nA S_150 q151 14 12) := Ext.tr hE (ext_nA (n := 12) hf152)
  have Tq151 : TY (nA S_150 q151 14 12) q151 14 := ty_nA _ _ _ _
  refine W.widen (k := 24) (n := 3259) (by omega) (by omega) ?_
  have hcc : 24 + (mc - (24)) ≤ mc := by omega
  have hss : 3259 + (ms - (3259)) ≤ ms := by omega
  refine ppF_r (k := 12) (j := 50) (f := 1250) hx hb hown hU iu12 tyX12_ok nmX12 hw Ta0 Tq151 (by decide) rfl (hU _ tw1521) rfl rfl hin rfl rfl rfl rfl dX12_init_205 (fun H locs hw => ?_)
  refine lv_aload_n hx hb dX12_init_208 rfl (lv_at hl 0 rfl) ?_
  refine lv_bipush (v := 12) hx hb dX12_init_209 (by decide) ?_
  obtain ⟨hb159, hb160, hm⟩ := hm
  refine pn_newI (N := 12) hx hb (hU _ tw108) hw (by decide) (by decide) (by decide) (by show _ ≤ mc; omega) (by show _ ≤ ms; omega) dX12_init_211 (fun q157 H hf158 hw => ?_)
  replace hm := hm q157 hf158
  have Ta0 : TY (nA (sR (nA S_150 q151 14 12) 1250 a0 (some q151)) q157 14 12) a0 12 := ty_ext (ext_nA (n := 12) hf158) Ta0
  have hE : Ext S0 (nA (sR (nA S_150 q151 14 12) 1250 a0 (some q151)) q157 14 12) := Ext.tr hE (ext_nA (n := 12) hf158)
  have Tq157 : TY (nA (sR (nA S_150 q151 14 12) 1250 a0 (some q151)) q157 14 12) q157 14 := ty_nA _ _ _ _
  refine W.widen (k := 25) (n := 3271) (by omega) (by omega) ?_
  have hcc : 25 + (mc - (25)) ≤ mc := by omega
  have hss : 3271 + (ms - (3271)) ≤ ms := by omega
  refine ppF_r (k := 12) (j := 52) (f := 1252) hx hb hown hU iu12 tyX12_ok nmX12 hw Ta0 Tq157 (by decide) rfl (hU _ tw1523) rfl rfl hin rfl rfl rfl rfl dX12_init_213 (fun H locs hw => ?_)
  obtain ⟨S_163, eS_163, hm⟩ := lt_prop hm
  rw [← eS_163] at hw
  have Ta0 : TY S_163 a0 12 := by rw [eS_163]; exact Ta0
  have hE : Ext S0 S_163 := by rw [eS_163]; exact hE
  refine lv_aload_n hx hb dX12_init_216 rfl (lv_at hl 0 rfl) ?_
  refine lv_bipush (v := 12) hx hb dX12_init_217 (by decide) ?_
  obtain ⟨hb166, hb167, hm⟩ := hm
  refine pn_newI (N := 12) hx hb (hU _ tw108) hw (by decide) (by decide) (by decide) (by show _ ≤ mc; omega) (by show _ ≤ ms; omega) dX12_init_219 (fun q164 H hf165 hw => ?_)
  replace hm := hm q164 hf165
  have Ta0 : TY (nA S_163 q164 14 12) a0 12 := ty_ext (ext_nA (n := 12) hf165) Ta0
  have hE : Ext S0 (nA S_163 q164 14 12) := Ext.tr hE (ext_nA (n := 12) hf165)
  have Tq164 : TY (nA S_163 q164 14 12) q164 14 := ty_nA _ _ _ _
  refine W.widen (k := 26) (n := 3283) (by omega) (by omega) ?_
  have hcc : 26 + (mc - (26)) ≤ mc := by omega
  have hss : 3283 + (ms - (3283)) ≤ ms := by omega
  refine ppF_r (k := 12) (j := 59) (f := 1259) hx hb hown hU iu12 tyX12_ok nmX12 hw Ta0 Tq164 (by decide) rfl (hU _ tw1530) rfl rfl hin rfl rfl rfl rfl dX12_init_221 (fun H locs hw => ?_)
  refine lv_aload_n hx hb dX12_init_224 rfl (lv_at hl 0 rfl) ?_
  refine lv_bipush (v := 12) hx hb dX12_init_225 (by decide) ?_
  obtain ⟨hb172, hb173, hm⟩ := hm
  refine pn_newI (N := 12) hx hb (hU _ tw108) hw (by decide) (by decide) (by decide) (by show _ ≤ mc; omega) (by show _ ≤ ms; omega) dX12_init_227 (fun q170 H hf171 hw => ?_)
  replace hm := hm q170 hf171
  have Ta0 : TY (nA (sR (nA S_163 q164 14 12) 1259 a0 (some q164)) q170 14 12) a0 12 := ty_ext (ext_nA (n := 12) hf171) Ta0
  have hE : Ext S0 (nA (sR (nA S_163 q164 14 12) 1259 a0 (some q164)) q170 14 12) := Ext.tr hE (ext_nA (n := 12) hf171)
  have Tq170 : TY (nA (sR (nA S_163 q164 14 12) 1259 a0 (some q164)) q170 14 12) q170 14 := ty_nA _ _ _ _
  refine W.widen (k := 27) (n := 3295) (by omega) (by omega) ?_
  have hcc : 27 + (mc - (27)) ≤ mc := by omega
  have hss : 3295 + (ms - (3295)) ≤ ms := by omega
  refine ppF_r (k := 12) (j := 60) (f := 1260) hx hb hown hU iu12 tyX12_ok nmX12 hw Ta0 Tq170 (by decide) rfl (hU _ tw1531) rfl rfl hin rfl rfl rfl rfl dX12_init_229 (fun H locs hw => ?_)
  obtain ⟨S_176, eS_176, hm⟩ := lt_prop hm
  rw [← eS_176] at hw
  have Ta0 : TY S_176 a0 12 := by rw [eS_176]; exact Ta0
  have hE : Ext S0 S_176 := by rw [eS_176]; exact hE
  refine lv_aload_n hx hb dX12_init_232 rfl (lv_at hl 0 rfl) ?_
  refine lv_bipush (v := 41) hx hb dX12_init_233 (by decide) ?_
  obtain ⟨hb179, hb180, hm⟩ := hm
  refine pn_newI (N := 41) hx hb (hU _ tw108) hw (by decide) (by decide) (by decide) (by show _ ≤ mc; omega) (by show _ ≤ ms; omega) dX12_init_235 (fun q177 H hf178 hw => ?_)
  replace hm := hm q177 hf178
  have Ta0 : TY (nA S_176 q177 14 41) a0 12 := ty_ext (ext_nA (n := 41) hf178) Ta0
  have hE : Ext S0 (nA S_176 q177 14 41) := Ext.tr hE (ext_nA (n := 41) hf178)
  have Tq177 : TY (nA S_176 q177 14 41) q177 14 := ty_nA _ _ _ _
  refine W.widen (k := 28) (n := 3336) (by omega) (by omega) ?_
  have hcc : 28 + (mc - (28)) ≤ mc := by omega
  have hss : 3336 + (ms - (3336)) ≤ ms := by omega
  refine ppF_r (k := 12) (j := 62) (f := 1262) hx hb hown hU iu12 tyX12_ok nmX12 hw Ta0 Tq177 (by decide) rfl (hU _ tw1533) rfl rfl hin rfl rfl rfl rfl dX12_init_237 (fun H locs hw => ?_)
  refine lv_aload_n hx hb dX12_init_240 rfl (lv_at hl 0 rfl) ?_
  refine lv_bipush (v := 41) hx hb dX12_init_241 (by decide) ?_
  obtain ⟨hb185, hb186, hm⟩ := hm
  refine pn_newI (N := 41) hx hb (hU _ tw108) hw (by decide) (by decide) (by decide) (by show _ ≤ mc; omega) (by show _ ≤ ms; omega) dX12_init_243 (fun q183 H hf184 hw => ?_)
  replace hm := hm q183 hf184
  have Ta0 : TY (nA (sR (nA S_176 q177 14 41) 1262 a0 (some q177)) q183 14 41) a0 12 := ty_ext (ext_nA (n := 41) hf184) Ta0
  have hE : Ext S0 (nA (sR (nA S_176 q177 14 41) 1262 a0 (some q177)) q183 14 41) := Ext.tr hE (ext_nA (n := 41) hf184)
  have Tq183 : TY (nA (sR (nA S_176 q177 14 41) 1262 a0 (some q177)) q183 14 41) q183 14 := ty_nA _ _ _ _
  refine W.widen (k := 29) (n := 3377) (by omega) (by omega) ?_
  have hcc : 29 + (mc - (29)) ≤ mc := by omega
  have hss : 3377 + (ms - (3377)) ≤ ms := by omega
  refine ppF_r (k := 12) (j := 63) (f := 1263) hx hb hown hU iu12 tyX12_ok nmX12 hw Ta0 Tq183 (by decide) rfl (hU _ tw1534) rfl rfl hin rfl rfl rfl rfl dX12_init_245 (fun H locs hw => ?_)
  obtain ⟨S_189, eS_189, hm⟩ := lt_prop hm
  rw [← eS_189] at hw
  have Ta0 : TY S_189 a0 12 := by rw [eS_189]; exact Ta0
  have hE : Ext S0 S_189 := by rw [eS_189]; exact hE
  refine lv_aload_n hx hb dX12_init_248 rfl (lv_at hl 0 rfl) ?_
  refine lv_bipush (v := 6) hx hb dX12_init_249 (by decide) ?_
  obtain ⟨hb192, hb193, hm⟩ := hm
  refine pn_newI (N := 6) hx hb (hU _ tw108) hw (by decide) (by decide) (by decide) (by show _ ≤ mc; omega) (by show _ ≤ ms; omega) dX12_init_251 (fun q190 H hf191 hw => ?_)
  replace hm := hm q190 hf191
  have Ta0 : TY (nA S_189 q190 14 6) a0 12 := ty_ext (ext_nA (n := 6) hf191) Ta0
  have hE : Ext S0 (nA S_189 q190 14 6) := Ext.tr hE (ext_nA (n := 6) hf191)
  have Tq190 : TY (nA S_189 q190 14 6) q190 14 := ty_nA _ _ _ _
  refine W.widen (k := 30) (n := 3383) (by omega) (by omega) ?_
  have hcc : 30 + (mc - (30)) ≤ mc := by omega
  have hss : 3383 + (ms - (3383)) ≤ ms := by omega
  refine ppF_r (k := 12) (j := 64) (f := 1264) hx hb hown hU iu12 tyX12_ok nmX12 hw Ta0 Tq190 (by decide) rfl (hU _ tw1535) rfl rfl hin rfl rfl rfl rfl dX12_init_253 (fun H locs hw => ?_)
  refine lv_aload_n hx hb dX12_init_256 rfl (lv_at hl 0 rfl) ?_
  refine lv_sipush (v := 2553) hx hb dX12_init_257 (by decide) ?_
  obtain ⟨hb198, hb199, hm⟩ := hm
  refine pn_newI (N := 2553) hx hb (hU _ tw108) hw (by decide) (by decide) (by decide) (by show _ ≤ mc; omega) (by show _ ≤ ms; omega) dX12_init_260 (fun q196 H hf197 hw => ?_)
  replace hm := hm q196 hf197
  have Ta0 : TY (nA (sR (nA S_189 q190 14 6) 1264 a0 (some q190)) q196 14 2553) a0 12 := ty_ext (ext_nA (n := 2553) hf197) Ta0
  have hE : Ext S0 (nA (sR (nA S_189 q190 14 6) 1264 a0 (some q190)) q196 14 2553) := Ext.tr hE (ext_nA (n := 2553) hf197)
  have Tq196 : TY (nA (sR (nA S_189 q190 14 6) 1264 a0 (some q190)) q196 14 2553) q196 14 := ty_nA _ _ _ _
  refine W.widen (k := 31) (n := 5936) (by omega) (by omega) ?_
  have hcc : 31 + (mc - (31)) ≤ mc := by omega
  have hss : 5936 + (ms - (5936)) ≤ ms := by omega
  refine ppF_r (k := 12) (j := 71) (f := 1271) hx hb hown hU iu12 tyX12_ok nmX12 hw Ta0 Tq196 (by decide) rfl (hU _ tw1542) rfl rfl hin rfl rfl rfl rfl dX12_init_262 (fun H locs hw => ?_)
  obtain ⟨S_202, eS_202, hm⟩ := lt_prop hm
  rw [← eS_202] at hw
  have Ta0 : TY S_202 a0 12 := by rw [eS_202]; exact Ta0
  have hE : Ext S0 S_202 := by rw [eS_202]; exact hE
  refine lv_aload_n hx hb dX12_init_265 rfl (lv_at hl 0 rfl) ?_
  obtain ⟨S_203, hq204, hm⟩ := hm
  refine pw_cv (va_runV (As := []) (rest := []) ⟨hx, hb, hml, hown, hU⟩ (c_X12_clears l C X n S_202 hw.wf _ a0 (Ta0) S_203 hq204) (cwV 0 hU (pq_gV tw1459 tw1461 ts120 tw14 tc_X12_clears) rfl rfl rfl cd_X12_clears ⟨Nat.le_of_ble_eq_true rfl, Nat.le_of_ble_eq_true rfl⟩) (pw_preV hw Ta0 (by decide) rfl) rfl rfl hl.1 rfl (lv_room (Nat.le_of_ble_eq_true rfl)) dX12_init_266 ⟨by show _ ≤ mc; omega, by show _ ≤ ms; omega⟩) hw (fun H locs hw hx205 => ?_)
  have Ta0 : TY S_203 a0 12 := ty_ext hx205 Ta0
  have hE : Ext S0 S_203 := Ext.tr hE hx205
  refine lv_aload_n hx hb dX12_init_269 rfl (lv_at hl 0 rfl) ?_
  obtain ⟨S_206, hq207, hm⟩ := hm
  refine pw_cv (va_runV (As := []) (rest := []) ⟨hx, hb, hml, hown, hU⟩ (c_X12_sets l C X n S_203 hw.wf _ a0 (Ta0) S_206 hq207) (cwV 0 hU (pq_gV tw1463 tw1465 ts121 tw14 tc_X12_sets) rfl rfl rfl cd_X12_sets ⟨Nat.le_of_ble_eq_true rfl, Nat.le_of_ble_eq_true rfl⟩) (pw_preV hw Ta0 (by decide) rfl) rfl rfl hl.1 rfl (lv_room (Nat.le_of_ble_eq_true rfl)) dX12_init_270 ⟨by show _ ≤ mc; omega, by show _ ≤ ms; omega⟩) hw (fun H locs hw hx208 => ?_)
  have Ta0 : TY S_206 a0 12 := ty_ext hx208 Ta0
  have hE : Ext S0 S_206 := Ext.tr hE hx208
  exact pw_wvret hx hb hr hlk hw hE hm (by omega) (by omega) dX12_init_273
abbrev rw_X0_init (mc ms : Nat) : Room := { frames := 1, cells := mc, slots := ms, locals := 23 }
def wp_X0_init (n : Nat) (a0 : Nat) (S0 : pq_S) (mc ms : Nat) (Q : (pq_S → Prop)) : Prop := 1 ≤ mc ∧ 6 ≤ ms ∧ ∀ q1 : Nat, q1 ∉ pL S0 → (∃ q7 : Nat, (pR (sR (nA S0 q1 14 6) 0 a0 (some q1)) 0 a0) = some q7 ∧ (∃ S_8 : pq_S, m_J7_fill_53178 n q7 (-1) (sR (nA S0 q1 14 6) 0 a0 (some q1)) = some S_8 ∧ (Q S_8)))
theorem tc_X0_init : Cond.code yX0_init cX0_init 1 none ∈ pq_U := tw333
theorem cd_X0_init : yX0_init.cls = RX0 ∧ yX0_init.cls ≠ "java/lang/invoke/MethodHandle" ∧ yX0_init.cls ≠ "java/lang/invoke/VarHandle" ∧ (parseMethodDescriptor yX0_init.desc).map (fun d => d.parameters.length) = some 0 := by decide +kernel
set_option maxHeartbeats 4000000 in
set_option maxRecDepth 100000 in
theorem cw_X0_init (l : Launch) (C : pq_C) (X : va_W) (n : Nat) (S0 : pq_S) (hF : WF S0) (sz : Nat) (a0 : Nat) (Ta0 : TY S0 a0 0) (mc ms : Nat) (Q : (pq_S → Prop)) (hm : wp_X0_init n a0 S0 mc ms Q) : Met l yX0_init (.code yX0_init cX0_init 1 none :: pq_U) (rw_X0_init mc ms) (va_Pc [.ref a0] (CPre C X S0 sz)) (QwV C X S0 sz Q) mc ms (pq_F C X S0 sz) := by
  refine Met.ofW (cc := cX0_init) (maxL := 1) (ret := none) (by decide) rfl ?_
  intro p e s m args below meth c s₁ B hml hv
  obtain ⟨rfl, hv⟩ := hv
  have hsz := hv.1
  subst hsz
  have hw := pw_entry hF hv
  have hts := atoms_spec (ws := .code yX0_init cX0_init 1 none :: pq_U) B.pre
  have hU : ∀ w ∈ pq_U, w.before _ s = true := fun w h => hts w (List.mem_cons_of_mem _ h)
  have hx := B.exec
  have hb := B.bytes
  have hr := B.returns
  have hown : s.vm.findClass RX0 = some m.cls := findClass_of_methodNamed B.named
  have hlk := B.notSynchronized
  have hin : meth.name = "<init>" := (name_of_methodNamed B.named B.method).1
  have hl := lv_entry ([.ref a0]) (n := 1) (Nat.le_of_ble_eq_true rfl)
  rw [lg_entry_eq]
  generalize (lg_sl ([.ref a0]) ++ List.replicate (1 - (lg_sl ([.ref a0])).length) Slot.unset).toArray = ls at hl ⊢
  have hl : lv_has ls 1 [(0, .ref a0)] := hl
  have hE : Ext S0 S0 := Ext.rf _
  have cx : Cx p s m _ meth c cX0_init 1 RX0 none := ⟨hx, hb, hml, hown, hU, hr, hlk⟩
  have hcc : 0 + mc ≤ mc := by omega
  have hss : 0 + ms ≤ ms := by omega
  rw [wp_X0_init] at hm
  refine lv_aload_n hx hb dX0_init_0 rfl (lv_at hl 0 rfl) ?_
  refine pw_obj hx hb (by rw [hml]; exact hl.1.symm) hown (hU _ tw334) (hU _ tw_obji) (hU _ tw_objc) dX0_init_1 (Nat.le_of_ble_eq_true rfl) (Nat.le_of_ble_eq_true rfl) ?_
  refine lv_aload_n hx hb dX0_init_4 rfl (lv_at hl 0 rfl) ?_
  refine lv_bipush (v := 6) hx hb dX0_init_5 (by decide) ?_
  obtain ⟨hb3, hb4, hm⟩ := hm
  refine pn_newI (N := 6) hx hb (hU _ tw108) hw (by decide) (by decide) (by decide) (by show _ ≤ mc; omega) (by show _ ≤ ms; omega) dX0_init_7 (fun q1 H hf2 hw => ?_)
  replace hm := hm q1 hf2
  have Ta0 : TY (nA S0 q1 14 6) a0 0 := ty_ext (ext_nA (n := 6) hf2) Ta0
  have hE : Ext S0 (nA S0 q1 14 6) := Ext.tr hE (ext_nA (n := 6) hf2)
  have Tq1 : TY (nA S0 q1 14 6) q1 14 := ty_nA _ _ _ _
  refine W.widen (k := 1) (n := 6) (by omega) (by omega) ?_
  have hcc : 1 + (mc - (1)) ≤ mc := by omega
  have hss : 6 + (ms - (6)) ≤ ms := by omega
  refine ppF_r (k := 0) (j := 0) (f := 0) hx hb hown hU iu0 tyX0_ok nmX0 hw Ta0 Tq1 (by decide) rfl (hU _ tw338) rfl rfl hin rfl rfl rfl rfl dX0_init_9 (fun H locs hw => ?_)
  refine lv_aload_n hx hb dX0_init_12 rfl (lv_at hl 0 rfl) ?_
  obtain ⟨q7, hq7, hm⟩ := hm
  have Tq7 : TY (sR (nA S0 q1 14 6) 0 a0 (some q1)) q7 14 := hw.wf.ref (k := 0) (j := 0) Ta0 (by decide) (by decide) hq7
  refine pg_rb (k := 0) (j := 0) (f := 0) hx hb hown hU iu0 hw Ta0 (by decide) rfl (hU _ tw338) rfl hq7 dX0_init_13 ?_
  refine lv_iconst (v := (-1)) hx hb dX0_init_16 (by decide) ?_
  obtain ⟨S_8, hq9, hm⟩ := hm
  refine pw_cv (va_runS (As := [.ref q7, .int (-1)]) (rest := []) ⟨hx, hb, hml, hown, hU⟩ (c_J7_fill_53178 l C X n (sR (nA S0 q1 14 6) 0 a0 (some q1)) hw.wf _ q7 (-1) (Tq7) S_8 hq9) ⟨callB_of 2 hU (pq_g1 tc_J7_fill_53178) rfl rfl rfl (hU _ tw12) (hU _ tw335) cd_J7_fill_53178.2 ⟨Nat.le_of_ble_eq_true rfl, Nat.le_of_ble_eq_true rfl⟩, hU _ tw336⟩ (pw_preS hw) rfl rfl hl.1 rfl (lv_room (Nat.le_of_ble_eq_true rfl)) dX0_init_17 ⟨by show _ ≤ mc; omega, by show _ ≤ ms; omega⟩) hw (fun H locs hw hx10 => ?_)
  have Ta0 : TY S_8 a0 0 := ty_ext hx10 Ta0
  have hE : Ext S0 S_8 := Ext.tr hE hx10
  exact pw_wvret hx hb hr hlk hw hE hm (by omega) (by omega) dX0_init_20
abbrev rw_X2_init (mc ms : Nat) : Room := { frames := 1, cells := mc, slots := ms, locals := 20 }
def wp_X2_init (n : Nat) (a0 : Nat) (S0 : pq_S) (mc ms : Nat) (Q : (pq_S → Prop)) : Prop := 1 ≤ mc ∧ 150 ≤ ms ∧ ∀ q1 : Nat, q1 ∉ pL S0 → (1 ≤ (mc - (1)) ∧ 7 ≤ (ms - (150)) ∧ ∀ q7 : Nat, q7 ∉ pL (sR (nA S0 q1 14 150) 200 a0 (some q1)) → (lt_ (sR (nA (sR (nA S0 q1 14 150) 200 a0 (some q1)) q7 14 7) 201 a0 (some q7)) fun S_13 => 1 ≤ (mc - (2)) ∧ 32 ≤ (ms - (157)) ∧ ∀ q14 : Nat, q14 ∉ pL S_13 → (Q (sR (nA S_13 q14 14 32) 202 a0 (some q14)))))
theorem tc_X2_init : Cond.code yX2_init cX2_init 1 none ∈ pq_U := tw186
theorem cd_X2_init : yX2_init.cls = RX2 ∧ yX2_init.cls ≠ "java/lang/invoke/MethodHandle" ∧ yX2_init.cls ≠ "java/lang/invoke/VarHandle" ∧ (parseMethodDescriptor yX2_init.desc).map (fun d => d.parameters.length) = some 0 := by decide +kernel
set_option maxHeartbeats 4000000 in
set_option maxRecDepth 100000 in
theorem cw_X2_init (l : Launch) (C : pq_C) (X : va_W) (n : Nat) (S0 : pq_S) (hF : WF S0) (sz : Nat) (a0 : Nat) (Ta0 : TY S0 a0 2) (mc ms : Nat) (Q : (pq_S → Prop)) (hm : wp_X2_init n a0 S0 mc ms Q) : Met l yX2_init (.code yX2_init cX2_init 1 none :: pq_U) (rw_X2_init mc ms) (va_Pc [.ref a0] (CPre C X S0 sz)) (QwV C X S0 sz Q) mc ms (pq_F C X S0 sz) := by
  refine Met.ofW (cc := cX2_init) (maxL := 1) (ret := none) (by decide) rfl ?_
  intro p e s m args below meth c s₁ B hml hv
  obtain ⟨rfl, hv⟩ := hv
  have hsz := hv.1
  subst hsz
  have hw := pw_entry hF hv
  have hts := atoms_spec (ws := .code yX2_init cX2_init 1 none :: pq_U) B.pre
  have hU : ∀ w ∈ pq_U, w.before _ s = true := fun w h => hts w (List.mem_cons_of_mem _ h)
  have hx := B.exec
  have hb := B.bytes
  have hr := B.returns
  have hown : s.vm.findClass RX2 = some m.cls := findClass_of_methodNamed B.named
  have hlk := B.notSynchronized
  have hin : meth.name = "<init>" := (name_of_methodNamed B.named B.method).1
  have hl := lv_entry ([.ref a0]) (n := 1) (Nat.le_of_ble_eq_true rfl)
  rw [lg_entry_eq]
  generalize (lg_sl ([.ref a0]) ++ List.replicate (1 - (lg_sl ([.ref a0])).length) Slot.unset).toArray = ls at hl ⊢
  have hl : lv_has ls 1 [(0, .ref a0)] := hl
  have hE : Ext S0 S0 := Ext.rf _
  have cx : Cx p s m _ meth c cX2_init 1 RX2 none := ⟨hx, hb, hml, hown, hU, hr, hlk⟩
  have hcc : 0 + mc ≤ mc := by omega
  have hss : 0 + ms ≤ ms := by omega
  rw [wp_X2_init] at hm
  refine lv_aload_n hx hb dX2_init_0 rfl (lv_at hl 0 rfl) ?_
  refine pw_obj hx hb (by rw [hml]; exact hl.1.symm) hown (hU _ tw187) (hU _ tw_obji) (hU _ tw_objc) dX2_init_1 (Nat.le_of_ble_eq_true rfl) (Nat.le_of_ble_eq_true rfl) ?_
  refine lv_aload_n hx hb dX2_init_4 rfl (lv_at hl 0 rfl) ?_
  refine lv_sipush (v := 150) hx hb dX2_init_5 (by decide) ?_
  obtain ⟨hb3, hb4, hm⟩ := hm
  refine pn_newI (N := 150) hx hb (hU _ tw108) hw (by decide) (by decide) (by decide) (by show _ ≤ mc; omega) (by show _ ≤ ms; omega) dX2_init_8 (fun q1 H hf2 hw => ?_)
  replace hm := hm q1 hf2
  have Ta0 : TY (nA S0 q1 14 150) a0 2 := ty_ext (ext_nA (n := 150) hf2) Ta0
  have hE : Ext S0 (nA S0 q1 14 150) := Ext.tr hE (ext_nA (n := 150) hf2)
  have Tq1 : TY (nA S0 q1 14 150) q1 14 := ty_nA _ _ _ _
  refine W.widen (k := 1) (n := 150) (by omega) (by omega) ?_
  have hcc : 1 + (mc - (1)) ≤ mc := by omega
  have hss : 150 + (ms - (150)) ≤ ms := by omega
  refine ppF_r (k := 2) (j := 0) (f := 200) hx hb hown hU iu2 tyX2_ok nmX2 hw Ta0 Tq1 (by decide) rfl (hU _ tw188) rfl rfl hin rfl rfl rfl rfl dX2_init_10 (fun H locs hw => ?_)
  refine lv_aload_n hx hb dX2_init_13 rfl (lv_at hl 0 rfl) ?_
  refine lv_bipush (v := 7) hx hb dX2_init_14 (by decide) ?_
  obtain ⟨hb9, hb10, hm⟩ := hm
  refine pn_newI (N := 7) hx hb (hU _ tw108) hw (by decide) (by decide) (by decide) (by show _ ≤ mc; omega) (by show _ ≤ ms; omega) dX2_init_16 (fun q7 H hf8 hw => ?_)
  replace hm := hm q7 hf8
  have Ta0 : TY (nA (sR (nA S0 q1 14 150) 200 a0 (some q1)) q7 14 7) a0 2 := ty_ext (ext_nA (n := 7) hf8) Ta0
  have hE : Ext S0 (nA (sR (nA S0 q1 14 150) 200 a0 (some q1)) q7 14 7) := Ext.tr hE (ext_nA (n := 7) hf8)
  have Tq7 : TY (nA (sR (nA S0 q1 14 150) 200 a0 (some q1)) q7 14 7) q7 14 := ty_nA _ _ _ _
  refine W.widen (k := 2) (n := 157) (by omega) (by omega) ?_
  have hcc : 2 + (mc - (2)) ≤ mc := by omega
  have hss : 157 + (ms - (157)) ≤ ms := by omega
  refine ppF_r (k := 2) (j := 1) (f := 201) hx hb hown hU iu2 tyX2_ok nmX2 hw Ta0 Tq7 (by decide) rfl (hU _ tw189) rfl rfl hin rfl rfl rfl rfl dX2_init_18 (fun H locs hw => ?_)
  obtain ⟨S_13, eS_13, hm⟩ := lt_prop hm
  rw [← eS_13] at hw
  have Ta0 : TY S_13 a0 2 := by rw [eS_13]; exact Ta0
  have hE : Ext S0 S_13 := by rw [eS_13]; exact hE
  refine lv_aload_n hx hb dX2_init_21 rfl (lv_at hl 0 rfl) ?_
  refine lv_bipush (v := 32) hx hb dX2_init_22 (by decide) ?_
  obtain ⟨hb16, hb17, hm⟩ := hm
  refine pn_newI (N := 32) hx hb (hU _ tw108) hw (by decide) (by decide) (by decide) (by show _ ≤ mc; omega) (by show _ ≤ ms; omega) dX2_init_24 (fun q14 H hf15 hw => ?_)
  replace hm := hm q14 hf15
  have Ta0 : TY (nA S_13 q14 14 32) a0 2 := ty_ext (ext_nA (n := 32) hf15) Ta0
  have hE : Ext S0 (nA S_13 q14 14 32) := Ext.tr hE (ext_nA (n := 32) hf15)
  have Tq14 : TY (nA S_13 q14 14 32) q14 14 := ty_nA _ _ _ _
  refine W.widen (k := 3) (n := 189) (by omega) (by omega) ?_
  have hcc : 3 + (mc - (3)) ≤ mc := by omega
  have hss : 189 + (ms - (189)) ≤ ms := by omega
  refine ppF_r (k := 2) (j := 2) (f := 202) hx hb hown hU iu2 tyX2_ok nmX2 hw Ta0 Tq14 (by decide) rfl (hU _ tw190) rfl rfl hin rfl rfl rfl rfl dX2_init_26 (fun H locs hw => ?_)
  exact pw_wvret hx hb hr hlk hw hE hm (by omega) (by omega) dX2_init_29
abbrev rw_X3_init (mc ms : Nat) : Room := { frames := 1, cells := mc, slots := ms, locals := 20 }
def wp_X3_init (n : Nat) (a0 : Nat) (a1 : Nat) (S0 : pq_S) (mc ms : Nat) (Q : (pq_S → Prop)) : Prop := 1 ≤ mc ∧ 145 ≤ ms ∧ ∀ q1 : Nat, q1 ∉ pL S0 → (1 ≤ (mc - (1)) ∧ 145 ≤ (ms - (145)) ∧ ∀ q7 : Nat, q7 ∉ pL (sR (nA S0 q1 14 145) 301 a0 (some q1)) → (lt_ (sR (nA (sR (nA S0 q1 14 145) 301 a0 (some q1)) q7 14 145) 302 a0 (some q7)) fun S_13 => 1 ≤ (mc - (2)) ∧ 21 ≤ (ms - (290)) ∧ ∀ q14 : Nat, q14 ∉ pL S_13 → (Q (sR (sR (nA S_13 q14 14 21) 303 a0 (some q14)) 300 a0 (some a1)))))
theorem tc_X3_init : Cond.code yX3_init cX3_init 2 none ∈ pq_U := tw237
theorem cd_X3_init : yX3_init.cls = RX3 ∧ yX3_init.cls ≠ "java/lang/invoke/MethodHandle" ∧ yX3_init.cls ≠ "java/lang/invoke/VarHandle" ∧ (parseMethodDescriptor yX3_init.desc).map (fun d => d.parameters.length) = some 1 := by decide +kernel
set_option maxHeartbeats 4000000 in
set_option maxRecDepth 100000 in
theorem cw_X3_init (l : Launch) (C : pq_C) (X : va_W) (n : Nat) (S0 : pq_S) (hF : WF S0) (sz : Nat) (a0 : Nat) (a1 : Nat) (Ta0 : TY S0 a0 3) (Ta1 : TY S0 a1 7) (mc ms : Nat) (Q : (pq_S → Prop)) (hm : wp_X3_init n a0 a1 S0 mc ms Q) : Met l yX3_init (.code yX3_init cX3_init 2 none :: pq_U) (rw_X3_init mc ms) (va_Pc [.ref a0, .ref a1] (CPre C X S0 sz)) (QwV C X S0 sz Q) mc ms (pq_F C X S0 sz) := by
  refine Met.ofW (cc := cX3_init) (maxL := 2) (ret := none) (by decide) rfl ?_
  intro p e s m args below meth c s₁ B hml hv
  obtain ⟨rfl, hv⟩ := hv
  have hsz := hv.1
  subst hsz
  have hw := pw_entry hF hv
  have hts := atoms_spec (ws := .code yX3_init cX3_init 2 none :: pq_U) B.pre
  have hU : ∀ w ∈ pq_U, w.before _ s = true := fun w h => hts w (List.mem_cons_of_mem _ h)
  have hx := B.exec
  have hb := B.bytes
  have hr := B.returns
  have hown : s.vm.findClass RX3 = some m.cls := findClass_of_methodNamed B.named
  have hlk := B.notSynchronized
  have hin : meth.name = "<init>" := (name_of_methodNamed B.named B.method).1
  have hl := lv_entry ([.ref a0, .ref a1]) (n := 2) (Nat.le_of_ble_eq_true rfl)
  rw [lg_entry_eq]
  generalize (lg_sl ([.ref a0, .ref a1]) ++ List.replicate (2 - (lg_sl ([.ref a0, .ref a1])).length) Slot.unset).toArray = ls at hl ⊢
  have hl : lv_has ls 2 [(0, .ref a0), (1, .ref a1)] := hl
  have hE : Ext S0 S0 := Ext.rf _
  have cx : Cx p s m _ meth c cX3_init 2 RX3 none := ⟨hx, hb, hml, hown, hU, hr, hlk⟩
  have hcc : 0 + mc ≤ mc := by omega
  have hss : 0 + ms ≤ ms := by omega
  rw [wp_X3_init] at hm
  refine lv_aload_n hx hb dX3_init_0 rfl (lv_at hl 0 rfl) ?_
  refine pw_obj hx hb (by rw [hml]; exact hl.1.symm) hown (hU _ tw238) (hU _ tw_obji) (hU _ tw_objc) dX3_init_1 (Nat.le_of_ble_eq_true rfl) (Nat.le_of_ble_eq_true rfl) ?_
  refine lv_aload_n hx hb dX3_init_4 rfl (lv_at hl 0 rfl) ?_
  refine lv_sipush (v := 145) hx hb dX3_init_5 (by decide) ?_
  obtain ⟨hb3, hb4, hm⟩ := hm
  refine pn_newI (N := 145) hx hb (hU _ tw108) hw (by decide) (by decide) (by decide) (by show _ ≤ mc; omega) (by show _ ≤ ms; omega) dX3_init_8 (fun q1 H hf2 hw => ?_)
  replace hm := hm q1 hf2
  have Ta0 : TY (nA S0 q1 14 145) a0 3 := ty_ext (ext_nA (n := 145) hf2) Ta0
  have Ta1 : TY (nA S0 q1 14 145) a1 7 := ty_ext (ext_nA (n := 145) hf2) Ta1
  have hE : Ext S0 (nA S0 q1 14 145) := Ext.tr hE (ext_nA (n := 145) hf2)
  have Tq1 : TY (nA S0 q1 14 145) q1 14 := ty_nA _ _ _ _
  refine W.widen (k := 1) (n := 145) (by omega) (by omega) ?_
  have hcc : 1 + (mc - (1)) ≤ mc := by omega
  have hss : 145 + (ms - (145)) ≤ ms := by omega
  refine ppF_r (k := 3) (j := 1) (f := 301) hx hb hown hU iu3 tyX3_ok nmX3 hw Ta0 Tq1 (by decide) rfl (hU _ tw240) rfl rfl hin rfl rfl rfl rfl dX3_init_10 (fun H locs hw => ?_)
  refine lv_aload_n hx hb dX3_init_13 rfl (lv_at hl 0 rfl) ?_
  refine lv_sipush (v := 145) hx hb dX3_init_14 (by decide) ?_
  obtain ⟨hb9, hb10, hm⟩ := hm
  refine pn_newI (N := 145) hx hb (hU _ tw108) hw (by decide) (by decide) (by decide) (by show _ ≤ mc; omega) (by show _ ≤ ms; omega) dX3_init_17 (fun q7 H hf8 hw => ?_)
  replace hm := hm q7 hf8
  have Ta0 : TY (nA (sR (nA S0 q1 14 145) 301 a0 (some q1)) q7 14 145) a0 3 := ty_ext (ext_nA (n := 145) hf8) Ta0
  have Ta1 : TY (nA (sR (nA S0 q1 14 145) 301 a0 (some q1)) q7 14 145) a1 7 := ty_ext (ext_nA (n := 145) hf8) Ta1
  have hE : Ext S0 (nA (sR (nA S0 q1 14 145) 301 a0 (some q1)) q7 14 145) := Ext.tr hE (ext_nA (n := 145) hf8)
  have Tq7 : TY (nA (sR (nA S0 q1 14 145) 301 a0 (some q1)) q7 14 145) q7 14 := ty_nA _ _ _ _
  refine W.widen (k := 2) (n := 290) (by omega) (by omega) ?_
  have hcc : 2 + (mc - (2)) ≤ mc := by omega
  have hss : 290 + (ms - (290)) ≤ ms := by omega
  refine ppF_r (k := 3) (j := 2) (f := 302) hx hb hown hU iu3 tyX3_ok nmX3 hw Ta0 Tq7 (by decide) rfl (hU _ tw241) rfl rfl hin rfl rfl rfl rfl dX3_init_19 (fun H locs hw => ?_)
  obtain ⟨S_13, eS_13, hm⟩ := lt_prop hm
  rw [← eS_13] at hw
  have Ta0 : TY S_13 a0 3 := by rw [eS_13]; exact Ta0
  have Ta1 : TY S_13 a1 7 := by rw [eS_13]; exact Ta1
  have hE : Ext S0 S_13 := by rw [eS_13]; exact hE
  refine lv_aload_n hx hb dX3_init_22 rfl (lv_at hl 0 rfl) ?_
  refine lv_bipush (v := 21) hx hb dX3_init_23 (by decide) ?_
  obtain ⟨hb16, hb17, hm⟩ := hm
  refine pn_newI (N := 21) hx hb (hU _ tw108) hw (by decide) (by decide) (by decide) (by show _ ≤ mc; omega) (by show _ ≤ ms; omega) dX3_init_25 (fun q14 H hf15 hw => ?_)
  replace hm := hm q14 hf15
  have Ta0 : TY (nA S_13 q14 14 21) a0 3 := ty_ext (ext_nA (n := 21) hf15) Ta0
  have Ta1 : TY (nA S_13 q14 14 21) a1 7 := ty_ext (ext_nA (n := 21) hf15) Ta1
  have hE : Ext S0 (nA S_13 q14 14 21) := Ext.tr hE (ext_nA (n := 21) hf15)
  have Tq14 : TY (nA S_13 q14 14 21) q14 14 := ty_nA _ _ _ _
  refine W.widen (k := 3) (n := 311) (by omega) (by omega) ?_
  have hcc : 3 + (mc - (3)) ≤ mc := by omega
  have hss : 311 + (ms - (311)) ≤ ms := by omega
  refine ppF_r (k := 3) (j := 3) (f := 303) hx hb hown hU iu3 tyX3_ok nmX3 hw Ta0 Tq14 (by decide) rfl (hU _ tw242) rfl rfl hin rfl rfl rfl rfl dX3_init_27 (fun H locs hw => ?_)
  refine lv_aload_n hx hb dX3_init_30 rfl (lv_at hl 0 rfl) ?_
  refine lv_aload_n hx hb dX3_init_31 rfl (lv_at hl 1 rfl) ?_
  refine ppF_r (k := 3) (j := 0) (f := 300) hx hb hown hU iu3 tyX3_ok nmX3 hw Ta0 Ta1 (by decide) rfl (hU _ tw239) rfl rfl hin rfl rfl rfl rfl dX3_init_32 (fun H locs hw => ?_)
  exact pw_wvret hx hb hr hlk hw hE hm (by omega) (by omega) dX3_init_35
abbrev rw_X4_init (mc ms : Nat) : Room := { frames := 1, cells := mc, slots := ms, locals := 20 }
def wp_X4_init (n : Nat) (a0 : Nat) (a1 : Nat) (S0 : pq_S) (mc ms : Nat) (Q : (pq_S → Prop)) : Prop := 1 ≤ mc ∧ 12 ≤ ms ∧ ∀ q1 : Nat, q1 ∉ pL S0 → (1 ≤ (mc - (1)) ∧ 12 ≤ (ms - (12)) ∧ ∀ q7 : Nat, q7 ∉ pL (sR (nA S0 q1 14 12) 401 a0 (some q1)) → (lt_ (sR (nA (sR (nA S0 q1 14 12) 401 a0 (some q1)) q7 14 12) 402 a0 (some q7)) fun S_13 => 1 ≤ (mc - (2)) ∧ 12 ≤ (ms - (24)) ∧ ∀ q14 : Nat, q14 ∉ pL S_13 → (Q (sR (sR (nA S_13 q14 14 12) 403 a0 (some q14)) 400 a0 (some a1)))))
theorem tc_X4_init : Cond.code yX4_init cX4_init 2 none ∈ pq_U := tw276
theorem cd_X4_init : yX4_init.cls = RX4 ∧ yX4_init.cls ≠ "java/lang/invoke/MethodHandle" ∧ yX4_init.cls ≠ "java/lang/invoke/VarHandle" ∧ (parseMethodDescriptor yX4_init.desc).map (fun d => d.parameters.length) = some 1 := by decide +kernel
set_option maxHeartbeats 4000000 in
set_option maxRecDepth 100000 in
theorem cw_X4_init (l : Launch) (C : pq_C) (X : va_W) (n : Nat) (S0 : pq_S) (hF : WF S0) (sz : Nat) (a0 : Nat) (a1 : Nat) (Ta0 : TY S0 a0 4) (Ta1 : TY S0 a1 7) (mc ms : Nat) (Q : (pq_S → Prop)) (hm : wp_X4_init n a0 a1 S0 mc ms Q) : Met l yX4_init (.code yX4_init cX4_init 2 none :: pq_U) (rw_X4_init mc ms) (va_Pc [.ref a0, .ref a1] (CPre C X S0 sz)) (QwV C X S0 sz Q) mc ms (pq_F C X S0 sz) := by
  refine Met.ofW (cc := cX4_init) (maxL := 2) (ret := none) (by decide) rfl ?_
  intro p e s m args below meth c s₁ B hml hv
  obtain ⟨rfl, hv⟩ := hv
  have hsz := hv.1
  subst hsz
  have hw := pw_entry hF hv
  have hts := atoms_spec (ws := .code yX4_init cX4_init 2 none :: pq_U) B.pre
  have hU : ∀ w ∈ pq_U, w.before _ s = true := fun w h => hts w (List.mem_cons_of_mem _ h)
  have hx := B.exec
  have hb := B.bytes
  have hr := B.returns
  have hown : s.vm.findClass RX4 = some m.cls := findClass_of_methodNamed B.named
  have hlk := B.notSynchronized
  have hin : meth.name = "<init>" := (name_of_methodNamed B.named B.method).1
  have hl := lv_entry ([.ref a0, .ref a1]) (n := 2) (Nat.le_of_ble_eq_true rfl)
  rw [lg_entry_eq]
  generalize (lg_sl ([.ref a0, .ref a1]) ++ List.replicate (2 - (lg_sl ([.ref a0, .ref a1])).length) Slot.unset).toArray = ls at hl ⊢
  have hl : lv_has ls 2 [(0, .ref a0), (1, .ref a1)] := hl
  have hE : Ext S0 S0 := Ext.rf _
  have cx : Cx p s m _ meth c cX4_init 2 RX4 none := ⟨hx, hb, hml, hown, hU, hr, hlk⟩
  have hcc : 0 + mc ≤ mc := by omega
  have hss : 0 + ms ≤ ms := by omega
  rw [wp_X4_init] at hm
  refine lv_aload_n hx hb dX4_init_0 rfl (lv_at hl 0 rfl) ?_
  refine pw_obj hx hb (by rw [hml]; exact hl.1.symm) hown (hU _ tw277) (hU _ tw_obji) (hU _ tw_objc) dX4_init_1 (Nat.le_of_ble_eq_true rfl) (Nat.le_of_ble_eq_true rfl) ?_
  refine lv_aload_n hx hb dX4_init_4 rfl (lv_at hl 0 rfl) ?_
  refine lv_bipush (v := 12) hx hb dX4_init_5 (by decide) ?_
  obtain ⟨hb3, hb4, hm⟩ := hm
  refine pn_newI (N := 12) hx hb (hU _ tw108) hw (by decide) (by decide) (by decide) (by show _ ≤ mc; omega) (by show _ ≤ ms; omega) dX4_init_7 (fun q1 H hf2 hw => ?_)
  replace hm := hm q1 hf2
  have Ta0 : TY (nA S0 q1 14 12) a0 4 := ty_ext (ext_nA (n := 12) hf2) Ta0
  have Ta1 : TY (nA S0 q1 14 12) a1 7 := ty_ext (ext_nA (n := 12) hf2) Ta1
  have hE : Ext S0 (nA S0 q1 14 12) := Ext.tr hE (ext_nA (n := 12) hf2)
  have Tq1 : TY (nA S0 q1 14 12) q1 14 := ty_nA _ _ _ _
  refine W.widen (k := 1) (n := 12) (by omega) (by omega) ?_
  have hcc : 1 + (mc - (1)) ≤ mc := by omega
  have hss : 12 + (ms - (12)) ≤ ms := by omega
  refine ppF_r (k := 4) (j := 1) (f := 401) hx hb hown hU iu4 tyX4_ok nmX4 hw Ta0 Tq1 (by decide) rfl (hU _ tw279) rfl rfl hin rfl rfl rfl rfl dX4_init_9 (fun H locs hw => ?_)
  refine lv_aload_n hx hb dX4_init_12 rfl (lv_at hl 0 rfl) ?_
  refine lv_bipush (v := 12) hx hb dX4_init_13 (by decide) ?_
  obtain ⟨hb9, hb10, hm⟩ := hm
  refine pn_newI (N := 12) hx hb (hU _ tw108) hw (by decide) (by decide) (by decide) (by show _ ≤ mc; omega) (by show _ ≤ ms; omega) dX4_init_15 (fun q7 H hf8 hw => ?_)
  replace hm := hm q7 hf8
  have Ta0 : TY (nA (sR (nA S0 q1 14 12) 401 a0 (some q1)) q7 14 12) a0 4 := ty_ext (ext_nA (n := 12) hf8) Ta0
  have Ta1 : TY (nA (sR (nA S0 q1 14 12) 401 a0 (some q1)) q7 14 12) a1 7 := ty_ext (ext_nA (n := 12) hf8) Ta1
  have hE : Ext S0 (nA (sR (nA S0 q1 14 12) 401 a0 (some q1)) q7 14 12) := Ext.tr hE (ext_nA (n := 12) hf8)
  have Tq7 : TY (nA (sR (nA S0 q1 14 12) 401 a0 (some q1)) q7 14 12) q7 14 := ty_nA _ _ _ _
  refine W.widen (k := 2) (n := 24) (by omega) (by omega) ?_
  have hcc : 2 + (mc - (2)) ≤ mc := by omega
  have hss : 24 + (ms - (24)) ≤ ms := by omega
  refine ppF_r (k := 4) (j := 2) (f := 402) hx hb hown hU iu4 tyX4_ok nmX4 hw Ta0 Tq7 (by decide) rfl (hU _ tw280) rfl rfl hin rfl rfl rfl rfl dX4_init_17 (fun H locs hw => ?_)
  obtain ⟨S_13, eS_13, hm⟩ := lt_prop hm
  rw [← eS_13] at hw
  have Ta0 : TY S_13 a0 4 := by rw [eS_13]; exact Ta0
  have Ta1 : TY S_13 a1 7 := by rw [eS_13]; exact Ta1
  have hE : Ext S0 S_13 := by rw [eS_13]; exact hE
  refine lv_aload_n hx hb dX4_init_20 rfl (lv_at hl 0 rfl) ?_
  refine lv_bipush (v := 12) hx hb dX4_init_21 (by decide) ?_
  obtain ⟨hb16, hb17, hm⟩ := hm
  refine pn_newI (N := 12) hx hb (hU _ tw108) hw (by decide) (by decide) (by decide) (by show _ ≤ mc; omega) (by show _ ≤ ms; omega) dX4_init_23 (fun q14 H hf15 hw => ?_)
  replace hm := hm q14 hf15
  have Ta0 : TY (nA S_13 q14 14 12) a0 4 := ty_ext (ext_nA (n := 12) hf15) Ta0
  have Ta1 : TY (nA S_13 q14 14 12) a1 7 := ty_ext (ext_nA (n := 12) hf15) Ta1
  have hE : Ext S0 (nA S_13 q14 14 12) := Ext.tr hE (ext_nA (n := 12) hf15)
  have Tq14 : TY (nA S_13 q14 14 12) q14 14 := ty_nA _ _ _ _
  refine W.widen (k := 3) (n := 36) (by omega) (by omega) ?_
  have hcc : 3 + (mc - (3)) ≤ mc := by omega
  have hss : 36 + (ms - (36)) ≤ ms := by omega
  refine ppF_r (k := 4) (j := 3) (f := 403) hx hb hown hU iu4 tyX4_ok nmX4 hw Ta0 Tq14 (by decide) rfl (hU _ tw281) rfl rfl hin rfl rfl rfl rfl dX4_init_25 (fun H locs hw => ?_)
  refine lv_aload_n hx hb dX4_init_28 rfl (lv_at hl 0 rfl) ?_
  refine lv_aload_n hx hb dX4_init_29 rfl (lv_at hl 1 rfl) ?_
  refine ppF_r (k := 4) (j := 0) (f := 400) hx hb hown hU iu4 tyX4_ok nmX4 hw Ta0 Ta1 (by decide) rfl (hU _ tw278) rfl rfl hin rfl rfl rfl rfl dX4_init_30 (fun H locs hw => ?_)
  exact pw_wvret hx hb hr hlk hw hE hm (by omega) (by omega) dX4_init_33
abbrev rw_X4_lastNight (mc ms : Nat) : Room := { frames := 3, cells := mc, slots := ms, locals := 73 }
def pb_X4_lastNight_88 (n : Nat) (a0 : Nat) (x5 : Int32) (S : pq_S) (bc bs : Nat) (Q : (Int32 → pq_S → Prop)) : Prop := ∃ q25 : Nat, (pR S 404 a0) = some q25 ∧ ((ix (x5 - (1 : Int32)) (pN S q25)) ∧ (lt_ (pA S q25 (Int32.toNatClampNeg (x5 - (1 : Int32)))) fun v27 => if v27 < 1024 then Q ((v27 / 32) + (1 : Int32)) S else Q 1024 S))
set_option maxHeartbeats 4000000 in
set_option maxRecDepth 100000 in
theorem wpb_X4_lastNight_88 {p : Program} {l : Launch} {e : Env} {s : State} {m : MethodId} {args : Array Value} {below : List Frame} {meth : Method} {c : Code} (cx : Cx p s m args meth c cX4_lastNight 7 RX4 (some .int)) (C : pq_C) (X : va_W) (S0 : pq_S) (n : Nat) (Q : (Int32 → pq_S → Prop)) (mc ms : Nat) : ∀ (a0 : Nat) (x5 : Int32) (S : pq_S) (H : Heap) (locs : List Loc) (ls : Array Slot) (cells slots bc bs : Nat), cells + bc ≤ mc → slots + bs ≤ ms → PW C X S (pq_F C X S0 s.heap.size) H locs s → Ext S0 S → TY S a0 4 → lv_has ls 7 [(0, .ref a0), (5, .int x5)] → pb_X4_lastNight_88 n a0 x5 S bc bs Q → W p l e (rw_X4_lastNight mc ms) s m args below meth c H locs cells slots (MQ below (QwI C X S0 s.heap.size Q) args s mc ms (pq_F C X S0 s.heap.size)) (F0 m 88 ls []) := by
  obtain ⟨hx, hb, hml, hown, hU, hr, hlk⟩ := id cx
  intro a0 x5 S H locs ls cells slots bc bs hcc hss hw hE Ta0 hl hm
  rw [pb_X4_lastNight_88] at hm
  refine lv_aload_n hx hb dX4_lastNight_88 rfl (lv_at hl 0 rfl) ?_
  obtain ⟨q25, hq25, hm⟩ := hm
  have Tq25 : TY S q25 14 := hw.wf.ref (k := 4) (j := 4) Ta0 (by decide) (by decide) hq25
  refine pg_rb (k := 4) (j := 4) (f := 404) hx hb hown hU iu4 hw Ta0 (by decide) rfl (hU _ tw282) rfl hq25 dX4_lastNight_89 ?_
  refine lv_iload hx hb dX4_lastNight_92 (lv_at hl 1 rfl) ?_
  refine lv_iconst (v := 1) hx hb dX4_lastNight_94 (by decide) ?_
  refine lv_isub hx hb dX4_lastNight_95 ?_
  obtain ⟨hi26, hm⟩ := hm
  refine pw_iald hx hb hw Tq25 hi26 dX4_lastNight_96 ?_
  obtain ⟨v27, ev27, hm⟩ := lt_prop hm
  refine lv_nmI ev27 ?_
  refine lv_istore (lv' := [(6, .int v27), (0, .ref a0), (5, .int x5)]) hx hb dX4_lastNight_97 hl (by decide) rfl (fun ls hl => ?_)
  refine lv_iload hx hb dX4_lastNight_99 (lv_at hl 0 rfl) ?_
  refine lv_sipush (v := 1024) hx hb dX4_lastNight_101 (by decide) ?_
  refine lv_icmp_lt (tgt := 113) hx hb dX4_lastNight_104 (by decide) (fun h28 => ?_) (fun h28 => ?_)
  · rw [if_pos h28] at hm
    refine lv_iload hx hb dX4_lastNight_113 (lv_at hl 0 rfl) ?_
    refine lv_bipush (v := 32) hx hb dX4_lastNight_115 (by decide) ?_
    refine lv_idiv hx hb dX4_lastNight_117 (by decide) ?_
    refine lv_iconst (v := 1) hx hb dX4_lastNight_118 (by decide) ?_
    refine lv_iadd hx hb dX4_lastNight_119 ?_
    exact pw_wiret hx hb hr rfl hlk hw hE hm (by omega) (by omega) dX4_lastNight_120
  · rw [if_neg h28] at hm
    refine lv_sipush (v := 1024) hx hb dX4_lastNight_107 (by decide) ?_
    refine lv_goto (tgt := 120) hx hb dX4_lastNight_110 (by decide) ?_
    exact pw_wiret hx hb hr rfl hlk hw hE hm (by omega) (by omega) dX4_lastNight_120
def pb_X4_lastNight_59 (n : Nat) : Nat → Nat → Int32 → Int32 → Int32 → Int32 → Int32 → pq_S → Nat → Nat → (Int32 → pq_S → Prop) → Prop
  | 0, _, _, _, _, _, _, _, _, _, _ => False
  | f + 1, a0, x1, x2, x3, x5, x6, S, bc, bs, Q => if x5 ≤ x6 then pb_X4_lastNight_88 n a0 x5 S bc bs Q else ∃ q19 : Nat, (pR S 404 a0) = some q19 ∧ (∃ r22 S_20, m_X4_bestOfSet n a0 x6 x1 x2 x3 S = some (r22, S_20) ∧ ((ix x6 (pN S_20 q19)) ∧ (pb_X4_lastNight_59 n f a0 x1 x2 x3 x5 (x6 + 1) (sA S_20 q19 (Int32.toNatClampNeg x6) r22) bc bs Q)))
set_option maxHeartbeats 4000000 in
set_option maxRecDepth 100000 in
theorem wpb_X4_lastNight_59 {p : Program} {l : Launch} {e : Env} {s : State} {m : MethodId} {args : Array Value} {below : List Frame} {meth : Method} {c : Code} (cx : Cx p s m args meth c cX4_lastNight 7 RX4 (some .int)) (C : pq_C) (X : va_W) (S0 : pq_S) (n : Nat) (Q : (Int32 → pq_S → Prop)) (mc ms : Nat) : ∀ (f : Nat) (a0 : Nat) (x1 : Int32) (x2 : Int32) (x3 : Int32) (x5 : Int32) (x6 : Int32) (S : pq_S) (H : Heap) (locs : List Loc) (ls : Array Slot) (cells slots bc bs : Nat), cells + bc ≤ mc → slots + bs ≤ ms → PW C X S (pq_F C X S0 s.heap.size) H locs s → Ext S0 S → TY S a0 4 → lv_has ls 7 [(0, .ref a0), (1, .int x1), (2, .int x2), (3, .int x3), (5, .int x5), (6, .int x6)] → pb_X4_lastNight_59 n f a0 x1 x2 x3 x5 x6 S bc bs Q → W p l e (rw_X4_lastNight mc ms) s m args below meth c H locs cells slots (MQ below (QwI C X S0 s.heap.size Q) args s mc ms (pq_F C X S0 s.heap.size)) (F0 m 59 ls []) := by
  obtain ⟨hx, hb, hml, hown, hU, hr, hlk⟩ := id cx
  intro f
  induction f with
  | zero =>
    intro a0 x1 x2 x3 x5 x6 S H locs ls cells slots bc bs hcc hss hw hE Ta0 hl hm
    exact hm.elim
  | succ f ih =>
    intro a0 x1 x2 x3 x5 x6 S H locs ls cells slots bc bs hcc hss hw hE Ta0 hl hm
    rw [pb_X4_lastNight_59] at hm
    refine lv_iload hx hb dX4_lastNight_59 (lv_at hl 5 rfl) ?_
    refine lv_iload hx hb dX4_lastNight_61 (lv_at hl 4 rfl) ?_
    refine lv_icmp_ge (tgt := 88) hx hb dX4_lastNight_63 (by decide) (fun h18 => ?_) (fun h18 => ?_)
    · rw [if_pos h18] at hm
      exact wpb_X4_lastNight_88 cx C X S0 n Q mc ms a0 x5 S _ _ _ (cells) (slots) bc bs hcc hss hw hE Ta0 (lv_sub hl [0, 4] rfl) hm
    · rw [if_neg h18] at hm
      refine lv_aload_n hx hb dX4_lastNight_66 rfl (lv_at hl 0 rfl) ?_
      obtain ⟨q19, hq19, hm⟩ := hm
      have Tq19 : TY S q19 14 := hw.wf.ref (k := 4) (j := 4) Ta0 (by decide) (by decide) hq19
      refine pg_rb (k := 4) (j := 4) (f := 404) hx hb hown hU iu4 hw Ta0 (by decide) rfl (hU _ tw282) rfl hq19 dX4_lastNight_67 ?_
      refine lv_iload hx hb dX4_lastNight_70 (lv_at hl 5 rfl) ?_
      refine lv_aload_n hx hb dX4_lastNight_72 rfl (lv_at hl 0 rfl) ?_
      refine lv_iload hx hb dX4_lastNight_73 (lv_at hl 5 rfl) ?_
      refine lv_iload_n hx hb dX4_lastNight_75 rfl (lv_at hl 1 rfl) ?_
      refine lv_iload_n hx hb dX4_lastNight_76 rfl (lv_at hl 2 rfl) ?_
      refine lv_iload_n hx hb dX4_lastNight_77 rfl (lv_at hl 3 rfl) ?_
      obtain ⟨r22, S_20, hq21, hm⟩ := hm
      refine pw_ci (va_runV (As := [.int x6, .int x1, .int x2, .int x3]) (rest := [.int x6, .ref q19]) ⟨hx, hb, hml, hown, hU⟩ (c_X4_bestOfSet l C X n S hw.wf _ a0 x6 x1 x2 x3 (Ta0) r22 S_20 hq21) (cwV 4 hU (pq_gV tw1224 tw1226 ts94 tw9 tc_X4_bestOfSet) rfl rfl rfl cd_X4_bestOfSet ⟨Nat.le_of_ble_eq_true rfl, Nat.le_of_ble_eq_true rfl⟩) (pw_preV hw Ta0 (by decide) rfl) rfl rfl hl.1 rfl (lv_room (Nat.le_of_ble_eq_true rfl)) dX4_lastNight_78 ⟨by show _ ≤ mc; omega, by show _ ≤ ms; omega⟩) hw (fun H locs hw hx23 => ?_)
      have Tq19 : TY S_20 q19 14 := ty_ext hx23 Tq19
      have Ta0 : TY S_20 a0 4 := ty_ext hx23 Ta0
      have hE : Ext S0 S_20 := Ext.tr hE hx23
      obtain ⟨hi24, hm⟩ := hm
      refine pw_iast hx hb hw Tq19 hi24 dX4_lastNight_81 (fun H locs hw => ?_)
      refine lv_iinc (v := (x6 + 1)) (lv' := [(6, .int (x6 + 1)), (0, .ref a0), (1, .int x1), (2, .int x2), (3, .int x3), (5, .int x5)]) hx hb dX4_lastNight_82 hl (k := 5) rfl rfl (by decide) rfl (fun ls hl => ?_)
      refine lv_goto (tgt := 59) hx hb dX4_lastNight_85 (by decide) ?_
      exact ih a0 x1 x2 x3 x5 (x6 + 1) (sA S_20 q19 (Int32.toNatClampNeg x6) r22) _ _ _ (cells) (slots) bc bs hcc hss hw hE Ta0 (lv_sub hl [1, 2, 3, 4, 5, 0] rfl) hm
def pb_X4_lastNight_31 (n : Nat) (a0 : Nat) (x1 : Int32) (x2 : Int32) (x3 : Int32) (x4 : Int32) (S : pq_S) (bc bs : Nat) (Q : (Int32 → pq_S → Prop)) : Prop := ∃ q10 : Nat, (pR S 404 a0) = some q10 ∧ (∃ r13 S_11, m_X4_takenOf n a0 0 S = some (r13, S_11) ∧ ((ix 0 (pN S_11 q10)) ∧ (∃ q16 : Nat, (pR (sA S_11 q10 (Int32.toNatClampNeg 0) r13) 404 a0) = some q16 ∧ (lt_ (if (Int32.ofNat (pN (sA S_11 q10 (Int32.toNatClampNeg 0) r13) q16)) < ((1 : Int32) <<< (x4 &&& (31 : Int32))) then (Int32.ofNat (pN (sA S_11 q10 (Int32.toNatClampNeg 0) r13) q16)) else ((1 : Int32) <<< (x4 &&& (31 : Int32)))) fun v17 => pb_X4_lastNight_59 n n a0 x1 x2 x3 v17 1 (sA S_11 q10 (Int32.toNatClampNeg 0) r13) bc bs Q))))
set_option maxHeartbeats 4000000 in
set_option maxRecDepth 100000 in
theorem wpb_X4_lastNight_31 {p : Program} {l : Launch} {e : Env} {s : State} {m : MethodId} {args : Array Value} {below : List Frame} {meth : Method} {c : Code} (cx : Cx p s m args meth c cX4_lastNight 7 RX4 (some .int)) (C : pq_C) (X : va_W) (S0 : pq_S) (n : Nat) (Q : (Int32 → pq_S → Prop)) (mc ms : Nat) : ∀ (a0 : Nat) (x1 : Int32) (x2 : Int32) (x3 : Int32) (x4 : Int32) (S : pq_S) (H : Heap) (locs : List Loc) (ls : Array Slot) (cells slots bc bs : Nat), cells + bc ≤ mc → slots + bs ≤ ms → PW C X S (pq_F C X S0 s.heap.size) H locs s → Ext S0 S → TY S a0 4 → lv_has ls 7 [(0, .ref a0), (1, .int x1), (2, .int x2), (3, .int x3), (4, .int x4)] → pb_X4_lastNight_31 n a0 x1 x2 x3 x4 S bc bs Q → W p l e (rw_X4_lastNight mc ms) s m args below meth c H locs cells slots (MQ below (QwI C X S0 s.heap.size Q) args s mc ms (pq_F C X S0 s.heap.size)) (F0 m 31 ls []) := by
  obtain ⟨hx, hb, hml, hown, hU, hr, hlk⟩ := id cx
  intro a0 x1 x2 x3 x4 S H locs ls cells slots bc bs hcc hss hw hE Ta0 hl hm
  rw [pb_X4_lastNight_31] at hm
  refine lv_aload_n hx hb dX4_lastNight_31 rfl (lv_at hl 0 rfl) ?_
  obtain ⟨q10, hq10, hm⟩ := hm
  have Tq10 : TY S q10 14 := hw.wf.ref (k := 4) (j := 4) Ta0 (by decide) (by decide) hq10
  refine pg_rb (k := 4) (j := 4) (f := 404) hx hb hown hU iu4 hw Ta0 (by decide) rfl (hU _ tw282) rfl hq10 dX4_lastNight_32 ?_
  refine lv_iconst (v := 0) hx hb dX4_lastNight_35 (by decide) ?_
  refine lv_aload_n hx hb dX4_lastNight_36 rfl (lv_at hl 0 rfl) ?_
  refine lv_iconst (v := 0) hx hb dX4_lastNight_37 (by decide) ?_
  obtain ⟨r13, S_11, hq12, hm⟩ := hm
  refine pw_ci (va_runV (As := [.int 0]) (rest := [.int 0, .ref q10]) ⟨hx, hb, hml, hown, hU⟩ (c_X4_takenOf l C X n S hw.wf _ a0 0 (Ta0) r13 S_11 hq12) (cwV 1 hU (pq_gV tw1219 tw1221 ts93 tw9 tc_X4_takenOf) rfl rfl rfl cd_X4_takenOf ⟨Nat.le_of_ble_eq_true rfl, Nat.le_of_ble_eq_true rfl⟩) (pw_preV hw Ta0 (by decide) rfl) rfl rfl hl.1 rfl (lv_room (Nat.le_of_ble_eq_true rfl)) dX4_lastNight_38 ⟨by show _ ≤ mc; omega, by show _ ≤ ms; omega⟩) hw (fun H locs hw hx14 => ?_)
  have Tq10 : TY S_11 q10 14 := ty_ext hx14 Tq10
  have Ta0 : TY S_11 a0 4 := ty_ext hx14 Ta0
  have hE : Ext S0 S_11 := Ext.tr hE hx14
  obtain ⟨hi15, hm⟩ := hm
  refine pw_iast hx hb hw Tq10 hi15 dX4_lastNight_41 (fun H locs hw => ?_)
  refine lv_iconst (v := 1) hx hb dX4_lastNight_42 (by decide) ?_
  refine lv_iload hx hb dX4_lastNight_43 (lv_at hl 4 rfl) ?_
  refine lv_ishl hx hb dX4_lastNight_45 ?_
  refine lv_aload_n hx hb dX4_lastNight_46 rfl (lv_at hl 0 rfl) ?_
  obtain ⟨q16, hq16, hm⟩ := hm
  have Tq16 : TY (sA S_11 q10 (Int32.toNatClampNeg 0) r13) q16 14 := hw.wf.ref (k := 4) (j := 4) Ta0 (by decide) (by decide) hq16
  refine pg_rb (k := 4) (j := 4) (f := 404) hx hb hown hU iu4 hw Ta0 (by decide) rfl (hU _ tw282) rfl hq16 dX4_lastNight_47 ?_
  refine pw_alenI (v := (Int32.ofNat (pN (sA S_11 q10 (Int32.toNatClampNeg 0) r13) q16))) hx hb hw Tq16 rfl dX4_lastNight_50 ?_
  refine va_mmin hx hb (by rw [hml]; exact hl.1.symm) hown (hU _ tw1223) (hU _ twm_min_s) (hU _ twm_i) (hU _ twm_min_c) (Nat.le_of_ble_eq_true rfl) (Nat.le_of_ble_eq_true rfl) (by show _ ≤ mc; omega) (by show _ ≤ ms; omega) dX4_lastNight_51 ?_
  obtain ⟨v17, ev17, hm⟩ := lt_prop hm
  refine lv_nmI ev17 ?_
  refine lv_istore (lv' := [(5, .int v17), (0, .ref a0), (1, .int x1), (2, .int x2), (3, .int x3), (4, .int x4)]) hx hb dX4_lastNight_54 hl (by decide) rfl (fun ls hl => ?_)
  refine lv_iconst (v := 1) hx hb dX4_lastNight_56 (by decide) ?_
  refine lv_istore (lv' := [(6, .int 1), (5, .int v17), (0, .ref a0), (1, .int x1), (2, .int x2), (3, .int x3), (4, .int x4)]) hx hb dX4_lastNight_57 hl (by decide) rfl (fun ls hl => ?_)
  exact wpb_X4_lastNight_59 cx C X S0 n Q mc ms n a0 x1 x2 x3 v17 1 (sA S_11 q10 (Int32.toNatClampNeg 0) r13) _ _ _ (cells) (slots) bc bs hcc hss hw hE Ta0 (lv_sub hl [2, 3, 4, 5, 1, 0] rfl) hm
def wp_X4_lastNight (n : Nat) (a0 : Nat) (x1 : Int32) (x2 : Int32) (x3 : Int32) (S0 : pq_S) (mc ms : Nat) (Q : (Int32 → pq_S → Prop)) : Prop := if 0 < ((pI S0 405 a0) - x1) then if (pR S0 404 a0) = none then 1 ≤ mc ∧ 4096 ≤ ms ∧ ∀ q4 : Nat, q4 ∉ pL S0 → (pb_X4_lastNight_31 n a0 x1 x2 x3 ((pI S0 405 a0) - x1) (sR (nA S0 q4 14 4096) 404 a0 (some q4)) (mc - (1)) (ms - (4096)) Q) else pb_X4_lastNight_31 n a0 x1 x2 x3 ((pI S0 405 a0) - x1) S0 mc ms Q else Q 0 S0
theorem tc_X4_lastNight : Cond.code yX4_lastNight cX4_lastNight 7 (some .int) ∈ pq_U := tw1218
theorem cd_X4_lastNight : yX4_lastNight.cls = RX4 ∧ yX4_lastNight.cls ≠ "java/lang/invoke/MethodHandle" ∧ yX4_lastNight.cls ≠ "java/lang/invoke/VarHandle" ∧ (parseMethodDescriptor yX4_lastNight.desc).map (fun d => d.parameters.length) = some 3 := by decide +kernel
set_option maxHeartbeats 4000000 in
set_option maxRecDepth 100000 in
theorem cw_X4_lastNight (l : Launch) (C : pq_C) (X : va_W) (n : Nat) (S0 : pq_S) (hF : WF S0) (sz : Nat) (a0 : Nat) (x1 : Int32) (x2 : Int32) (x3 : Int32) (Ta0 : TY S0 a0 4) (mc ms : Nat) (Q : (Int32 → pq_S → Prop)) (hm : wp_X4_lastNight n a0 x1 x2 x3 S0 mc ms Q) : Met l yX4_lastNight (.code yX4_lastNight cX4_lastNight 7 (some .int) :: pq_U) (rw_X4_lastNight mc ms) (va_Pc [.ref a0, .int x1, .int x2, .int x3] (CPre C X S0 sz)) (QwI C X S0 sz Q) mc ms (pq_F C X S0 sz) := by
  refine Met.ofW (cc := cX4_lastNight) (maxL := 7) (ret := (some .int)) (by decide) rfl ?_
  intro p e s m args below meth c s₁ B hml hv
  obtain ⟨rfl, hv⟩ := hv
  have hsz := hv.1
  subst hsz
  have hw := pw_entry hF hv
  have hts := atoms_spec (ws := .code yX4_lastNight cX4_lastNight 7 (some .int) :: pq_U) B.pre
  have hU : ∀ w ∈ pq_U, w.before _ s = true := fun w h => hts w (List.mem_cons_of_mem _ h)
  have hx := B.exec
  have hb := B.bytes
  have hr := B.returns
  have hown : s.vm.findClass RX4 = some m.cls := findClass_of_methodNamed B.named
  have hlk := B.notSynchronized
  have hl := lv_entry ([.ref a0, .int x1, .int x2, .int x3]) (n := 7) (Nat.le_of_ble_eq_true rfl)
  rw [lg_entry_eq]
  generalize (lg_sl ([.ref a0, .int x1, .int x2, .int x3]) ++ List.replicate (7 - (lg_sl ([.ref a0, .int x1, .int x2, .int x3])).length) Slot.unset).toArray = ls at hl ⊢
  have hl : lv_has ls 7 [(0, .ref a0), (1, .int x1), (2, .int x2), (3, .int x3)] := hl
  have hE : Ext S0 S0 := Ext.rf _
  have cx : Cx p s m _ meth c cX4_lastNight 7 RX4 (some .int) := ⟨hx, hb, hml, hown, hU, hr, hlk⟩
  have hcc : 0 + mc ≤ mc := by omega
  have hss : 0 + ms ≤ ms := by omega
  rw [wp_X4_lastNight] at hm
  refine lv_aload_n hx hb dX4_lastNight_0 rfl (lv_at hl 0 rfl) ?_
  refine pg_i (k := 4) (j := 5) (f := 405) hx hb hown hU iu4 hw Ta0 (by decide) rfl (hU _ tw283) rfl dX4_lastNight_1 ?_
  refine lv_iload_n hx hb dX4_lastNight_4 rfl (lv_at hl 1 rfl) ?_
  refine lv_isub hx hb dX4_lastNight_5 ?_
  refine lv_istore (lv' := [(4, .int ((pI S0 405 a0) - x1)), (0, .ref a0), (1, .int x1), (2, .int x2), (3, .int x3)]) hx hb dX4_lastNight_6 hl (by decide) rfl (fun ls hl => ?_)
  refine lv_iload hx hb dX4_lastNight_8 (lv_at hl 0 rfl) ?_
  refine lv_if_gt (tgt := 15) hx hb dX4_lastNight_10 (by decide) (fun h1 => ?_) (fun h1 => ?_)
  · rw [if_pos h1] at hm
    refine lv_aload_n hx hb dX4_lastNight_15 rfl (lv_at hl 1 rfl) ?_
    refine pg_r (k := 4) (j := 4) (f := 404) hx hb hown hU iu4 hw Ta0 (by decide) rfl (hU _ tw282) rfl dX4_lastNight_16 ?_
    by_cases ho2 : (pR S0 404 a0) = none
    · rw [if_pos ho2] at hm
      rw [ho2]
      refine lv_ifnonnullN hx hb dX4_lastNight_19 ?_
      refine lv_aload_n hx hb dX4_lastNight_22 rfl (lv_at hl 1 rfl) ?_
      refine lv_sipush (v := 4096) hx hb dX4_lastNight_23 (by decide) ?_
      obtain ⟨hb6, hb7, hm⟩ := hm
      refine pn_newI (N := 4096) hx hb (hU _ tw108) hw (by decide) (by decide) (by decide) (by show _ ≤ mc; omega) (by show _ ≤ ms; omega) dX4_lastNight_26 (fun q4 H hf5 hw => ?_)
      replace hm := hm q4 hf5
      have Ta0 : TY (nA S0 q4 14 4096) a0 4 := ty_ext (ext_nA (n := 4096) hf5) Ta0
      have hE : Ext S0 (nA S0 q4 14 4096) := Ext.tr hE (ext_nA (n := 4096) hf5)
      have Tq4 : TY (nA S0 q4 14 4096) q4 14 := ty_nA _ _ _ _
      refine W.widen (k := 1) (n := 4096) (by omega) (by omega) ?_
      have hcc : 1 + (mc - (1)) ≤ mc := by omega
      have hss : 4096 + (ms - (4096)) ≤ ms := by omega
      refine pp_r (k := 4) (j := 4) (f := 404) hx hb hown hU iu4 tyX4_ok nmX4 hw Ta0 Tq4 (by decide) rfl (hU _ tw282) rfl rfl rfl rfl rfl dX4_lastNight_28 (fun H locs hw => ?_)
      exact wpb_X4_lastNight_31 cx C X S0 n Q mc ms a0 x1 x2 x3 ((pI S0 405 a0) - x1) (sR (nA S0 q4 14 4096) 404 a0 (some q4)) _ _ _ (1) (4096) (mc - (1)) (ms - (4096)) hcc hss hw hE Ta0 (lv_sub hl [1, 2, 3, 4, 0] rfl) hm
    · rw [if_neg ho2] at hm
      obtain ⟨q3, hq3⟩ := Option.ne_none_iff_exists'.mp ho2
      rw [hq3]
      refine lv_ifnonnull (tgt := 31) hx hb dX4_lastNight_19 (by decide) ?_
      exact wpb_X4_lastNight_31 cx C X S0 n Q mc ms a0 x1 x2 x3 ((pI S0 405 a0) - x1) S0 _ _ _ (0) (0) mc ms hcc hss hw hE Ta0 (lv_sub hl [1, 2, 3, 4, 0] rfl) hm
  · rw [if_neg h1] at hm
    refine lv_iconst (v := 0) hx hb dX4_lastNight_13 (by decide) ?_
    exact pw_wiret hx hb hr rfl hlk hw hE hm (by omega) (by omega) dX4_lastNight_14
abbrev rw_X5_init (mc ms : Nat) : Room := { frames := 1, cells := mc, slots := ms, locals := 20 }
def wp_X5_init (n : Nat) (a0 : Nat) (S0 : pq_S) (mc ms : Nat) (Q : (pq_S → Prop)) : Prop := 1 ≤ mc ∧ 17 ≤ ms ∧ ∀ q1 : Nat, q1 ∉ pL S0 → (Q (sR (nA S0 q1 16 17) 500 a0 (some q1)))
theorem tc_X5_init : Cond.code yX5_init cX5_init 1 none ∈ pq_U := tw350
theorem cd_X5_init : yX5_init.cls = RX5 ∧ yX5_init.cls ≠ "java/lang/invoke/MethodHandle" ∧ yX5_init.cls ≠ "java/lang/invoke/VarHandle" ∧ (parseMethodDescriptor yX5_init.desc).map (fun d => d.parameters.length) = some 0 := by decide +kernel
set_option maxHeartbeats 4000000 in
set_option maxRecDepth 100000 in
theorem cw_X5_init (l : Launch) (C : pq_C) (X : va_W) (n : Nat) (S0 : pq_S) (hF : WF S0) (sz : Nat) (a0 : Nat) (Ta0 : TY S0 a0 5) (mc ms : Nat) (Q : (pq_S → Prop)) (hm : wp_X5_init n a0 S0 mc ms Q) : Met l yX5_init (.code yX5_init cX5_init 1 none :: pq_U) (rw_X5_init mc ms) (va_Pc [.ref a0] (CPre C X S0 sz)) (QwV C X S0 sz Q) mc ms (pq_F C X S0 sz) := by
  refine Met.ofW (cc := cX5_init) (maxL := 1) (ret := none) (by decide) rfl ?_
  intro p e s m args below meth c s₁ B hml hv
  obtain ⟨rfl, hv⟩ := hv
  have hsz := hv.1
  subst hsz
  have hw := pw_entry hF hv
  have hts := atoms_spec (ws := .code yX5_init cX5_init 1 none :: pq_U) B.pre
  have hU : ∀ w ∈ pq_U, w.before _ s = true := fun w h => hts w (List.mem_cons_of_mem _ h)
  have hx := B.exec
  have hb := B.bytes
  have hr := B.returns
  have hown : s.vm.findClass RX5 = some m.cls := findClass_of_methodNamed B.named
  have hlk := B.notSynchronized
  have hin : meth.name = "<init>" := (name_of_methodNamed B.named B.method).1
  have hl := lv_entry ([.ref a0]) (n := 1) (Nat.le_of_ble_eq_true rfl)
  rw [lg_entry_eq]
  generalize (lg_sl ([.ref a0]) ++ List.replicate (1 - (lg_sl ([.ref a0])).length) Slot.unset).toArray = ls at hl ⊢
  have hl : lv_has ls 1 [(0, .ref a0)] := hl
  have hE : Ext S0 S0 := Ext.rf _
  have cx : Cx p s m _ meth c cX5_init 1 RX5 none := ⟨hx, hb, hml, hown, hU, hr, hlk⟩
  have hcc : 0 + mc ≤ mc := by omega
  have hss : 0 + ms ≤ ms := by omega
  rw [wp_X5_init] at hm
  refine lv_aload_n hx hb dX5_init_0 rfl (lv_at hl 0 rfl) ?_
  refine pw_obj hx hb (by rw [hml]; exact hl.1.symm) hown (hU _ tw351) (hU _ tw_obji) (hU _ tw_objc) dX5_init_1 (Nat.le_of_ble_eq_true rfl) (Nat.le_of_ble_eq_true rfl) ?_
  refine lv_aload_n hx hb dX5_init_4 rfl (lv_at hl 0 rfl) ?_
  refine lv_bipush (v := 17) hx hb dX5_init_5 (by decide) ?_
  obtain ⟨hb3, hb4, hm⟩ := hm
  refine pn_newS (N := 17) hx hb hown (hU _ tw352) hw (by decide) (by decide) (by decide) (by show _ ≤ mc; omega) (by show _ ≤ ms; omega) dX5_init_7 (fun q1 H hf2 hw => ?_)
  replace hm := hm q1 hf2
  have Ta0 : TY (nA S0 q1 16 17) a0 5 := ty_ext (ext_nA (n := 17) hf2) Ta0
  have hE : Ext S0 (nA S0 q1 16 17) := Ext.tr hE (ext_nA (n := 17) hf2)
  have Tq1 : TY (nA S0 q1 16 17) q1 16 := ty_nA _ _ _ _
  refine W.widen (k := 1) (n := 17) (by omega) (by omega) ?_
  have hcc : 1 + (mc - (1)) ≤ mc := by omega
  have hss : 17 + (ms - (17)) ≤ ms := by omega
  refine ppF_r (k := 5) (j := 0) (f := 500) hx hb hown hU iu5 tyX5_ok nmX5 hw Ta0 Tq1 (by decide) rfl (hU _ tw354) rfl rfl hin rfl rfl rfl rfl dX5_init_10 (fun H locs hw => ?_)
  exact pw_wvret hx hb hr hlk hw hE hm (by omega) (by omega) dX5_init_13
abbrev rw_X9_init (mc ms : Nat) : Room := { frames := 1, cells := mc, slots := ms, locals := 20 }
def wp_X9_init (n : Nat) (a0 : Nat) (a1 : Nat) (x2 : Int32) (S0 : pq_S) (mc ms : Nat) (Q : (pq_S → Prop)) : Prop := Q (sI (sR S0 900 a0 (some a1)) 901 a0 x2)
theorem tc_X9_init : Cond.code yX9_init cX9_init 3 none ∈ pq_U := tw88
theorem cd_X9_init : yX9_init.cls = RX9 ∧ yX9_init.cls ≠ "java/lang/invoke/MethodHandle" ∧ yX9_init.cls ≠ "java/lang/invoke/VarHandle" ∧ (parseMethodDescriptor yX9_init.desc).map (fun d => d.parameters.length) = some 2 := by decide +kernel
set_option maxHeartbeats 4000000 in
set_option maxRecDepth 100000 in
theorem cw_X9_init (l : Launch) (C : pq_C) (X : va_W) (n : Nat) (S0 : pq_S) (hF : WF S0) (sz : Nat) (a0 : Nat) (a1 : Nat) (x2 : Int32) (Ta0 : TY S0 a0 9) (Ta1 : TY S0 a1 14) (mc ms : Nat) (Q : (pq_S → Prop)) (hm : wp_X9_init n a0 a1 x2 S0 mc ms Q) : Met l yX9_init (.code yX9_init cX9_init 3 none :: pq_U) (rw_X9_init mc ms) (va_Pc [.ref a0, .ref a1, .int x2] (CPre C X S0 sz)) (QwV C X S0 sz Q) mc ms (pq_F C X S0 sz) := by
  refine Met.ofW (cc := cX9_init) (maxL := 3) (ret := none) (by decide) rfl ?_
  intro p e s m args below meth c s₁ B hml hv
  obtain ⟨rfl, hv⟩ := hv
  have hsz := hv.1
  subst hsz
  have hw := pw_entry hF hv
  have hts := atoms_spec (ws := .code yX9_init cX9_init 3 none :: pq_U) B.pre
  have hU : ∀ w ∈ pq_U, w.before _ s = true := fun w h => hts w (List.mem_cons_of_mem _ h)
  have hx := B.exec
  have hb := B.bytes
  have hr := B.returns
  have hown : s.vm.findClass RX9 = some m.cls := findClass_of_methodNamed B.named
  have hlk := B.notSynchronized
  have hin : meth.name = "<init>" := (name_of_methodNamed B.named B.method).1
  have hl := lv_entry ([.ref a0, .ref a1, .int x2]) (n := 3) (Nat.le_of_ble_eq_true rfl)
  rw [lg_entry_eq]
  generalize (lg_sl ([.ref a0, .ref a1, .int x2]) ++ List.replicate (3 - (lg_sl ([.ref a0, .ref a1, .int x2])).length) Slot.unset).toArray = ls at hl ⊢
  have hl : lv_has ls 3 [(0, .ref a0), (1, .ref a1), (2, .int x2)] := hl
  have hE : Ext S0 S0 := Ext.rf _
  have cx : Cx p s m _ meth c cX9_init 3 RX9 none := ⟨hx, hb, hml, hown, hU, hr, hlk⟩
  have hcc : 0 + mc ≤ mc := by omega
  have hss : 0 + ms ≤ ms := by omega
  rw [wp_X9_init] at hm
  refine lv_aload_n hx hb dX9_init_0 rfl (lv_at hl 0 rfl) ?_
  refine pw_obj hx hb (by rw [hml]; exact hl.1.symm) hown (hU _ tw89) (hU _ tw_obji) (hU _ tw_objc) dX9_init_1 (Nat.le_of_ble_eq_true rfl) (Nat.le_of_ble_eq_true rfl) ?_
  refine lv_aload_n hx hb dX9_init_4 rfl (lv_at hl 0 rfl) ?_
  refine lv_aload_n hx hb dX9_init_5 rfl (lv_at hl 1 rfl) ?_
  refine ppF_r (k := 9) (j := 0) (f := 900) hx hb hown hU iu9 tyX9_ok nmX9 hw Ta0 Ta1 (by decide) rfl (hU _ tw90) rfl rfl hin rfl rfl rfl rfl dX9_init_6 (fun H locs hw => ?_)
  refine lv_aload_n hx hb dX9_init_9 rfl (lv_at hl 0 rfl) ?_
  refine lv_iload_n hx hb dX9_init_10 rfl (lv_at hl 2 rfl) ?_
  refine ppF_i (k := 9) (j := 1) (f := 901) hx hb hown hU iu9 tyX9_ok nmX9 hw Ta0 (by decide) rfl (hU _ tw91) rfl rfl hin rfl rfl dX9_init_11 (fun H locs hw => ?_)
  exact pw_wvret hx hb hr hlk hw hE hm (by omega) (by omega) dX9_init_14
abbrev rw_X10_init (mc ms : Nat) : Room := { frames := 1, cells := mc, slots := ms, locals := 20 }
def wp_X10_init (n : Nat) (a0 : Nat) (S0 : pq_S) (mc ms : Nat) (Q : (pq_S → Prop)) : Prop := 1 ≤ mc ∧ 600 ≤ ms ∧ ∀ q1 : Nat, q1 ∉ pL S0 → (Q (sR (nA S0 q1 13 600) 1000 a0 (some q1)))
theorem tc_X10_init : Cond.code yX10_init cX10_init 1 none ∈ pq_U := tw38
theorem cd_X10_init : yX10_init.cls = RX10 ∧ yX10_init.cls ≠ "java/lang/invoke/MethodHandle" ∧ yX10_init.cls ≠ "java/lang/invoke/VarHandle" ∧ (parseMethodDescriptor yX10_init.desc).map (fun d => d.parameters.length) = some 0 := by decide +kernel
set_option maxHeartbeats 4000000 in
set_option maxRecDepth 100000 in
theorem cw_X10_init (l : Launch) (C : pq_C) (X : va_W) (n : Nat) (S0 : pq_S) (hF : WF S0) (sz : Nat) (a0 : Nat) (Ta0 : TY S0 a0 10) (mc ms : Nat) (Q : (pq_S → Prop)) (hm : wp_X10_init n a0 S0 mc ms Q) : Met l yX10_init (.code yX10_init cX10_init 1 none :: pq_U) (rw_X10_init mc ms) (va_Pc [.ref a0] (CPre C X S0 sz)) (QwV C X S0 sz Q) mc ms (pq_F C X S0 sz) := by
  refine Met.ofW (cc := cX10_init) (maxL := 1) (ret := none) (by decide) rfl ?_
  intro p e s m args below meth c s₁ B hml hv
  obtain ⟨rfl, hv⟩ := hv
  have hsz := hv.1
  subst hsz
  have hw := pw_entry hF hv
  have hts := atoms_spec (ws := .code yX10_init cX10_init 1 none :: pq_U) B.pre
  have hU : ∀ w ∈ pq_U, w.before _ s = true := fun w h => hts w (List.mem_cons_of_mem _ h)
  have hx := B.exec
  have hb := B.bytes
  have hr := B.returns
  have hown : s.vm.findClass RX10 = some m.cls := findClass_of_methodNamed B.named
  have hlk := B.notSynchronized
  have hin : meth.name = "<init>" := (name_of_methodNamed B.named B.method).1
  have hl := lv_entry ([.ref a0]) (n := 1) (Nat.le_of_ble_eq_true rfl)
  rw [lg_entry_eq]
  generalize (lg_sl ([.ref a0]) ++ List.replicate (1 - (lg_sl ([.ref a0])).length) Slot.unset).toArray = ls at hl ⊢
  have hl : lv_has ls 1 [(0, .ref a0)] := hl
  have hE : Ext S0 S0 := Ext.rf _
  have cx : Cx p s m _ meth c cX10_init 1 RX10 none := ⟨hx, hb, hml, hown, hU, hr, hlk⟩
  have hcc : 0 + mc ≤ mc := by omega
  have hss : 0 + ms ≤ ms := by omega
  rw [wp_X10_init] at hm
  refine lv_aload_n hx hb dX10_init_0 rfl (lv_at hl 0 rfl) ?_
  refine pw_obj hx hb (by rw [hml]; exact hl.1.symm) hown (hU _ tw39) (hU _ tw_obji) (hU _ tw_objc) dX10_init_1 (Nat.le_of_ble_eq_true rfl) (Nat.le_of_ble_eq_true rfl) ?_
  refine lv_aload_n hx hb dX10_init_4 rfl (lv_at hl 0 rfl) ?_
  refine lv_sipush (v := 600) hx hb dX10_init_5 (by decide) ?_
  obtain ⟨hb3, hb4, hm⟩ := hm
  refine pn_newB (N := 600) hx hb (hU _ tw71) hw (by decide) (by decide) (by decide) (by show _ ≤ mc; omega) (by show _ ≤ ms; omega) dX10_init_8 (fun q1 H hf2 hw => ?_)
  replace hm := hm q1 hf2
  have Ta0 : TY (nA S0 q1 13 600) a0 10 := ty_ext (ext_nA (n := 600) hf2) Ta0
  have hE : Ext S0 (nA S0 q1 13 600) := Ext.tr hE (ext_nA (n := 600) hf2)
  have Tq1 : TY (nA S0 q1 13 600) q1 13 := ty_nA _ _ _ _
  refine W.widen (k := 1) (n := 600) (by omega) (by omega) ?_
  have hcc : 1 + (mc - (1)) ≤ mc := by omega
  have hss : 600 + (ms - (600)) ≤ ms := by omega
  refine ppF_r (k := 10) (j := 0) (f := 1000) hx hb hown hU iu10 tyX10_ok nmX10 hw Ta0 Tq1 (by decide) rfl (hU _ tw40) rfl rfl hin rfl rfl rfl rfl dX10_init_10 (fun H locs hw => ?_)
  exact pw_wvret hx hb hr hlk hw hE hm (by omega) (by omega) dX10_init_13
abbrev rw_X11_coast (mc ms : Nat) : Room := { frames := 7, cells := mc, slots := ms, locals := 151 }
def wp_X11_coast (n : Nat) (a0 : Nat) (x1 : Int32) (S0 : pq_S) (mc ms : Nat) (E : (Nat → pq_S → Prop)) (Q : (Int32 → pq_S → Prop)) : Prop := ∃ r3 S_1, m_X11_isText n a0 x1 600 S0 = some (r3, S_1) ∧ (∃ c7 s8 : Nat, c7 ≤ mc ∧ s8 ≤ ms ∧ wp_X11_need n a0 r3 S_1 c7 s8 E (fun S_6 => ∃ q12 : Nat, (pR S_6 1100 a0) = some q12 ∧ (∃ S_13 : pq_S, m_X10_begin n q12 x1 S_6 = some S_13 ∧ (∃ q16 : Nat, (pR S_13 1105 a0) = some q16 ∧ (∃ q17 : Nat, (pR S_13 1100 a0) = some q17 ∧ (∃ S_18 : pq_S, m_X1_read n q16 q17 S_13 = some S_18 ∧ (∃ r23 S_21, m_X11_endText n a0 S_18 = some (r23, S_21) ∧ (if r23 = 0 then ∃ q26 : Nat, (pR S_21 1101 a0) = some q26 ∧ (∃ q27 : Nat, (pR S_21 1105 a0) = some q27 ∧ (∃ S_28 : pq_S, m_X7_begin n q26 q27 S_21 = some S_28 ∧ (∃ q31 : Nat, (pR S_28 1107 a0) = some q31 ∧ (∃ S_32 : pq_S, m_X0_clear n q31 S_28 = some S_32 ∧ (∃ q35 : Nat, (pR S_32 1109 a0) = some q35 ∧ (∃ q36 : Nat, (pR (sI (sI (sI S_32 501 q35 0) 1112 a0 0) 1114 a0 0) 1101 a0) = some q36 ∧ (∃ q37 : Nat, (pR (sI (sI (sI S_32 501 q35 0) 1112 a0 0) 1114 a0 0) 700 q36) = some q37 ∧ (∃ q38 : Nat, (pR (sI (sI (sI S_32 501 q35 0) 1112 a0 0) 1114 a0 0) 100 q37) = some q38 ∧ (Q (pI (sI (sI (sI S_32 501 q35 0) 1112 a0 0) 1114 a0 0) 902 q38) (sI (sI (sI S_32 501 q35 0) 1112 a0 0) 1114 a0 0)))))))))) else Q r23 S_21))))))))
theorem tc_X11_coast : Cond.code yX11_coast cX11_coast 3 (some .int) ∈ pq_U := tw485
theorem cd_X11_coast : yX11_coast.cls = RX11 ∧ yX11_coast.cls ≠ "java/lang/invoke/MethodHandle" ∧ yX11_coast.cls ≠ "java/lang/invoke/VarHandle" ∧ (parseMethodDescriptor yX11_coast.desc).map (fun d => d.parameters.length) = some 1 := by decide +kernel
set_option maxHeartbeats 4000000 in
set_option maxRecDepth 100000 in
theorem cw_X11_coast (l : Launch) (C : pq_C) (X : va_W) (n : Nat) (S0 : pq_S) (hF : WF S0) (sz : Nat) (a0 : Nat) (x1 : Int32) (Ta0 : TY S0 a0 11) (mc ms : Nat) (hst : l.stackTraces = false) (E : (Nat → pq_S → Prop)) (Q : (Int32 → pq_S → Prop)) (hm : wp_X11_coast n a0 x1 S0 mc ms E Q) : vx_Met l yX11_coast (.code yX11_coast cX11_coast 3 (some .int) :: pq_U) (rw_X11_coast mc ms) (va_Pc [.ref a0, .int x1] (CPre C X S0 sz)) (QwI C X S0 sz Q) (XcP C X S0 sz E) mc ms (pq_F C X S0 sz) := by
  refine vx_ofW (cc := cX11_coast) (maxL := 3) (ret := (some .int)) (by decide) rfl ?_
  intro p e s m args below meth c s₁ B hml hno hv
  obtain ⟨rfl, hv⟩ := hv
  have hsz := hv.1
  subst hsz
  have hw := pw_entry hF hv
  have hts := atoms_spec (ws := .code yX11_coast cX11_coast 3 (some .int) :: pq_U) B.pre
  have hU : ∀ w ∈ pq_U, w.before _ s = true := fun w h => hts w (List.mem_cons_of_mem _ h)
  have hx := B.exec
  have hb := B.bytes
  have hr := B.returns
  have hown : s.vm.findClass RX11 = some m.cls := findClass_of_methodNamed B.named
  have hlk := B.notSynchronized
  have hl := lv_entry ([.ref a0, .int x1]) (n := 3) (Nat.le_of_ble_eq_true rfl)
  rw [lg_entry_eq]
  generalize (lg_sl ([.ref a0, .int x1]) ++ List.replicate (3 - (lg_sl ([.ref a0, .int x1])).length) Slot.unset).toArray = ls at hl ⊢
  have hl : lv_has ls 3 [(0, .ref a0), (1, .int x1)] := hl
  have hE : Ext S0 S0 := Ext.rf _
  have cx : Cx p s m _ meth c cX11_coast 3 RX11 (some .int) := ⟨hx, hb, hml, hown, hU, hr, hlk⟩
  have hcc : 0 + mc ≤ mc := by omega
  have hss : 0 + ms ≤ ms := by omega
  rw [wp_X11_coast] at hm
  refine lv_aload_n hx hb dX11_coast_0 rfl (lv_at hl 0 rfl) ?_
  refine lv_aload_n hx hb dX11_coast_1 rfl (lv_at hl 0 rfl) ?_
  refine lv_iload_n hx hb dX11_coast_2 rfl (lv_at hl 1 rfl) ?_
  refine lv_sipush (v := 600) hx hb dX11_coast_3 (by decide) ?_
  obtain ⟨r3, S_1, hq2, hm⟩ := hm
  refine pw_cz (va_runV (As := [.int x1, .int 600]) (rest := [.ref a0]) ⟨hx, hb, hml, hown, hU⟩ (c_X11_isText l C X n S0 hw.wf _ a0 x1 600 (Ta0) r3 S_1 hq2) (cwV 2 hU (pq_gV tw486 tw488 ts6 tw1 tc_X11_isText) rfl rfl rfl cd_X11_isText ⟨Nat.le_of_ble_eq_true rfl, Nat.le_of_ble_eq_true rfl⟩) (pw_preV hw Ta0 (by decide) rfl) rfl rfl hl.1 rfl (lv_room (Nat.le_of_ble_eq_true rfl)) dX11_coast_6 ⟨by show _ ≤ mc; omega, by show _ ≤ ms; omega⟩) hw (fun H locs hw hx4 hz5 => ?_)
  have Ta0 : TY S_1 a0 11 := ty_ext hx4 Ta0
  have hE : Ext S0 S_1 := Ext.tr hE hx4
  obtain ⟨c7, s8, hb9, hb10, hm⟩ := hm
  refine px_v (vx_runV (As := [.int r3]) (rest := []) ⟨hx, hb, hml, hown, hU⟩ (cw_X11_need l C X n S_1 hw.wf _ a0 r3 (Ta0) c7 s8 hst E _ hm) (cwV 1 hU (pq_gV tw490 tw492 ts7 tw1 tc_X11_need) rfl rfl rfl cd_X11_need ⟨Nat.le_of_ble_eq_true rfl, Nat.le_of_ble_eq_true rfl⟩) (pw_preV hw Ta0 (by decide) rfl) rfl rfl hl.1 rfl (lv_room (Nat.le_of_ble_eq_true rfl)) dX11_coast_9 ⟨by show _ ≤ mc; omega, by show _ ≤ ms; omega⟩) hw hE hno hlk (by omega) (by omega) (fun S_6 H locs hm hw hx11 => ?_)
  have Ta0 : TY S_6 a0 11 := ty_ext hx11 Ta0
  have hE : Ext S0 S_6 := Ext.tr hE hx11
  refine W.widen (k := c7) (n := s8) (by omega) (by omega) ?_
  have hcc : c7 + (mc - (c7)) ≤ mc := by omega
  have hss : s8 + (ms - (s8)) ≤ ms := by omega
  refine lv_aload_n hx hb dX11_coast_12 rfl (lv_at hl 0 rfl) ?_
  obtain ⟨q12, hq12, hm⟩ := hm
  have Tq12 : TY S_6 q12 10 := hw.wf.ref (k := 11) (j := 0) Ta0 (by decide) (by decide) hq12
  refine pg_rb (k := 11) (j := 0) (f := 1100) hx hb hown hU iu11 hw Ta0 (by decide) rfl (hU _ tw363) rfl hq12 dX11_coast_13 ?_
  refine lv_iload_n hx hb dX11_coast_16 rfl (lv_at hl 1 rfl) ?_
  obtain ⟨S_13, hq14, hm⟩ := hm
  refine pw_cv (va_runVN (As := [.int x1]) (rest := []) ⟨hx, hb, hml, hown, hU⟩ (c_X10_begin l C X n S_6 hw.wf _ q12 x1 (Tq12) S_13 hq14) ⟨va_cnB (host := "WickNights") 1 hU (pq_g1 tc_X10_begin) rfl rfl rfl (hw.nw 90 rfl) (hU _ tw2) cd_X10_begin.2 ⟨Nat.le_of_ble_eq_true rfl, Nat.le_of_ble_eq_true rfl⟩, hU _ tw558, hU _ ts9⟩ (pw_preV hw Tq12 (by decide) rfl) rfl rfl hl.1 rfl (lv_room (Nat.le_of_ble_eq_true rfl)) dX11_coast_17 ⟨by show _ ≤ mc; omega, by show _ ≤ ms; omega⟩) hw (fun H locs hw hx15 => ?_)
  have Ta0 : TY S_13 a0 11 := ty_ext hx15 Ta0
  have hE : Ext S0 S_13 := Ext.tr hE hx15
  refine lv_aload_n hx hb dX11_coast_20 rfl (lv_at hl 0 rfl) ?_
  obtain ⟨q16, hq16, hm⟩ := hm
  have Tq16 : TY S_13 q16 1 := hw.wf.ref (k := 11) (j := 5) Ta0 (by decide) (by decide) hq16
  refine pg_rb (k := 11) (j := 5) (f := 1105) hx hb hown hU iu11 hw Ta0 (by decide) rfl (hU _ tw368) rfl hq16 dX11_coast_21 ?_
  refine lv_aload_n hx hb dX11_coast_24 rfl (lv_at hl 0 rfl) ?_
  obtain ⟨q17, hq17, hm⟩ := hm
  have Tq17 : TY S_13 q17 10 := hw.wf.ref (k := 11) (j := 0) Ta0 (by decide) (by decide) hq17
  refine pg_rb (k := 11) (j := 0) (f := 1100) hx hb hown hU iu11 hw Ta0 (by decide) rfl (hU _ tw363) rfl hq17 dX11_coast_25 ?_
  obtain ⟨S_18, hq19, hm⟩ := hm
  refine pw_cv (va_runVN (As := [.ref q17]) (rest := []) ⟨hx, hb, hml, hown, hU⟩ (c_X1_read l C X n S_13 hw.wf _ q16 q17 (Tq16) (Tq17) S_18 hq19) ⟨va_cnB (host := "WickNights") 1 hU (pq_g1 tc_X1_read) rfl rfl rfl (hw.nw 91 rfl) (hU _ tw4) cd_X1_read.2 ⟨Nat.le_of_ble_eq_true rfl, Nat.le_of_ble_eq_true rfl⟩, hU _ tw563, hU _ ts10⟩ (pw_preV hw Tq16 (by decide) rfl) rfl rfl hl.1 rfl (lv_room (Nat.le_of_ble_eq_true rfl)) dX11_coast_28 ⟨by show _ ≤ mc; omega, by show _ ≤ ms; omega⟩) hw (fun H locs hw hx20 => ?_)
  have Ta0 : TY S_18 a0 11 := ty_ext hx20 Ta0
  have hE : Ext S0 S_18 := Ext.tr hE hx20
  refine lv_aload_n hx hb dX11_coast_31 rfl (lv_at hl 0 rfl) ?_
  obtain ⟨r23, S_21, hq22, hm⟩ := hm
  refine pw_ci (va_runV (As := []) (rest := []) ⟨hx, hb, hml, hown, hU⟩ (c_X11_endText l C X n S_18 hw.wf _ a0 (Ta0) r23 S_21 hq22) (cwV 0 hU (pq_gV tw699 tw701 ts28 tw1 tc_X11_endText) rfl rfl rfl cd_X11_endText ⟨Nat.le_of_ble_eq_true rfl, Nat.le_of_ble_eq_true rfl⟩) (pw_preV hw Ta0 (by decide) rfl) rfl rfl hl.1 rfl (lv_room (Nat.le_of_ble_eq_true rfl)) dX11_coast_32 ⟨by show _ ≤ mc; omega, by show _ ≤ ms; omega⟩) hw (fun H locs hw hx24 => ?_)
  have Ta0 : TY S_21 a0 11 := ty_ext hx24 Ta0
  have hE : Ext S0 S_21 := Ext.tr hE hx24
  refine lv_istore_n (lv' := [(2, .int r23), (0, .ref a0), (1, .int x1)]) hx hb dX11_coast_35 rfl hl (by decide) rfl (fun ls hl => ?_)
  refine lv_iload_n hx hb dX11_coast_36 rfl (lv_at hl 0 rfl) ?_
  refine lv_if_eq (tgt := 42) hx hb dX11_coast_37 (by decide) (fun h25 => ?_) (fun h25 => ?_)
  · rw [if_pos h25] at hm
    refine lv_aload_n hx hb dX11_coast_42 rfl (lv_at hl 1 rfl) ?_
    obtain ⟨q26, hq26, hm⟩ := hm
    have Tq26 : TY S_21 q26 7 := hw.wf.ref (k := 11) (j := 1) Ta0 (by decide) (by decide) hq26
    refine pg_rb (k := 11) (j := 1) (f := 1101) hx hb hown hU iu11 hw Ta0 (by decide) rfl (hU _ tw364) rfl hq26 dX11_coast_43 ?_
    refine lv_aload_n hx hb dX11_coast_46 rfl (lv_at hl 1 rfl) ?_
    obtain ⟨q27, hq27, hm⟩ := hm
    have Tq27 : TY S_21 q27 1 := hw.wf.ref (k := 11) (j := 5) Ta0 (by decide) (by decide) hq27
    refine pg_rb (k := 11) (j := 5) (f := 1105) hx hb hown hU iu11 hw Ta0 (by decide) rfl (hU _ tw368) rfl hq27 dX11_coast_47 ?_
    obtain ⟨S_28, hq29, hm⟩ := hm
    refine pw_cv (va_runVN (As := [.ref q27]) (rest := []) ⟨hx, hb, hml, hown, hU⟩ (c_X7_begin l C X n S_21 hw.wf _ q26 q27 (Tq26) (Tq27) S_28 hq29) ⟨va_cnB (host := "WickNights") 1 hU (pq_g1 tc_X7_begin) rfl rfl rfl (hw.nw 104 rfl) (hU _ tw3) cd_X7_begin.2 ⟨Nat.le_of_ble_eq_true rfl, Nat.le_of_ble_eq_true rfl⟩, hU _ tw705, hU _ ts29⟩ (pw_preV hw Tq26 (by decide) rfl) rfl rfl hl.1 rfl (lv_room (Nat.le_of_ble_eq_true rfl)) dX11_coast_50 ⟨by show _ ≤ mc; omega, by show _ ≤ ms; omega⟩) hw (fun H locs hw hx30 => ?_)
    have Ta0 : TY S_28 a0 11 := ty_ext hx30 Ta0
    have hE : Ext S0 S_28 := Ext.tr hE hx30
    refine lv_aload_n hx hb dX11_coast_53 rfl (lv_at hl 1 rfl) ?_
    obtain ⟨q31, hq31, hm⟩ := hm
    have Tq31 : TY S_28 q31 0 := hw.wf.ref (k := 11) (j := 7) Ta0 (by decide) (by decide) hq31
    refine pg_rb (k := 11) (j := 7) (f := 1107) hx hb hown hU iu11 hw Ta0 (by decide) rfl (hU _ tw370) rfl hq31 dX11_coast_54 ?_
    obtain ⟨S_32, hq33, hm⟩ := hm
    refine pw_cv (va_runVN (As := []) (rest := []) ⟨hx, hb, hml, hown, hU⟩ (c_X0_clear l C X n S_28 hw.wf _ q31 (Tq31) S_32 hq33) ⟨va_cnB (host := "WickNights") 0 hU (pq_g1 tc_X0_clear) rfl rfl rfl (hw.nw 111 rfl) (hU _ tw11) cd_X0_clear.2 ⟨Nat.le_of_ble_eq_true rfl, Nat.le_of_ble_eq_true rfl⟩, hU _ tw728, hU _ ts34⟩ (pw_preV hw Tq31 (by decide) rfl) rfl rfl hl.1 rfl (lv_room (Nat.le_of_ble_eq_true rfl)) dX11_coast_57 ⟨by show _ ≤ mc; omega, by show _ ≤ ms; omega⟩) hw (fun H locs hw hx34 => ?_)
    have Ta0 : TY S_32 a0 11 := ty_ext hx34 Ta0
    have hE : Ext S0 S_32 := Ext.tr hE hx34
    refine lv_aload_n hx hb dX11_coast_60 rfl (lv_at hl 1 rfl) ?_
    obtain ⟨q35, hq35, hm⟩ := hm
    have Tq35 : TY S_32 q35 5 := hw.wf.ref (k := 11) (j := 9) Ta0 (by decide) (by decide) hq35
    refine pg_rb (k := 11) (j := 9) (f := 1109) hx hb hown hU iu11 hw Ta0 (by decide) rfl (hU _ tw372) rfl hq35 dX11_coast_61 ?_
    refine lv_iconst (v := 0) hx hb dX11_coast_64 (by decide) ?_
    refine ppN_i (k := 5) (j := 1) (f := 501) hx hb hown hU iu5 tyX5_ok nmX5 hw Tq35 (by decide) rfl 82 rfl rfl rfl rfl dX11_coast_65 (fun H locs hw => ?_)
    refine lv_aload_n hx hb dX11_coast_68 rfl (lv_at hl 1 rfl) ?_
    refine lv_iconst (v := 0) hx hb dX11_coast_69 (by decide) ?_
    refine pp_i (k := 11) (j := 12) (f := 1112) hx hb hown hU iu11 tyX11_ok nmX11 hw Ta0 (by decide) rfl (hU _ tw375) rfl rfl rfl dX11_coast_70 (fun H locs hw => ?_)
    refine lv_aload_n hx hb dX11_coast_73 rfl (lv_at hl 1 rfl) ?_
    refine lv_iconst (v := 0) hx hb dX11_coast_74 (by decide) ?_
    refine pp_i (k := 11) (j := 14) (f := 1114) hx hb hown hU iu11 tyX11_ok nmX11 hw Ta0 (by decide) rfl (hU _ tw377) rfl rfl rfl dX11_coast_75 (fun H locs hw => ?_)
    refine lv_aload_n hx hb dX11_coast_78 rfl (lv_at hl 1 rfl) ?_
    obtain ⟨q36, hq36, hm⟩ := hm
    have Tq36 : TY (sI (sI (sI S_32 501 q35 0) 1112 a0 0) 1114 a0 0) q36 7 := hw.wf.ref (k := 11) (j := 1) Ta0 (by decide) (by decide) hq36
    refine pg_rb (k := 11) (j := 1) (f := 1101) hx hb hown hU iu11 hw Ta0 (by decide) rfl (hU _ tw364) rfl hq36 dX11_coast_79 ?_
    obtain ⟨q37, hq37, hm⟩ := hm
    have Tq37 : TY (sI (sI (sI S_32 501 q35 0) 1112 a0 0) 1114 a0 0) q37 1 := hw.wf.ref (k := 7) (j := 0) Tq36 (by decide) (by decide) hq37
    refine pgN_rb (k := 7) (j := 0) (f := 700) hx hb hown hU iu7 hw Tq36 (by decide) rfl 55 rfl rfl hq37 dX11_coast_82 ?_
    obtain ⟨q38, hq38, hm⟩ := hm
    have Tq38 : TY (sI (sI (sI S_32 501 q35 0) 1112 a0 0) 1114 a0 0) q38 9 := hw.wf.ref (k := 1) (j := 0) Tq37 (by decide) (by decide) hq38
    refine pgN_rb (k := 1) (j := 0) (f := 100) hx hb hown hU iu1 hw Tq37 (by decide) rfl 22 rfl rfl hq38 dX11_coast_85 ?_
    refine pgN_i (k := 9) (j := 2) (f := 902) hx hb hown hU iu9 hw Tq38 (by decide) rfl 14 rfl rfl dX11_coast_88 ?_
    refine vx_ret ?_
    exact pw_wiret hx hb hr rfl hlk hw hE hm (by omega) (by omega) dX11_coast_91
  · rw [if_neg h25] at hm
    refine lv_iload_n hx hb dX11_coast_40 rfl (lv_at hl 0 rfl) ?_
    refine vx_ret ?_
    exact pw_wiret hx hb hr rfl hlk hw hE hm (by omega) (by omega) dX11_coast_41
abbrev rw_X11_law (mc ms : Nat) : Room := { frames := 72, cells := mc, slots := ms, locals := 1708 }
def pb_X11_law_80 (n : Nat) (a0 : Nat) (b0 : Nat) (S : pq_S) (bc bs : Nat) (E : (Nat → pq_S → Prop)) (Q : (Int32 → pq_S → Prop)) : Prop := ∃ q38 : Nat, (pR S 1106 a0) = some q38 ∧ (∃ S_39 : pq_S, m_X2_copyFrom n b0 q38 S = some S_39 ∧ (Q 1 S_39))
set_option maxHeartbeats 4000000 in
set_option maxRecDepth 100000 in
theorem wpb_X11_law_80 {p : Program} {l : Launch} {e : Env} {s : State} {m : MethodId} {args : Array Value} {below : List Frame} {meth : Method} {c : Code} (cx : Cx p s m args meth c cX11_law 5 RX11 (some .int)) (hno : ∀ x ∈ c.exceptionTable.toList, False) (C : pq_C) (X : va_W) (S0 : pq_S) (n : Nat) (hst : l.stackTraces = false) (E : (Nat → pq_S → Prop)) (Q : (Int32 → pq_S → Prop)) (mc ms : Nat) : ∀ (a0 : Nat) (b0 : Nat) (S : pq_S) (H : Heap) (locs : List Loc) (ls : Array Slot) (cells slots bc bs : Nat), cells + bc ≤ mc → slots + bs ≤ ms → PW C X S (pq_F C X S0 s.heap.size) H locs s → Ext S0 S → TY S a0 11 → TY S b0 2 → lv_has ls 5 [(0, .ref a0)] → pb_X11_law_80 n a0 b0 S bc bs E Q → W p l e (rw_X11_law mc ms) s m args below meth c H locs cells slots (vx_MQ below (QwI C X S0 s.heap.size Q) (XcP C X S0 s.heap.size E) args s mc ms (pq_F C X S0 s.heap.size)) (F0 m 80 ls [.ref b0]) := by
  obtain ⟨hx, hb, hml, hown, hU, hr, hlk⟩ := id cx
  intro a0 b0 S H locs ls cells slots bc bs hcc hss hw hE Ta0 Tb0 hl hm
  rw [pb_X11_law_80] at hm
  refine lv_astore (lv' := [(4, .ref b0), (0, .ref a0)]) hx hb dX11_law_80 hl (by decide) rfl (fun ls hl => ?_)
  refine lv_aload hx hb dX11_law_82 (lv_at hl 0 rfl) ?_
  refine lv_aload_n hx hb dX11_law_84 rfl (lv_at hl 1 rfl) ?_
  obtain ⟨q38, hq38, hm⟩ := hm
  have Tq38 : TY S q38 2 := hw.wf.ref (k := 11) (j := 6) Ta0 (by decide) (by decide) hq38
  refine pg_rb (k := 11) (j := 6) (f := 1106) hx hb hown hU iu11 hw Ta0 (by decide) rfl (hU _ tw369) rfl hq38 dX11_law_85 ?_
  obtain ⟨S_39, hq40, hm⟩ := hm
  refine pw_cv (va_runVN (As := [.ref q38]) (rest := []) ⟨hx, hb, hml, hown, hU⟩ (c_X2_copyFrom l C X n S hw.wf _ b0 q38 (Tb0) (Tq38) S_39 hq40) ⟨va_cnB (host := "WickNights") 1 hU (pq_g1 tc_X2_copyFrom) rfl rfl rfl (hw.nw 120 rfl) (hU _ tw7) cd_X2_copyFrom.2 ⟨Nat.le_of_ble_eq_true rfl, Nat.le_of_ble_eq_true rfl⟩, hU _ tw790, hU _ ts43⟩ (pw_preV hw Tb0 (by decide) rfl) rfl rfl hl.1 rfl (lv_room (Nat.le_of_ble_eq_true rfl)) dX11_law_88 ⟨by show _ ≤ mc; omega, by show _ ≤ ms; omega⟩) hw (fun H locs hw hx41 => ?_)
  have Tb0 : TY S_39 b0 2 := ty_ext hx41 Tb0
  have Ta0 : TY S_39 a0 11 := ty_ext hx41 Ta0
  have hE : Ext S0 S_39 := Ext.tr hE hx41
  refine lv_iconst (v := 1) hx hb dX11_law_91 (by decide) ?_
  refine vx_ret ?_
  exact pw_wiret hx hb hr rfl hlk hw hE hm (by omega) (by omega) dX11_law_92
def pb_X11_law_26 (n : Nat) (a0 : Nat) (x1 : Int32) (x2 : Int32) (b0 : Nat) (z1 : Int32) (S : pq_S) (bc bs : Nat) (E : (Nat → pq_S → Prop)) (Q : (Int32 → pq_S → Prop)) : Prop := ∃ c14 s15 : Nat, c14 ≤ bc ∧ s15 ≤ bs ∧ wp_X11_need n b0 z1 S c14 s15 E (fun S_13 => ∃ q19 : Nat, (pR S_13 1100 a0) = some q19 ∧ (∃ S_20 : pq_S, m_X10_begin n q19 x2 S_13 = some S_20 ∧ (∃ q23 : Nat, (pR S_20 1106 a0) = some q23 ∧ (∃ q24 : Nat, (pR S_20 1100 a0) = some q24 ∧ (∃ S_25 : pq_S, m_X2_read n q23 q24 S_20 = some S_25 ∧ (∃ r30 S_28, m_X11_endText n a0 S_25 = some (r30, S_28) ∧ (if r30 = 0 then if x1 = 0 then ∃ q36 : Nat, (pR S_28 1101 a0) = some q36 ∧ (∃ q37 : Nat, (pR S_28 702 q36) = some q37 ∧ (pb_X11_law_80 n a0 q37 S_28 (bc - (c14)) (bs - (s15)) E Q)) else ∃ q34 : Nat, (pR S_28 1101 a0) = some q34 ∧ (∃ q35 : Nat, (pR S_28 703 q34) = some q35 ∧ (pb_X11_law_80 n a0 q35 S_28 (bc - (c14)) (bs - (s15)) E Q)) else Q r30 S_28)))))))
set_option maxHeartbeats 4000000 in
set_option maxRecDepth 100000 in
theorem wpb_X11_law_26 {p : Program} {l : Launch} {e : Env} {s : State} {m : MethodId} {args : Array Value} {below : List Frame} {meth : Method} {c : Code} (cx : Cx p s m args meth c cX11_law 5 RX11 (some .int)) (hno : ∀ x ∈ c.exceptionTable.toList, False) (C : pq_C) (X : va_W) (S0 : pq_S) (n : Nat) (hst : l.stackTraces = false) (E : (Nat → pq_S → Prop)) (Q : (Int32 → pq_S → Prop)) (mc ms : Nat) : ∀ (a0 : Nat) (x1 : Int32) (x2 : Int32) (b0 : Nat) (z1 : Int32) (S : pq_S) (H : Heap) (locs : List Loc) (ls : Array Slot) (cells slots bc bs : Nat), cells + bc ≤ mc → slots + bs ≤ ms → PW C X S (pq_F C X S0 s.heap.size) H locs s → Ext S0 S → TY S a0 11 → TY S b0 11 → lv_has ls 5 [(0, .ref a0), (1, .int x1), (2, .int x2)] → pb_X11_law_26 n a0 x1 x2 b0 z1 S bc bs E Q → W p l e (rw_X11_law mc ms) s m args below meth c H locs cells slots (vx_MQ below (QwI C X S0 s.heap.size Q) (XcP C X S0 s.heap.size E) args s mc ms (pq_F C X S0 s.heap.size)) (F0 m 26 ls [.int z1, .ref b0]) := by
  obtain ⟨hx, hb, hml, hown, hU, hr, hlk⟩ := id cx
  intro a0 x1 x2 b0 z1 S H locs ls cells slots bc bs hcc hss hw hE Ta0 Tb0 hl hm
  rw [pb_X11_law_26] at hm
  obtain ⟨c14, s15, hb16, hb17, hm⟩ := hm
  refine px_v (vx_runV (As := [.int z1]) (rest := []) ⟨hx, hb, hml, hown, hU⟩ (cw_X11_need l C X n S hw.wf _ b0 z1 (Tb0) c14 s15 hst E _ hm) (cwV 1 hU (pq_gV tw490 tw492 ts7 tw1 tc_X11_need) rfl rfl rfl cd_X11_need ⟨Nat.le_of_ble_eq_true rfl, Nat.le_of_ble_eq_true rfl⟩) (pw_preV hw Tb0 (by decide) rfl) rfl rfl hl.1 rfl (lv_room (Nat.le_of_ble_eq_true rfl)) dX11_law_26 ⟨by show _ ≤ mc; omega, by show _ ≤ ms; omega⟩) hw hE hno hlk (by omega) (by omega) (fun S_13 H locs hm hw hx18 => ?_)
  have Ta0 : TY S_13 a0 11 := ty_ext hx18 Ta0
  have hE : Ext S0 S_13 := Ext.tr hE hx18
  refine W.widen (k := cells + (c14)) (n := slots + (s15)) (by omega) (by omega) ?_
  have hcc : cells + (c14) + (bc - (c14)) ≤ mc := by omega
  have hss : slots + (s15) + (bs - (s15)) ≤ ms := by omega
  refine lv_aload_n hx hb dX11_law_29 rfl (lv_at hl 0 rfl) ?_
  obtain ⟨q19, hq19, hm⟩ := hm
  have Tq19 : TY S_13 q19 10 := hw.wf.ref (k := 11) (j := 0) Ta0 (by decide) (by decide) hq19
  refine pg_rb (k := 11) (j := 0) (f := 1100) hx hb hown hU iu11 hw Ta0 (by decide) rfl (hU _ tw363) rfl hq19 dX11_law_30 ?_
  refine lv_iload_n hx hb dX11_law_33 rfl (lv_at hl 2 rfl) ?_
  obtain ⟨S_20, hq21, hm⟩ := hm
  refine pw_cv (va_runVN (As := [.int x2]) (rest := []) ⟨hx, hb, hml, hown, hU⟩ (c_X10_begin l C X n S_13 hw.wf _ q19 x2 (Tq19) S_20 hq21) ⟨va_cnB (host := "WickNights") 1 hU (pq_g1 tc_X10_begin) rfl rfl rfl (hw.nw 90 rfl) (hU _ tw2) cd_X10_begin.2 ⟨Nat.le_of_ble_eq_true rfl, Nat.le_of_ble_eq_true rfl⟩, hU _ tw558, hU _ ts9⟩ (pw_preV hw Tq19 (by decide) rfl) rfl rfl hl.1 rfl (lv_room (Nat.le_of_ble_eq_true rfl)) dX11_law_34 ⟨by show _ ≤ mc; omega, by show _ ≤ ms; omega⟩) hw (fun H locs hw hx22 => ?_)
  have Ta0 : TY S_20 a0 11 := ty_ext hx22 Ta0
  have hE : Ext S0 S_20 := Ext.tr hE hx22
  refine lv_aload_n hx hb dX11_law_37 rfl (lv_at hl 0 rfl) ?_
  obtain ⟨q23, hq23, hm⟩ := hm
  have Tq23 : TY S_20 q23 2 := hw.wf.ref (k := 11) (j := 6) Ta0 (by decide) (by decide) hq23
  refine pg_rb (k := 11) (j := 6) (f := 1106) hx hb hown hU iu11 hw Ta0 (by decide) rfl (hU _ tw369) rfl hq23 dX11_law_38 ?_
  refine lv_aload_n hx hb dX11_law_41 rfl (lv_at hl 0 rfl) ?_
  obtain ⟨q24, hq24, hm⟩ := hm
  have Tq24 : TY S_20 q24 10 := hw.wf.ref (k := 11) (j := 0) Ta0 (by decide) (by decide) hq24
  refine pg_rb (k := 11) (j := 0) (f := 1100) hx hb hown hU iu11 hw Ta0 (by decide) rfl (hU _ tw363) rfl hq24 dX11_law_42 ?_
  obtain ⟨S_25, hq26, hm⟩ := hm
  refine pw_cv (va_runVN (As := [.ref q24]) (rest := []) ⟨hx, hb, hml, hown, hU⟩ (c_X2_read l C X n S_20 hw.wf _ q23 q24 (Tq23) (Tq24) S_25 hq26) ⟨va_cnB (host := "WickNights") 1 hU (pq_g1 tc_X2_read) rfl rfl rfl (hw.nw 112 rfl) (hU _ tw7) cd_X2_read.2 ⟨Nat.le_of_ble_eq_true rfl, Nat.le_of_ble_eq_true rfl⟩, hU _ tw739, hU _ ts35⟩ (pw_preV hw Tq23 (by decide) rfl) rfl rfl hl.1 rfl (lv_room (Nat.le_of_ble_eq_true rfl)) dX11_law_45 ⟨by show _ ≤ mc; omega, by show _ ≤ ms; omega⟩) hw (fun H locs hw hx27 => ?_)
  have Ta0 : TY S_25 a0 11 := ty_ext hx27 Ta0
  have hE : Ext S0 S_25 := Ext.tr hE hx27
  refine lv_aload_n hx hb dX11_law_48 rfl (lv_at hl 0 rfl) ?_
  obtain ⟨r30, S_28, hq29, hm⟩ := hm
  refine pw_ci (va_runV (As := []) (rest := []) ⟨hx, hb, hml, hown, hU⟩ (c_X11_endText l C X n S_25 hw.wf _ a0 (Ta0) r30 S_28 hq29) (cwV 0 hU (pq_gV tw699 tw701 ts28 tw1 tc_X11_endText) rfl rfl rfl cd_X11_endText ⟨Nat.le_of_ble_eq_true rfl, Nat.le_of_ble_eq_true rfl⟩) (pw_preV hw Ta0 (by decide) rfl) rfl rfl hl.1 rfl (lv_room (Nat.le_of_ble_eq_true rfl)) dX11_law_49 ⟨by show _ ≤ mc; omega, by show _ ≤ ms; omega⟩) hw (fun H locs hw hx31 => ?_)
  have Ta0 : TY S_28 a0 11 := ty_ext hx31 Ta0
  have hE : Ext S0 S_28 := Ext.tr hE hx31
  refine lv_istore_n (lv' := [(3, .int r30), (0, .ref a0), (1, .int x1), (2, .int x2)]) hx hb dX11_law_52 rfl hl (by decide) rfl (fun ls hl => ?_)
  refine lv_iload_n hx hb dX11_law_53 rfl (lv_at hl 0 rfl) ?_
  refine lv_if_eq (tgt := 59) hx hb dX11_law_54 (by decide) (fun h32 => ?_) (fun h32 => ?_)
  · rw [if_pos h32] at hm
    refine lv_iload_n hx hb dX11_law_59 rfl (lv_at hl 2 rfl) ?_
    refine lv_if_ne (tgt := 73) hx hb dX11_law_60 (by decide) (fun h33 => ?_) (fun h33 => ?_)
    · rw [if_neg h33] at hm
      refine lv_aload_n hx hb dX11_law_73 rfl (lv_at hl 1 rfl) ?_
      obtain ⟨q34, hq34, hm⟩ := hm
      have Tq34 : TY S_28 q34 7 := hw.wf.ref (k := 11) (j := 1) Ta0 (by decide) (by decide) hq34
      refine pg_rb (k := 11) (j := 1) (f := 1101) hx hb hown hU iu11 hw Ta0 (by decide) rfl (hU _ tw364) rfl hq34 dX11_law_74 ?_
      obtain ⟨q35, hq35, hm⟩ := hm
      have Tq35 : TY S_28 q35 2 := hw.wf.ref (k := 7) (j := 3) Tq34 (by decide) (by decide) hq35
      refine pgN_rb (k := 7) (j := 3) (f := 703) hx hb hown hU iu7 hw Tq34 (by decide) rfl 61 rfl rfl hq35 dX11_law_77 ?_
      exact wpb_X11_law_80 cx hno C X S0 n hst E Q mc ms a0 q35 S_28 _ _ _ (cells + (c14)) (slots + (s15)) (bc - (c14)) (bs - (s15)) hcc hss hw hE Ta0 Tq35 (lv_sub hl [1] rfl) hm
    · rw [if_pos h33] at hm
      refine lv_aload_n hx hb dX11_law_63 rfl (lv_at hl 1 rfl) ?_
      obtain ⟨q36, hq36, hm⟩ := hm
      have Tq36 : TY S_28 q36 7 := hw.wf.ref (k := 11) (j := 1) Ta0 (by decide) (by decide) hq36
      refine pg_rb (k := 11) (j := 1) (f := 1101) hx hb hown hU iu11 hw Ta0 (by decide) rfl (hU _ tw364) rfl hq36 dX11_law_64 ?_
      obtain ⟨q37, hq37, hm⟩ := hm
      have Tq37 : TY S_28 q37 2 := hw.wf.ref (k := 7) (j := 2) Tq36 (by decide) (by decide) hq37
      refine pgN_rb (k := 7) (j := 2) (f := 702) hx hb hown hU iu7 hw Tq36 (by decide) rfl 60 rfl rfl hq37 dX11_law_67 ?_
      refine lv_goto (tgt := 80) hx hb dX11_law_70 (by decide) ?_
      exact wpb_X11_law_80 cx hno C X S0 n hst E Q mc ms a0 q37 S_28 _ _ _ (cells + (c14)) (slots + (s15)) (bc - (c14)) (bs - (s15)) hcc hss hw hE Ta0 Tq37 (lv_sub hl [1] rfl) hm
  · rw [if_neg h32] at hm
    refine lv_iload_n hx hb dX11_law_57 rfl (lv_at hl 0 rfl) ?_
    refine vx_ret ?_
    exact pw_wiret hx hb hr rfl hlk hw hE hm (by omega) (by omega) dX11_law_58
def pb_X11_law_25 (n : Nat) (a0 : Nat) (x1 : Int32) (x2 : Int32) (b0 : Nat) (S : pq_S) (bc bs : Nat) (E : (Nat → pq_S → Prop)) (Q : (Int32 → pq_S → Prop)) : Prop := pb_X11_law_26 n a0 x1 x2 b0 0 S bc bs E Q
set_option maxHeartbeats 4000000 in
set_option maxRecDepth 100000 in
theorem wpb_X11_law_25 {p : Program} {l : Launch} {e : Env} {s : State} {m : MethodId} {args : Array Value} {below : List Frame} {meth : Method} {c : Code} (cx : Cx p s m args meth c cX11_law 5 RX11 (some .int)) (hno : ∀ x ∈ c.exceptionTable.toList, False) (C : pq_C) (X : va_W) (S0 : pq_S) (n : Nat) (hst : l.stackTraces = false) (E : (Nat → pq_S → Prop)) (Q : (Int32 → pq_S → Prop)) (mc ms : Nat) : ∀ (a0 : Nat) (x1 : Int32) (x2 : Int32) (b0 : Nat) (S : pq_S) (H : Heap) (locs : List Loc) (ls : Array Slot) (cells slots bc bs : Nat), cells + bc ≤ mc → slots + bs ≤ ms → PW C X S (pq_F C X S0 s.heap.size) H locs s → Ext S0 S → TY S a0 11 → TY S b0 11 → lv_has ls 5 [(0, .ref a0), (1, .int x1), (2, .int x2)] → pb_X11_law_25 n a0 x1 x2 b0 S bc bs E Q → W p l e (rw_X11_law mc ms) s m args below meth c H locs cells slots (vx_MQ below (QwI C X S0 s.heap.size Q) (XcP C X S0 s.heap.size E) args s mc ms (pq_F C X S0 s.heap.size)) (F0 m 25 ls [.ref b0]) := by
  obtain ⟨hx, hb, hml, hown, hU, hr, hlk⟩ := id cx
  intro a0 x1 x2 b0 S H locs ls cells slots bc bs hcc hss hw hE Ta0 Tb0 hl hm
  rw [pb_X11_law_25] at hm
  refine lv_iconst (v := 0) hx hb dX11_law_25 (by decide) ?_
  exact wpb_X11_law_26 cx hno C X S0 n hst E Q mc ms a0 x1 x2 b0 0 S _ _ _ (cells) (slots) bc bs hcc hss hw hE Ta0 Tb0 (lv_sub hl [0, 1, 2] rfl) hm
def wp_X11_law (n : Nat) (a0 : Nat) (x1 : Int32) (x2 : Int32) (S0 : pq_S) (mc ms : Nat) (E : (Nat → pq_S → Prop)) (Q : (Int32 → pq_S → Prop)) : Prop := ∃ r3 S_1, m_X11_isWithin n x1 0 1 S0 = some (r3, S_1) ∧ (if r3 = 0 then pb_X11_law_25 n a0 x1 x2 a0 S_1 mc ms E Q else ∃ r9 S_7, m_X11_isText n a0 x2 150 S_1 = some (r9, S_7) ∧ (if r9 = 0 then pb_X11_law_25 n a0 x1 x2 a0 S_7 mc ms E Q else pb_X11_law_26 n a0 x1 x2 a0 1 S_7 mc ms E Q))
theorem tc_X11_law : Cond.code yX11_law cX11_law 5 (some .int) ∈ pq_U := tw736
theorem cd_X11_law : yX11_law.cls = RX11 ∧ yX11_law.cls ≠ "java/lang/invoke/MethodHandle" ∧ yX11_law.cls ≠ "java/lang/invoke/VarHandle" ∧ (parseMethodDescriptor yX11_law.desc).map (fun d => d.parameters.length) = some 2 := by decide +kernel
set_option maxHeartbeats 4000000 in
set_option maxRecDepth 100000 in
theorem cw_X11_law (l : Launch) (C : pq_C) (X : va_W) (n : Nat) (S0 : pq_S) (hF : WF S0) (sz : Nat) (a0 : Nat) (x1 : Int32) (x2 : Int32) (Ta0 : TY S0 a0 11) (mc ms : Nat) (hst : l.stackTraces = false) (E : (Nat → pq_S → Prop)) (Q : (Int32 → pq_S → Prop)) (hm : wp_X11_law n a0 x1 x2 S0 mc ms E Q) : vx_Met l yX11_law (.code yX11_law cX11_law 5 (some .int) :: pq_U) (rw_X11_law mc ms) (va_Pc [.ref a0, .int x1, .int x2] (CPre C X S0 sz)) (QwI C X S0 sz Q) (XcP C X S0 sz E) mc ms (pq_F C X S0 sz) := by
  refine vx_ofW (cc := cX11_law) (maxL := 5) (ret := (some .int)) (by decide) rfl ?_
  intro p e s m args below meth c s₁ B hml hno hv
  obtain ⟨rfl, hv⟩ := hv
  have hsz := hv.1
  subst hsz
  have hw := pw_entry hF hv
  have hts := atoms_spec (ws := .code yX11_law cX11_law 5 (some .int) :: pq_U) B.pre
  have hU : ∀ w ∈ pq_U, w.before _ s = true := fun w h => hts w (List.mem_cons_of_mem _ h)
  have hx := B.exec
  have hb := B.bytes
  have hr := B.returns
  have hown : s.vm.findClass RX11 = some m.cls := findClass_of_methodNamed B.named
  have hlk := B.notSynchronized
  have hl := lv_entry ([.ref a0, .int x1, .int x2]) (n := 5) (Nat.le_of_ble_eq_true rfl)
  rw [lg_entry_eq]
  generalize (lg_sl ([.ref a0, .int x1, .int x2]) ++ List.replicate (5 - (lg_sl ([.ref a0, .int x1, .int x2])).length) Slot.unset).toArray = ls at hl ⊢
  have hl : lv_has ls 5 [(0, .ref a0), (1, .int x1), (2, .int x2)] := hl
  have hE : Ext S0 S0 := Ext.rf _
  have cx : Cx p s m _ meth c cX11_law 5 RX11 (some .int) := ⟨hx, hb, hml, hown, hU, hr, hlk⟩
  have hcc : 0 + mc ≤ mc := by omega
  have hss : 0 + ms ≤ ms := by omega
  rw [wp_X11_law] at hm
  refine lv_aload_n hx hb dX11_law_0 rfl (lv_at hl 0 rfl) ?_
  refine lv_iload_n hx hb dX11_law_1 rfl (lv_at hl 1 rfl) ?_
  refine lv_iconst (v := 0) hx hb dX11_law_2 (by decide) ?_
  refine lv_iconst (v := 1) hx hb dX11_law_3 (by decide) ?_
  obtain ⟨r3, S_1, hq2, hm⟩ := hm
  refine pw_cz (va_runS (As := [.int x1, .int 0, .int 1]) (rest := [.ref a0]) ⟨hx, hb, hml, hown, hU⟩ (c_X11_isWithin l C X n S0 hw.wf _ x1 0 1  r3 S_1 hq2) ⟨callB_of 3 hU (pq_g1 tc_X11_isWithin) rfl rfl rfl (hU _ tw1) (hU _ tw453) cd_X11_isWithin.2 ⟨Nat.le_of_ble_eq_true rfl, Nat.le_of_ble_eq_true rfl⟩, hU _ tw454⟩ (pw_preS hw) rfl rfl hl.1 rfl (lv_room (Nat.le_of_ble_eq_true rfl)) dX11_law_4 ⟨by show _ ≤ mc; omega, by show _ ≤ ms; omega⟩) hw (fun H locs hw hx4 hz5 => ?_)
  have Ta0 : TY S_1 a0 11 := ty_ext hx4 Ta0
  have hE : Ext S0 S_1 := Ext.tr hE hx4
  refine lv_if_eq (tgt := 25) hx hb dX11_law_7 (by decide) (fun h6 => ?_) (fun h6 => ?_)
  · rw [if_pos h6] at hm
    exact wpb_X11_law_25 cx hno C X S0 n hst E Q mc ms a0 x1 x2 a0 S_1 _ _ _ (0) (0) mc ms hcc hss hw hE Ta0 Ta0 (lv_sub hl [0, 1, 2] rfl) hm
  · rw [if_neg h6] at hm
    refine lv_aload_n hx hb dX11_law_10 rfl (lv_at hl 0 rfl) ?_
    refine lv_iload_n hx hb dX11_law_11 rfl (lv_at hl 2 rfl) ?_
    refine lv_sipush (v := 150) hx hb dX11_law_12 (by decide) ?_
    obtain ⟨r9, S_7, hq8, hm⟩ := hm
    refine pw_cz (va_runV (As := [.int x2, .int 150]) (rest := [.ref a0]) ⟨hx, hb, hml, hown, hU⟩ (c_X11_isText l C X n S_1 hw.wf _ a0 x2 150 (Ta0) r9 S_7 hq8) (cwV 2 hU (pq_gV tw486 tw488 ts6 tw1 tc_X11_isText) rfl rfl rfl cd_X11_isText ⟨Nat.le_of_ble_eq_true rfl, Nat.le_of_ble_eq_true rfl⟩) (pw_preV hw Ta0 (by decide) rfl) rfl rfl hl.1 rfl (lv_room (Nat.le_of_ble_eq_true rfl)) dX11_law_15 ⟨by show _ ≤ mc; omega, by show _ ≤ ms; omega⟩) hw (fun H locs hw hx10 hz11 => ?_)
    have Ta0 : TY S_7 a0 11 := ty_ext hx10 Ta0
    have hE : Ext S0 S_7 := Ext.tr hE hx10
    refine lv_if_eq (tgt := 25) hx hb dX11_law_18 (by decide) (fun h12 => ?_) (fun h12 => ?_)
    · rw [if_pos h12] at hm
      exact wpb_X11_law_25 cx hno C X S0 n hst E Q mc ms a0 x1 x2 a0 S_7 _ _ _ (0) (0) mc ms hcc hss hw hE Ta0 Ta0 (lv_sub hl [0, 1, 2] rfl) hm
    · rw [if_neg h12] at hm
      refine lv_iconst (v := 1) hx hb dX11_law_21 (by decide) ?_
      refine lv_goto (tgt := 26) hx hb dX11_law_22 (by decide) ?_
      exact wpb_X11_law_26 cx hno C X S0 n hst E Q mc ms a0 x1 x2 a0 1 S_7 _ _ _ (0) (0) mc ms hcc hss hw hE Ta0 Ta0 (lv_sub hl [0, 1, 2] rfl) hm
abbrev rw_X11_book (mc ms : Nat) : Room := { frames := 7, cells := mc, slots := ms, locals := 110 }
def wp_X11_book (n : Nat) (a0 : Nat) (x1 : Int32) (S0 : pq_S) (mc ms : Nat) (E : (Nat → pq_S → Prop)) (Q : (Int32 → pq_S → Prop)) : Prop := ∃ r3 S_1, m_X11_isText n a0 x1 100 S0 = some (r3, S_1) ∧ (∃ c7 s8 : Nat, c7 ≤ mc ∧ s8 ≤ ms ∧ wp_X11_need n a0 r3 S_1 c7 s8 E (fun S_6 => ∃ q12 : Nat, (pR S_6 1100 a0) = some q12 ∧ (∃ S_13 : pq_S, m_X10_begin n q12 x1 S_6 = some S_13 ∧ (∃ q16 : Nat, (pR S_13 1108 a0) = some q16 ∧ (∃ q17 : Nat, (pR S_13 1100 a0) = some q17 ∧ (∃ q18 : Nat, (pR S_13 1101 a0) = some q18 ∧ (∃ q19 : Nat, (pR S_13 700 q18) = some q19 ∧ (∃ q20 : Nat, (pR S_13 100 q19) = some q20 ∧ (∃ S_21 : pq_S, m_X0_read n q16 q17 (pI S_13 902 q20) S_13 = some S_21 ∧ (∃ r26 S_24, m_X11_endText n a0 S_21 = some (r26, S_24) ∧ (if r26 = 0 then ∃ q29 : Nat, (pR S_24 1107 a0) = some q29 ∧ (∃ q30 : Nat, (pR S_24 1108 a0) = some q30 ∧ (∃ S_31 : pq_S, m_X0_copyFrom n q29 q30 S_24 = some S_31 ∧ (∃ q34 : Nat, (pR S_31 1107 a0) = some q34 ∧ (Q (pI S_31 1 q34) S_31)))) else Q r26 S_24)))))))))))
theorem tc_X11_book : Cond.code yX11_book cX11_book 3 (some .int) ∈ pq_U := tw956
theorem cd_X11_book : yX11_book.cls = RX11 ∧ yX11_book.cls ≠ "java/lang/invoke/MethodHandle" ∧ yX11_book.cls ≠ "java/lang/invoke/VarHandle" ∧ (parseMethodDescriptor yX11_book.desc).map (fun d => d.parameters.length) = some 1 := by decide +kernel
set_option maxHeartbeats 4000000 in
set_option maxRecDepth 100000 in
theorem cw_X11_book (l : Launch) (C : pq_C) (X : va_W) (n : Nat) (S0 : pq_S) (hF : WF S0) (sz : Nat) (a0 : Nat) (x1 : Int32) (Ta0 : TY S0 a0 11) (mc ms : Nat) (hst : l.stackTraces = false) (E : (Nat → pq_S → Prop)) (Q : (Int32 → pq_S → Prop)) (hm : wp_X11_book n a0 x1 S0 mc ms E Q) : vx_Met l yX11_book (.code yX11_book cX11_book 3 (some .int) :: pq_U) (rw_X11_book mc ms) (va_Pc [.ref a0, .int x1] (CPre C X S0 sz)) (QwI C X S0 sz Q) (XcP C X S0 sz E) mc ms (pq_F C X S0 sz) := by
  refine vx_ofW (cc := cX11_book) (maxL := 3) (ret := (some .int)) (by decide) rfl ?_
  intro p e s m args below meth c s₁ B hml hno hv
  obtain ⟨rfl, hv⟩ := hv
  have hsz := hv.1
  subst hsz
  have hw := pw_entry hF hv
  have hts := atoms_spec (ws := .code yX11_book cX11_book 3 (some .int) :: pq_U) B.pre
  have hU : ∀ w ∈ pq_U, w.before _ s = true := fun w h => hts w (List.mem_cons_of_mem _ h)
  have hx := B.exec
  have hb := B.bytes
  have hr := B.returns
  have hown : s.vm.findClass RX11 = some m.cls := findClass_of_methodNamed B.named
  have hlk := B.notSynchronized
  have hl := lv_entry ([.ref a0, .int x1]) (n := 3) (Nat.le_of_ble_eq_true rfl)
  rw [lg_entry_eq]
  generalize (lg_sl ([.ref a0, .int x1]) ++ List.replicate (3 - (lg_sl ([.ref a0, .int x1])).length) Slot.unset).toArray = ls at hl ⊢
  have hl : lv_has ls 3 [(0, .ref a0), (1, .int x1)] := hl
  have hE : Ext S0 S0 := Ext.rf _
  have cx : Cx p s m _ meth c cX11_book 3 RX11 (some .int) := ⟨hx, hb, hml, hown, hU, hr, hlk⟩
  have hcc : 0 + mc ≤ mc := by omega
  have hss : 0 + ms ≤ ms := by omega
  rw [wp_X11_book] at hm
  refine lv_aload_n hx hb dX11_book_0 rfl (lv_at hl 0 rfl) ?_
  refine lv_aload_n hx hb dX11_book_1 rfl (lv_at hl 0 rfl) ?_
  refine lv_iload_n hx hb dX11_book_2 rfl (lv_at hl 1 rfl) ?_
  refine lv_bipush (v := 100) hx hb dX11_book_3 (by decide) ?_
  obtain ⟨r3, S_1, hq2, hm⟩ := hm
  refine pw_cz (va_runV (As := [.int x1, .int 100]) (rest := [.ref a0]) ⟨hx, hb, hml, hown, hU⟩ (c_X11_isText l C X n S0 hw.wf _ a0 x1 100 (Ta0) r3 S_1 hq2) (cwV 2 hU (pq_gV tw486 tw488 ts6 tw1 tc_X11_isText) rfl rfl rfl cd_X11_isText ⟨Nat.le_of_ble_eq_true rfl, Nat.le_of_ble_eq_true rfl⟩) (pw_preV hw Ta0 (by decide) rfl) rfl rfl hl.1 rfl (lv_room (Nat.le_of_ble_eq_true rfl)) dX11_book_5 ⟨by show _ ≤ mc; omega, by show _ ≤ ms; omega⟩) hw (fun H locs hw hx4 hz5 => ?_)
  have Ta0 : TY S_1 a0 11 := ty_ext hx4 Ta0
  have hE : Ext S0 S_1 := Ext.tr hE hx4
  obtain ⟨c7, s8, hb9, hb10, hm⟩ := hm
  refine px_v (vx_runV (As := [.int r3]) (rest := []) ⟨hx, hb, hml, hown, hU⟩ (cw_X11_need l C X n S_1 hw.wf _ a0 r3 (Ta0) c7 s8 hst E _ hm) (cwV 1 hU (pq_gV tw490 tw492 ts7 tw1 tc_X11_need) rfl rfl rfl cd_X11_need ⟨Nat.le_of_ble_eq_true rfl, Nat.le_of_ble_eq_true rfl⟩) (pw_preV hw Ta0 (by decide) rfl) rfl rfl hl.1 rfl (lv_room (Nat.le_of_ble_eq_true rfl)) dX11_book_8 ⟨by show _ ≤ mc; omega, by show _ ≤ ms; omega⟩) hw hE hno hlk (by omega) (by omega) (fun S_6 H locs hm hw hx11 => ?_)
  have Ta0 : TY S_6 a0 11 := ty_ext hx11 Ta0
  have hE : Ext S0 S_6 := Ext.tr hE hx11
  refine W.widen (k := c7) (n := s8) (by omega) (by omega) ?_
  have hcc : c7 + (mc - (c7)) ≤ mc := by omega
  have hss : s8 + (ms - (s8)) ≤ ms := by omega
  refine lv_aload_n hx hb dX11_book_11 rfl (lv_at hl 0 rfl) ?_
  obtain ⟨q12, hq12, hm⟩ := hm
  have Tq12 : TY S_6 q12 10 := hw.wf.ref (k := 11) (j := 0) Ta0 (by decide) (by decide) hq12
  refine pg_rb (k := 11) (j := 0) (f := 1100) hx hb hown hU iu11 hw Ta0 (by decide) rfl (hU _ tw363) rfl hq12 dX11_book_12 ?_
  refine lv_iload_n hx hb dX11_book_15 rfl (lv_at hl 1 rfl) ?_
  obtain ⟨S_13, hq14, hm⟩ := hm
  refine pw_cv (va_runVN (As := [.int x1]) (rest := []) ⟨hx, hb, hml, hown, hU⟩ (c_X10_begin l C X n S_6 hw.wf _ q12 x1 (Tq12) S_13 hq14) ⟨va_cnB (host := "WickNights") 1 hU (pq_g1 tc_X10_begin) rfl rfl rfl (hw.nw 90 rfl) (hU _ tw2) cd_X10_begin.2 ⟨Nat.le_of_ble_eq_true rfl, Nat.le_of_ble_eq_true rfl⟩, hU _ tw558, hU _ ts9⟩ (pw_preV hw Tq12 (by decide) rfl) rfl rfl hl.1 rfl (lv_room (Nat.le_of_ble_eq_true rfl)) dX11_book_16 ⟨by show _ ≤ mc; omega, by show _ ≤ ms; omega⟩) hw (fun H locs hw hx15 => ?_)
  have Ta0 : TY S_13 a0 11 := ty_ext hx15 Ta0
  have hE : Ext S0 S_13 := Ext.tr hE hx15
  refine lv_aload_n hx hb dX11_book_19 rfl (lv_at hl 0 rfl) ?_
  obtain ⟨q16, hq16, hm⟩ := hm
  have Tq16 : TY S_13 q16 0 := hw.wf.ref (k := 11) (j := 8) Ta0 (by decide) (by decide) hq16
  refine pg_rb (k := 11) (j := 8) (f := 1108) hx hb hown hU iu11 hw Ta0 (by decide) rfl (hU _ tw371) rfl hq16 dX11_book_20 ?_
  refine lv_aload_n hx hb dX11_book_23 rfl (lv_at hl 0 rfl) ?_
  obtain ⟨q17, hq17, hm⟩ := hm
  have Tq17 : TY S_13 q17 10 := hw.wf.ref (k := 11) (j := 0) Ta0 (by decide) (by decide) hq17
  refine pg_rb (k := 11) (j := 0) (f := 1100) hx hb hown hU iu11 hw Ta0 (by decide) rfl (hU _ tw363) rfl hq17 dX11_book_24 ?_
  refine lv_aload_n hx hb dX11_book_27 rfl (lv_at hl 0 rfl) ?_
  obtain ⟨q18, hq18, hm⟩ := hm
  have Tq18 : TY S_13 q18 7 := hw.wf.ref (k := 11) (j := 1) Ta0 (by decide) (by decide) hq18
  refine pg_rb (k := 11) (j := 1) (f := 1101) hx hb hown hU iu11 hw Ta0 (by decide) rfl (hU _ tw364) rfl hq18 dX11_book_28 ?_
  obtain ⟨q19, hq19, hm⟩ := hm
  have Tq19 : TY S_13 q19 1 := hw.wf.ref (k := 7) (j := 0) Tq18 (by decide) (by decide) hq19
  refine pgN_rb (k := 7) (j := 0) (f := 700) hx hb hown hU iu7 hw Tq18 (by decide) rfl 55 rfl rfl hq19 dX11_book_31 ?_
  obtain ⟨q20, hq20, hm⟩ := hm
  have Tq20 : TY S_13 q20 9 := hw.wf.ref (k := 1) (j := 0) Tq19 (by decide) (by decide) hq20
  refine pgN_rb (k := 1) (j := 0) (f := 100) hx hb hown hU iu1 hw Tq19 (by decide) rfl 22 rfl rfl hq20 dX11_book_34 ?_
  refine pgN_i (k := 9) (j := 2) (f := 902) hx hb hown hU iu9 hw Tq20 (by decide) rfl 14 rfl rfl dX11_book_37 ?_
  obtain ⟨S_21, hq22, hm⟩ := hm
  refine pw_cv (va_runVN (As := [.ref q17, .int (pI S_13 902 q20)]) (rest := []) ⟨hx, hb, hml, hown, hU⟩ (c_X0_read l C X n S_13 hw.wf _ q16 q17 (pI S_13 902 q20) (Tq16) (Tq17) S_21 hq22) ⟨va_cnB (host := "WickNights") 2 hU (pq_g1 tc_X0_read) rfl rfl rfl (hw.nw 148 rfl) (hU _ tw11) cd_X0_read.2 ⟨Nat.le_of_ble_eq_true rfl, Nat.le_of_ble_eq_true rfl⟩, hU _ tw959, hU _ ts72⟩ (pw_preV hw Tq16 (by decide) rfl) rfl rfl hl.1 rfl (lv_room (Nat.le_of_ble_eq_true rfl)) dX11_book_40 ⟨by show _ ≤ mc; omega, by show _ ≤ ms; omega⟩) hw (fun H locs hw hx23 => ?_)
  have Ta0 : TY S_21 a0 11 := ty_ext hx23 Ta0
  have hE : Ext S0 S_21 := Ext.tr hE hx23
  refine lv_aload_n hx hb dX11_book_43 rfl (lv_at hl 0 rfl) ?_
  obtain ⟨r26, S_24, hq25, hm⟩ := hm
  refine pw_ci (va_runV (As := []) (rest := []) ⟨hx, hb, hml, hown, hU⟩ (c_X11_endText l C X n S_21 hw.wf _ a0 (Ta0) r26 S_24 hq25) (cwV 0 hU (pq_gV tw699 tw701 ts28 tw1 tc_X11_endText) rfl rfl rfl cd_X11_endText ⟨Nat.le_of_ble_eq_true rfl, Nat.le_of_ble_eq_true rfl⟩) (pw_preV hw Ta0 (by decide) rfl) rfl rfl hl.1 rfl (lv_room (Nat.le_of_ble_eq_true rfl)) dX11_book_44 ⟨by show _ ≤ mc; omega, by show _ ≤ ms; omega⟩) hw (fun H locs hw hx27 => ?_)
  have Ta0 : TY S_24 a0 11 := ty_ext hx27 Ta0
  have hE : Ext S0 S_24 := Ext.tr hE hx27
  refine lv_istore_n (lv' := [(2, .int r26), (0, .ref a0), (1, .int x1)]) hx hb dX11_book_47 rfl hl (by decide) rfl (fun ls hl => ?_)
  refine lv_iload_n hx hb dX11_book_48 rfl (lv_at hl 0 rfl) ?_
  refine lv_if_eq (tgt := 54) hx hb dX11_book_49 (by decide) (fun h28 => ?_) (fun h28 => ?_)
  · rw [if_pos h28] at hm
    refine lv_aload_n hx hb dX11_book_54 rfl (lv_at hl 1 rfl) ?_
    obtain ⟨q29, hq29, hm⟩ := hm
    have Tq29 : TY S_24 q29 0 := hw.wf.ref (k := 11) (j := 7) Ta0 (by decide) (by decide) hq29
    refine pg_rb (k := 11) (j := 7) (f := 1107) hx hb hown hU iu11 hw Ta0 (by decide) rfl (hU _ tw370) rfl hq29 dX11_book_55 ?_
    refine lv_aload_n hx hb dX11_book_58 rfl (lv_at hl 1 rfl) ?_
    obtain ⟨q30, hq30, hm⟩ := hm
    have Tq30 : TY S_24 q30 0 := hw.wf.ref (k := 11) (j := 8) Ta0 (by decide) (by decide) hq30
    refine pg_rb (k := 11) (j := 8) (f := 1108) hx hb hown hU iu11 hw Ta0 (by decide) rfl (hU _ tw371) rfl hq30 dX11_book_59 ?_
    obtain ⟨S_31, hq32, hm⟩ := hm
    refine pw_cv (va_runVN (As := [.ref q30]) (rest := []) ⟨hx, hb, hml, hown, hU⟩ (c_X0_copyFrom l C X n S_24 hw.wf _ q29 q30 (Tq29) (Tq30) S_31 hq32) ⟨va_cnB (host := "WickNights") 1 hU (pq_g1 tc_X0_copyFrom) rfl rfl rfl (hw.nw 154 rfl) (hU _ tw11) cd_X0_copyFrom.2 ⟨Nat.le_of_ble_eq_true rfl, Nat.le_of_ble_eq_true rfl⟩, hU _ tw973, hU _ ts74⟩ (pw_preV hw Tq29 (by decide) rfl) rfl rfl hl.1 rfl (lv_room (Nat.le_of_ble_eq_true rfl)) dX11_book_62 ⟨by show _ ≤ mc; omega, by show _ ≤ ms; omega⟩) hw (fun H locs hw hx33 => ?_)
    have Ta0 : TY S_31 a0 11 := ty_ext hx33 Ta0
    have hE : Ext S0 S_31 := Ext.tr hE hx33
    refine lv_aload_n hx hb dX11_book_65 rfl (lv_at hl 1 rfl) ?_
    obtain ⟨q34, hq34, hm⟩ := hm
    have Tq34 : TY S_31 q34 0 := hw.wf.ref (k := 11) (j := 7) Ta0 (by decide) (by decide) hq34
    refine pg_rb (k := 11) (j := 7) (f := 1107) hx hb hown hU iu11 hw Ta0 (by decide) rfl (hU _ tw370) rfl hq34 dX11_book_66 ?_
    refine pgN_i (k := 0) (j := 1) (f := 1) hx hb hown hU iu0 hw Tq34 (by decide) rfl 80 rfl rfl dX11_book_69 ?_
    refine vx_ret ?_
    exact pw_wiret hx hb hr rfl hlk hw hE hm (by omega) (by omega) dX11_book_72
  · rw [if_neg h28] at hm
    refine lv_iload_n hx hb dX11_book_52 rfl (lv_at hl 0 rfl) ?_
    refine vx_ret ?_
    exact pw_wiret hx hb hr rfl hlk hw hE hm (by omega) (by omega) dX11_book_53
abbrev rw_X11_told (mc ms : Nat) : Room := { frames := 7, cells := mc, slots := ms, locals := 110 }
def wp_X11_told (n : Nat) (a0 : Nat) (x1 : Int32) (S0 : pq_S) (mc ms : Nat) (E : (Nat → pq_S → Prop)) (Q : (Int32 → pq_S → Prop)) : Prop := if x1 = 0 then ∃ q2 : Nat, (pR S0 1101 a0) = some q2 ∧ (∃ q3 : Nat, (pR S0 700 q2) = some q3 ∧ (∃ q4 : Nat, (pR S0 100 q3) = some q4 ∧ (Q (pI S0 902 q4) S0))) else if x1 = 1 then ∃ q6 : Nat, (pR S0 1101 a0) = some q6 ∧ (∃ q7 : Nat, (pR S0 700 q6) = some q7 ∧ (∃ q8 : Nat, (pR S0 101 q7) = some q8 ∧ (Q (pI S0 902 q8) S0))) else if x1 = 2 then ∃ q10 : Nat, (pR S0 1101 a0) = some q10 ∧ (∃ q11 : Nat, (pR S0 700 q10) = some q11 ∧ (∃ q12 : Nat, (pR S0 102 q11) = some q12 ∧ (Q (pI S0 902 q12) S0))) else if x1 = 3 then ∃ q14 : Nat, (pR S0 1101 a0) = some q14 ∧ (∃ q15 : Nat, (pR S0 700 q14) = some q15 ∧ (∃ q16 : Nat, (pR S0 103 q15) = some q16 ∧ (Q (pI S0 902 q16) S0))) else if x1 = 4 then ∃ q18 : Nat, (pR S0 1101 a0) = some q18 ∧ (∃ q19 : Nat, (pR S0 701 q18) = some q19 ∧ (Q (pI S0 803 q19) S0)) else if x1 = 5 then ∃ q21 : Nat, (pR S0 1101 a0) = some q21 ∧ (∃ q22 : Nat, (pR S0 701 q21) = some q22 ∧ (Q (pI S0 804 q22) S0)) else if x1 = 6 then ∃ q24 : Nat, (pR S0 1101 a0) = some q24 ∧ (∃ q25 : Nat, (pR S0 701 q24) = some q25 ∧ (∃ q26 : Nat, (pR S0 800 q25) = some q26 ∧ (∃ r29 S_27, m_X9_sum n q26 0 S0 = some (r29, S_27) ∧ (Q r29 S_27)))) else if x1 = 7 then ∃ q32 : Nat, (pR S0 1101 a0) = some q32 ∧ (∃ q33 : Nat, (pR S0 701 q32) = some q33 ∧ (∃ q34 : Nat, (pR S0 800 q33) = some q34 ∧ (∃ r37 S_35, m_X9_sum n q34 1 S0 = some (r37, S_35) ∧ (Q r37 S_35)))) else if x1 = 8 then ∃ q40 : Nat, (pR S0 1107 a0) = some q40 ∧ (Q (pI S0 1 q40) S0) else if x1 = 9 then Q (pI S0 1114 a0) S0 else ∃ c43 s44 : Nat, c43 ≤ mc ∧ s44 ≤ ms ∧ wp_X11_need n a0 0 S0 c43 s44 E (fun S_42 => Q (-1) S_42)
theorem tc_X11_told : Cond.code yX11_told cX11_told 2 (some .int) ∈ pq_U := tw983
theorem cd_X11_told : yX11_told.cls = RX11 ∧ yX11_told.cls ≠ "java/lang/invoke/MethodHandle" ∧ yX11_told.cls ≠ "java/lang/invoke/VarHandle" ∧ (parseMethodDescriptor yX11_told.desc).map (fun d => d.parameters.length) = some 1 := by decide +kernel
set_option maxHeartbeats 4000000 in
set_option maxRecDepth 100000 in
theorem cw_X11_told (l : Launch) (C : pq_C) (X : va_W) (n : Nat) (S0 : pq_S) (hF : WF S0) (sz : Nat) (a0 : Nat) (x1 : Int32) (Ta0 : TY S0 a0 11) (mc ms : Nat) (hst : l.stackTraces = false) (E : (Nat → pq_S → Prop)) (Q : (Int32 → pq_S → Prop)) (hm : wp_X11_told n a0 x1 S0 mc ms E Q) : vx_Met l yX11_told (.code yX11_told cX11_told 2 (some .int) :: pq_U) (rw_X11_told mc ms) (va_Pc [.ref a0, .int x1] (CPre C X S0 sz)) (QwI C X S0 sz Q) (XcP C X S0 sz E) mc ms (pq_F C X S0 sz) := by
  refine vx_ofW (cc := cX11_told) (maxL := 2) (ret := (some .int)) (by decide) rfl ?_
  intro p e s m args below meth c s₁ B hml hno hv
  obtain ⟨rfl, hv⟩ := hv
  have hsz := hv.1
  subst hsz
  have hw := pw_entry hF hv
  have hts := atoms_spec (ws := .code yX11_told cX11_told 2 (some .int) :: pq_U) B.pre
  have hU : ∀ w ∈ pq_U, w.before _ s = true := fun w h => hts w (List.mem_cons_of_mem _ h)
  have hx := B.exec
  have hb := B.bytes
  have hr := B.returns
  have hown : s.vm.findClass RX11 = some m.cls := findClass_of_methodNamed B.named
  have hlk := B.notSynchronized
  have hl := lv_entry ([.ref a0, .int x1]) (n := 2) (Nat.le_of_ble_eq_true rfl)
  rw [lg_entry_eq]
  generalize (lg_sl ([.ref a0, .int x1]) ++ List.replicate (2 - (lg_sl ([.ref a0, .int x1])).length) Slot.unset).toArray = ls at hl ⊢
  have hl : lv_has ls 2 [(0, .ref a0), (1, .int x1)] := hl
  have hE : Ext S0 S0 := Ext.rf _
  have cx : Cx p s m _ meth c cX11_told 2 RX11 (some .int) := ⟨hx, hb, hml, hown, hU, hr, hlk⟩
  have hcc : 0 + mc ≤ mc := by omega
  have hss : 0 + ms ≤ ms := by omega
  rw [wp_X11_told] at hm
  refine lv_iload_n hx hb dX11_told_0 rfl (lv_at hl 1 rfl) ?_
  by_cases h1 : x1 = 0
  · rw [if_pos h1] at hm
    refine lv_tsIn (v := 0) h1 ?_
    refine lv_tableIn (tgt := 56) hx hb dX11_told_1 (by decide) (by decide) rfl (by decide) ?_
    refine lv_aload_n hx hb dX11_told_56 rfl (lv_at hl 0 rfl) ?_
    obtain ⟨q2, hq2, hm⟩ := hm
    have Tq2 : TY S0 q2 7 := hw.wf.ref (k := 11) (j := 1) Ta0 (by decide) (by decide) hq2
    refine pg_rb (k := 11) (j := 1) (f := 1101) hx hb hown hU iu11 hw Ta0 (by decide) rfl (hU _ tw364) rfl hq2 dX11_told_57 ?_
    obtain ⟨q3, hq3, hm⟩ := hm
    have Tq3 : TY S0 q3 1 := hw.wf.ref (k := 7) (j := 0) Tq2 (by decide) (by decide) hq3
    refine pgN_rb (k := 7) (j := 0) (f := 700) hx hb hown hU iu7 hw Tq2 (by decide) rfl 55 rfl rfl hq3 dX11_told_60 ?_
    obtain ⟨q4, hq4, hm⟩ := hm
    have Tq4 : TY S0 q4 9 := hw.wf.ref (k := 1) (j := 0) Tq3 (by decide) (by decide) hq4
    refine pgN_rb (k := 1) (j := 0) (f := 100) hx hb hown hU iu1 hw Tq3 (by decide) rfl 22 rfl rfl hq4 dX11_told_63 ?_
    refine pgN_i (k := 9) (j := 2) (f := 902) hx hb hown hU iu9 hw Tq4 (by decide) rfl 14 rfl rfl dX11_told_66 ?_
    refine vx_ret ?_
    exact pw_wiret hx hb hr rfl hlk hw hE hm (by omega) (by omega) dX11_told_69
  · rw [if_neg h1] at hm
    by_cases h5 : x1 = 1
    · rw [if_pos h5] at hm
      refine lv_tsIn (v := 1) h5 ?_
      refine lv_tableIn (tgt := 70) hx hb dX11_told_1 (by decide) (by decide) rfl (by decide) ?_
      refine lv_aload_n hx hb dX11_told_70 rfl (lv_at hl 0 rfl) ?_
      obtain ⟨q6, hq6, hm⟩ := hm
      have Tq6 : TY S0 q6 7 := hw.wf.ref (k := 11) (j := 1) Ta0 (by decide) (by decide) hq6
      refine pg_rb (k := 11) (j := 1) (f := 1101) hx hb hown hU iu11 hw Ta0 (by decide) rfl (hU _ tw364) rfl hq6 dX11_told_71 ?_
      obtain ⟨q7, hq7, hm⟩ := hm
      have Tq7 : TY S0 q7 1 := hw.wf.ref (k := 7) (j := 0) Tq6 (by decide) (by decide) hq7
      refine pgN_rb (k := 7) (j := 0) (f := 700) hx hb hown hU iu7 hw Tq6 (by decide) rfl 55 rfl rfl hq7 dX11_told_74 ?_
      obtain ⟨q8, hq8, hm⟩ := hm
      have Tq8 : TY S0 q8 9 := hw.wf.ref (k := 1) (j := 1) Tq7 (by decide) (by decide) hq8
      refine pgN_rb (k := 1) (j := 1) (f := 101) hx hb hown hU iu1 hw Tq7 (by decide) rfl 32 rfl rfl hq8 dX11_told_77 ?_
      refine pgN_i (k := 9) (j := 2) (f := 902) hx hb hown hU iu9 hw Tq8 (by decide) rfl 14 rfl rfl dX11_told_80 ?_
      refine vx_ret ?_
      exact pw_wiret hx hb hr rfl hlk hw hE hm (by omega) (by omega) dX11_told_83
    · rw [if_neg h5] at hm
      by_cases h9 : x1 = 2
      · rw [if_pos h9] at hm
        refine lv_tsIn (v := 2) h9 ?_
        refine lv_tableIn (tgt := 84) hx hb dX11_told_1 (by decide) (by decide) rfl (by decide) ?_
        refine lv_aload_n hx hb dX11_told_84 rfl (lv_at hl 0 rfl) ?_
        obtain ⟨q10, hq10, hm⟩ := hm
        have Tq10 : TY S0 q10 7 := hw.wf.ref (k := 11) (j := 1) Ta0 (by decide) (by decide) hq10
        refine pg_rb (k := 11) (j := 1) (f := 1101) hx hb hown hU iu11 hw Ta0 (by decide) rfl (hU _ tw364) rfl hq10 dX11_told_85 ?_
        obtain ⟨q11, hq11, hm⟩ := hm
        have Tq11 : TY S0 q11 1 := hw.wf.ref (k := 7) (j := 0) Tq10 (by decide) (by decide) hq11
        refine pgN_rb (k := 7) (j := 0) (f := 700) hx hb hown hU iu7 hw Tq10 (by decide) rfl 55 rfl rfl hq11 dX11_told_88 ?_
        obtain ⟨q12, hq12, hm⟩ := hm
        have Tq12 : TY S0 q12 9 := hw.wf.ref (k := 1) (j := 2) Tq11 (by decide) (by decide) hq12
        refine pgN_rb (k := 1) (j := 2) (f := 102) hx hb hown hU iu1 hw Tq11 (by decide) rfl 36 rfl rfl hq12 dX11_told_91 ?_
        refine pgN_i (k := 9) (j := 2) (f := 902) hx hb hown hU iu9 hw Tq12 (by decide) rfl 14 rfl rfl dX11_told_94 ?_
        refine vx_ret ?_
        exact pw_wiret hx hb hr rfl hlk hw hE hm (by omega) (by omega) dX11_told_97
      · rw [if_neg h9] at hm
        by_cases h13 : x1 = 3
        · rw [if_pos h13] at hm
          refine lv_tsIn (v := 3) h13 ?_
          refine lv_tableIn (tgt := 98) hx hb dX11_told_1 (by decide) (by decide) rfl (by decide) ?_
          refine lv_aload_n hx hb dX11_told_98 rfl (lv_at hl 0 rfl) ?_
          obtain ⟨q14, hq14, hm⟩ := hm
          have Tq14 : TY S0 q14 7 := hw.wf.ref (k := 11) (j := 1) Ta0 (by decide) (by decide) hq14
          refine pg_rb (k := 11) (j := 1) (f := 1101) hx hb hown hU iu11 hw Ta0 (by decide) rfl (hU _ tw364) rfl hq14 dX11_told_99 ?_
          obtain ⟨q15, hq15, hm⟩ := hm
          have Tq15 : TY S0 q15 1 := hw.wf.ref (k := 7) (j := 0) Tq14 (by decide) (by decide) hq15
          refine pgN_rb (k := 7) (j := 0) (f := 700) hx hb hown hU iu7 hw Tq14 (by decide) rfl 55 rfl rfl hq15 dX11_told_102 ?_
          obtain ⟨q16, hq16, hm⟩ := hm
          have Tq16 : TY S0 q16 9 := hw.wf.ref (k := 1) (j := 3) Tq15 (by decide) (by decide) hq16
          refine pgN_rb (k := 1) (j := 3) (f := 103) hx hb hown hU iu1 hw Tq15 (by decide) rfl 37 rfl rfl hq16 dX11_told_105 ?_
          refine pgN_i (k := 9) (j := 2) (f := 902) hx hb hown hU iu9 hw Tq16 (by decide) rfl 14 rfl rfl dX11_told_108 ?_
          refine vx_ret ?_
          exact pw_wiret hx hb hr rfl hlk hw hE hm (by omega) (by omega) dX11_told_111
        · rw [if_neg h13] at hm
          by_cases h17 : x1 = 4
          · rw [if_pos h17] at hm
            refine lv_tsIn (v := 4) h17 ?_
            refine lv_tableIn (tgt := 112) hx hb dX11_told_1 (by decide) (by decide) rfl (by decide) ?_
            refine lv_aload_n hx hb dX11_told_112 rfl (lv_at hl 0 rfl) ?_
            obtain ⟨q18, hq18, hm⟩ := hm
            have Tq18 : TY S0 q18 7 := hw.wf.ref (k := 11) (j := 1) Ta0 (by decide) (by decide) hq18
            refine pg_rb (k := 11) (j := 1) (f := 1101) hx hb hown hU iu11 hw Ta0 (by decide) rfl (hU _ tw364) rfl hq18 dX11_told_113 ?_
            obtain ⟨q19, hq19, hm⟩ := hm
            have Tq19 : TY S0 q19 8 := hw.wf.ref (k := 7) (j := 1) Tq18 (by decide) (by decide) hq19
            refine pgN_rb (k := 7) (j := 1) (f := 701) hx hb hown hU iu7 hw Tq18 (by decide) rfl 59 rfl rfl hq19 dX11_told_116 ?_
            refine pgN_i (k := 8) (j := 3) (f := 803) hx hb hown hU iu8 hw Tq19 (by decide) rfl 50 rfl rfl dX11_told_119 ?_
            refine vx_ret ?_
            exact pw_wiret hx hb hr rfl hlk hw hE hm (by omega) (by omega) dX11_told_122
          · rw [if_neg h17] at hm
            by_cases h20 : x1 = 5
            · rw [if_pos h20] at hm
              refine lv_tsIn (v := 5) h20 ?_
              refine lv_tableIn (tgt := 123) hx hb dX11_told_1 (by decide) (by decide) rfl (by decide) ?_
              refine lv_aload_n hx hb dX11_told_123 rfl (lv_at hl 0 rfl) ?_
              obtain ⟨q21, hq21, hm⟩ := hm
              have Tq21 : TY S0 q21 7 := hw.wf.ref (k := 11) (j := 1) Ta0 (by decide) (by decide) hq21
              refine pg_rb (k := 11) (j := 1) (f := 1101) hx hb hown hU iu11 hw Ta0 (by decide) rfl (hU _ tw364) rfl hq21 dX11_told_124 ?_
              obtain ⟨q22, hq22, hm⟩ := hm
              have Tq22 : TY S0 q22 8 := hw.wf.ref (k := 7) (j := 1) Tq21 (by decide) (by decide) hq22
              refine pgN_rb (k := 7) (j := 1) (f := 701) hx hb hown hU iu7 hw Tq21 (by decide) rfl 59 rfl rfl hq22 dX11_told_127 ?_
              refine pgN_i (k := 8) (j := 4) (f := 804) hx hb hown hU iu8 hw Tq22 (by decide) rfl 51 rfl rfl dX11_told_130 ?_
              refine vx_ret ?_
              exact pw_wiret hx hb hr rfl hlk hw hE hm (by omega) (by omega) dX11_told_133
            · rw [if_neg h20] at hm
              by_cases h23 : x1 = 6
              · rw [if_pos h23] at hm
                refine lv_tsIn (v := 6) h23 ?_
                refine lv_tableIn (tgt := 134) hx hb dX11_told_1 (by decide) (by decide) rfl (by decide) ?_
                refine lv_aload_n hx hb dX11_told_134 rfl (lv_at hl 0 rfl) ?_
                obtain ⟨q24, hq24, hm⟩ := hm
                have Tq24 : TY S0 q24 7 := hw.wf.ref (k := 11) (j := 1) Ta0 (by decide) (by decide) hq24
                refine pg_rb (k := 11) (j := 1) (f := 1101) hx hb hown hU iu11 hw Ta0 (by decide) rfl (hU _ tw364) rfl hq24 dX11_told_135 ?_
                obtain ⟨q25, hq25, hm⟩ := hm
                have Tq25 : TY S0 q25 8 := hw.wf.ref (k := 7) (j := 1) Tq24 (by decide) (by decide) hq25
                refine pgN_rb (k := 7) (j := 1) (f := 701) hx hb hown hU iu7 hw Tq24 (by decide) rfl 59 rfl rfl hq25 dX11_told_138 ?_
                obtain ⟨q26, hq26, hm⟩ := hm
                have Tq26 : TY S0 q26 9 := hw.wf.ref (k := 8) (j := 0) Tq25 (by decide) (by decide) hq26
                refine pgN_rb (k := 8) (j := 0) (f := 800) hx hb hown hU iu8 hw Tq25 (by decide) rfl 44 rfl rfl hq26 dX11_told_141 ?_
                refine lv_iconst (v := 0) hx hb dX11_told_144 (by decide) ?_
                obtain ⟨r29, S_27, hq28, hm⟩ := hm
                refine pw_ci (va_runVN (As := [.int 0]) (rest := []) ⟨hx, hb, hml, hown, hU⟩ (c_X9_sum l C X n S0 hw.wf _ q26 0 (Tq26) r29 S_27 hq28) ⟨va_cnB (host := "WickNights") 1 hU (pq_g1 tc_X9_sum) rfl rfl rfl (hw.nw 155 rfl) (hU _ tw5) cd_X9_sum.2 ⟨Nat.le_of_ble_eq_true rfl, Nat.le_of_ble_eq_true rfl⟩, hU _ tw986, hU _ ts75⟩ (pw_preV hw Tq26 (by decide) rfl) rfl rfl hl.1 rfl (lv_room (Nat.le_of_ble_eq_true rfl)) dX11_told_145 ⟨by show _ ≤ mc; omega, by show _ ≤ ms; omega⟩) hw (fun H locs hw hx30 => ?_)
                have Ta0 : TY S_27 a0 11 := ty_ext hx30 Ta0
                have hE : Ext S0 S_27 := Ext.tr hE hx30
                refine vx_ret ?_
                exact pw_wiret hx hb hr rfl hlk hw hE hm (by omega) (by omega) dX11_told_148
              · rw [if_neg h23] at hm
                by_cases h31 : x1 = 7
                · rw [if_pos h31] at hm
                  refine lv_tsIn (v := 7) h31 ?_
                  refine lv_tableIn (tgt := 149) hx hb dX11_told_1 (by decide) (by decide) rfl (by decide) ?_
                  refine lv_aload_n hx hb dX11_told_149 rfl (lv_at hl 0 rfl) ?_
                  obtain ⟨q32, hq32, hm⟩ := hm
                  have Tq32 : TY S0 q32 7 := hw.wf.ref (k := 11) (j := 1) Ta0 (by decide) (by decide) hq32
                  refine pg_rb (k := 11) (j := 1) (f := 1101) hx hb hown hU iu11 hw Ta0 (by decide) rfl (hU _ tw364) rfl hq32 dX11_told_150 ?_
                  obtain ⟨q33, hq33, hm⟩ := hm
                  have Tq33 : TY S0 q33 8 := hw.wf.ref (k := 7) (j := 1) Tq32 (by decide) (by decide) hq33
                  refine pgN_rb (k := 7) (j := 1) (f := 701) hx hb hown hU iu7 hw Tq32 (by decide) rfl 59 rfl rfl hq33 dX11_told_153 ?_
                  obtain ⟨q34, hq34, hm⟩ := hm
                  have Tq34 : TY S0 q34 9 := hw.wf.ref (k := 8) (j := 0) Tq33 (by decide) (by decide) hq34
                  refine pgN_rb (k := 8) (j := 0) (f := 800) hx hb hown hU iu8 hw Tq33 (by decide) rfl 44 rfl rfl hq34 dX11_told_156 ?_
                  refine lv_iconst (v := 1) hx hb dX11_told_159 (by decide) ?_
                  obtain ⟨r37, S_35, hq36, hm⟩ := hm
                  refine pw_ci (va_runVN (As := [.int 1]) (rest := []) ⟨hx, hb, hml, hown, hU⟩ (c_X9_sum l C X n S0 hw.wf _ q34 1 (Tq34) r37 S_35 hq36) ⟨va_cnB (host := "WickNights") 1 hU (pq_g1 tc_X9_sum) rfl rfl rfl (hw.nw 155 rfl) (hU _ tw5) cd_X9_sum.2 ⟨Nat.le_of_ble_eq_true rfl, Nat.le_of_ble_eq_true rfl⟩, hU _ tw986, hU _ ts75⟩ (pw_preV hw Tq34 (by decide) rfl) rfl rfl hl.1 rfl (lv_room (Nat.le_of_ble_eq_true rfl)) dX11_told_160 ⟨by show _ ≤ mc; omega, by show _ ≤ ms; omega⟩) hw (fun H locs hw hx38 => ?_)
                  have Ta0 : TY S_35 a0 11 := ty_ext hx38 Ta0
                  have hE : Ext S0 S_35 := Ext.tr hE hx38
                  refine vx_ret ?_
                  exact pw_wiret hx hb hr rfl hlk hw hE hm (by omega) (by omega) dX11_told_163
                · rw [if_neg h31] at hm
                  by_cases h39 : x1 = 8
                  · rw [if_pos h39] at hm
                    refine lv_tsIn (v := 8) h39 ?_
                    refine lv_tableIn (tgt := 164) hx hb dX11_told_1 (by decide) (by decide) rfl (by decide) ?_
                    refine lv_aload_n hx hb dX11_told_164 rfl (lv_at hl 0 rfl) ?_
                    obtain ⟨q40, hq40, hm⟩ := hm
                    have Tq40 : TY S0 q40 0 := hw.wf.ref (k := 11) (j := 7) Ta0 (by decide) (by decide) hq40
                    refine pg_rb (k := 11) (j := 7) (f := 1107) hx hb hown hU iu11 hw Ta0 (by decide) rfl (hU _ tw370) rfl hq40 dX11_told_165 ?_
                    refine pgN_i (k := 0) (j := 1) (f := 1) hx hb hown hU iu0 hw Tq40 (by decide) rfl 80 rfl rfl dX11_told_168 ?_
                    refine vx_ret ?_
                    exact pw_wiret hx hb hr rfl hlk hw hE hm (by omega) (by omega) dX11_told_171
                  · rw [if_neg h39] at hm
                    by_cases h41 : x1 = 9
                    · rw [if_pos h41] at hm
                      refine lv_tsIn (v := 9) h41 ?_
                      refine lv_tableIn (tgt := 172) hx hb dX11_told_1 (by decide) (by decide) rfl (by decide) ?_
                      refine lv_aload_n hx hb dX11_told_172 rfl (lv_at hl 0 rfl) ?_
                      refine pg_i (k := 11) (j := 14) (f := 1114) hx hb hown hU iu11 hw Ta0 (by decide) rfl (hU _ tw377) rfl dX11_told_173 ?_
                      refine vx_ret ?_
                      exact pw_wiret hx hb hr rfl hlk hw hE hm (by omega) (by omega) dX11_told_176
                    · rw [if_neg h41] at hm
                      refine lv_tableOut (tgt := 177) hx hb dX11_told_1 (ts_out (lo := 0) (hi := 9) (fun j hj1 hj2 => ?_)) (by decide) ?_
                      · have hj : j = 0 ∨ j = 1 ∨ j = 2 ∨ j = 3 ∨ j = 4 ∨ j = 5 ∨ j = 6 ∨ j = 7 ∨ j = 8 ∨ j = 9 := by clear hm; omega
                        rcases hj with rfl | rfl | rfl | rfl | rfl | rfl | rfl | rfl | rfl | rfl
                        · exact h1
                        · exact h5
                        · exact h9
                        · exact h13
                        · exact h17
                        · exact h20
                        · exact h23
                        · exact h31
                        · exact h39
                        · exact h41
                      refine lv_aload_n hx hb dX11_told_177 rfl (lv_at hl 0 rfl) ?_
                      refine lv_iconst (v := 0) hx hb dX11_told_178 (by decide) ?_
                      obtain ⟨c43, s44, hb45, hb46, hm⟩ := hm
                      refine px_v (vx_runV (As := [.int 0]) (rest := []) ⟨hx, hb, hml, hown, hU⟩ (cw_X11_need l C X n S0 hw.wf _ a0 0 (Ta0) c43 s44 hst E _ hm) (cwV 1 hU (pq_gV tw490 tw492 ts7 tw1 tc_X11_need) rfl rfl rfl cd_X11_need ⟨Nat.le_of_ble_eq_true rfl, Nat.le_of_ble_eq_true rfl⟩) (pw_preV hw Ta0 (by decide) rfl) rfl rfl hl.1 rfl (lv_room (Nat.le_of_ble_eq_true rfl)) dX11_told_179 ⟨by show _ ≤ mc; omega, by show _ ≤ ms; omega⟩) hw hE hno hlk (by omega) (by omega) (fun S_42 H locs hm hw hx47 => ?_)
                      have Ta0 : TY S_42 a0 11 := ty_ext hx47 Ta0
                      have hE : Ext S0 S_42 := Ext.tr hE hx47
                      refine W.widen (k := c43) (n := s44) (by omega) (by omega) ?_
                      have hcc : c43 + (mc - (c43)) ≤ mc := by omega
                      have hss : s44 + (ms - (s44)) ≤ ms := by omega
                      refine lv_iconst (v := (-1)) hx hb dX11_told_182 (by decide) ?_
                      refine vx_ret ?_
                      exact pw_wiret hx hb hr rfl hlk hw hE hm (by omega) (by omega) dX11_told_183
abbrev rw_X11_place (mc ms : Nat) : Room := { frames := 8, cells := mc, slots := ms, locals := 131 }
def wp_X11_place (n : Nat) (a0 : Nat) (x1 : Int32) (x2 : Int32) (S0 : pq_S) (mc ms : Nat) (E : (Nat → pq_S → Prop)) (Q : (Int32 → pq_S → Prop)) : Prop := ∃ c2 s3 : Nat, c2 ≤ mc ∧ s3 ≤ ms ∧ wp_X11_needPlace n a0 x1 S0 c2 s3 E (fun S_1 => if x2 = 0 then ∃ q8 : Nat, (pR S_1 1101 a0) = some q8 ∧ (∃ q9 : Nat, (pR S_1 700 q8) = some q9 ∧ (∃ q10 : Nat, (pR S_1 100 q9) = some q10 ∧ (∃ r13 S_11, m_X9_at n q10 x1 0 S_1 = some (r13, S_11) ∧ (Q r13 S_11)))) else if x2 = 1 then ∃ q16 : Nat, (pR S_1 1101 a0) = some q16 ∧ (∃ q17 : Nat, (pR S_1 701 q16) = some q17 ∧ (∃ q18 : Nat, (pR S_1 800 q17) = some q18 ∧ (∃ r21 S_19, m_X9_at n q18 x1 0 S_1 = some (r21, S_19) ∧ (Q r21 S_19)))) else if x2 = 2 then ∃ q24 : Nat, (pR S_1 1101 a0) = some q24 ∧ (∃ q25 : Nat, (pR S_1 701 q24) = some q25 ∧ (∃ q26 : Nat, (pR S_1 800 q25) = some q26 ∧ (∃ r29 S_27, m_X9_at n q26 x1 1 S_1 = some (r29, S_27) ∧ (Q r29 S_27)))) else if x2 = 3 then ∃ q32 : Nat, (pR S_1 1101 a0) = some q32 ∧ (∃ q33 : Nat, (pR S_1 700 q32) = some q33 ∧ (∃ q34 : Nat, (pR S_1 100 q33) = some q34 ∧ (∃ r37 S_35, m_X9_at n q34 x1 3 S_1 = some (r37, S_35) ∧ (Q r37 S_35)))) else if x2 = 4 then ∃ q40 : Nat, (pR S_1 1101 a0) = some q40 ∧ (∃ q41 : Nat, (pR S_1 701 q40) = some q41 ∧ (∃ q42 : Nat, (pR S_1 800 q41) = some q42 ∧ (∃ r45 S_43, m_X9_at n q42 x1 2 S_1 = some (r45, S_43) ∧ (Q r45 S_43)))) else if x2 = 5 then ∃ q48 : Nat, (pR S_1 1101 a0) = some q48 ∧ (∃ r51 S_49, m_X7_hoursWanted n q48 x1 0 S_1 = some (r51, S_49) ∧ (Q r51 S_49)) else ∃ c54 s55 : Nat, c54 ≤ (mc - (c2)) ∧ s55 ≤ (ms - (s3)) ∧ wp_X11_need n a0 0 S_1 c54 s55 E (fun S_53 => Q (-1) S_53))
theorem tc_X11_place : Cond.code yX11_place cX11_place 3 (some .int) ∈ pq_U := tw995
theorem cd_X11_place : yX11_place.cls = RX11 ∧ yX11_place.cls ≠ "java/lang/invoke/MethodHandle" ∧ yX11_place.cls ≠ "java/lang/invoke/VarHandle" ∧ (parseMethodDescriptor yX11_place.desc).map (fun d => d.parameters.length) = some 2 := by decide +kernel
set_option maxHeartbeats 4000000 in
set_option maxRecDepth 100000 in
theorem cw_X11_place (l : Launch) (C : pq_C) (X : va_W) (n : Nat) (S0 : pq_S) (hF : WF S0) (sz : Nat) (a0 : Nat) (x1 : Int32) (x2 : Int32) (Ta0 : TY S0 a0 11) (mc ms : Nat) (hst : l.stackTraces = false) (E : (Nat → pq_S → Prop)) (Q : (Int32 → pq_S → Prop)) (hm : wp_X11_place n a0 x1 x2 S0 mc ms E Q) : vx_Met l yX11_place (.code yX11_place cX11_place 3 (some .int) :: pq_U) (rw_X11_place mc ms) (va_Pc [.ref a0, .int x1, .int x2] (CPre C X S0 sz)) (QwI C X S0 sz Q) (XcP C X S0 sz E) mc ms (pq_F C X S0 sz) := by
  refine vx_ofW (cc := cX11_place) (maxL := 3) (ret := (some .int)) (by decide) rfl ?_
  intro p e s m args below meth c s₁ B hml hno hv
  obtain ⟨rfl, hv⟩ := hv
  have hsz := hv.1
  subst hsz
  have hw := pw_entry hF hv
  have hts := atoms_spec (ws := .code yX11_place cX11_place 3 (some .int) :: pq_U) B.pre
  have hU : ∀ w ∈ pq_U, w.before _ s = true := fun w h => hts w (List.mem_cons_of_mem _ h)
  have hx := B.exec
  have hb := B.bytes
  have hr := B.returns
  have hown : s.vm.findClass RX11 = some m.cls := findClass_of_methodNamed B.named
  have hlk := B.notSynchronized
  have hl := lv_entry ([.ref a0, .int x1, .int x2]) (n := 3) (Nat.le_of_ble_eq_true rfl)
  rw [lg_entry_eq]
  generalize (lg_sl ([.ref a0, .int x1, .int x2]) ++ List.replicate (3 - (lg_sl ([.ref a0, .int x1, .int x2])).length) Slot.unset).toArray = ls at hl ⊢
  have hl : lv_has ls 3 [(0, .ref a0), (1, .int x1), (2, .int x2)] := hl
  have hE : Ext S0 S0 := Ext.rf _
  have cx : Cx p s m _ meth c cX11_place 3 RX11 (some .int) := ⟨hx, hb, hml, hown, hU, hr, hlk⟩
  have hcc : 0 + mc ≤ mc := by omega
  have hss : 0 + ms ≤ ms := by omega
  rw [wp_X11_place] at hm
  refine lv_aload_n hx hb dX11_place_0 rfl (lv_at hl 0 rfl) ?_
  refine lv_iload_n hx hb dX11_place_1 rfl (lv_at hl 1 rfl) ?_
  obtain ⟨c2, s3, hb4, hb5, hm⟩ := hm
  refine px_v (vx_runV (As := [.int x1]) (rest := []) ⟨hx, hb, hml, hown, hU⟩ (cw_X11_needPlace l C X n S0 hw.wf _ a0 x1 (Ta0) c2 s3 hst E _ hm) (cwV 1 hU (pq_gV tw996 tw998 ts76 tw1 tc_X11_needPlace) rfl rfl rfl cd_X11_needPlace ⟨Nat.le_of_ble_eq_true rfl, Nat.le_of_ble_eq_true rfl⟩) (pw_preV hw Ta0 (by decide) rfl) rfl rfl hl.1 rfl (lv_room (Nat.le_of_ble_eq_true rfl)) dX11_place_2 ⟨by show _ ≤ mc; omega, by show _ ≤ ms; omega⟩) hw hE hno hlk (by omega) (by omega) (fun S_1 H locs hm hw hx6 => ?_)
  have Ta0 : TY S_1 a0 11 := ty_ext hx6 Ta0
  have hE : Ext S0 S_1 := Ext.tr hE hx6
  refine W.widen (k := c2) (n := s3) (by omega) (by omega) ?_
  have hcc : c2 + (mc - (c2)) ≤ mc := by omega
  have hss : s3 + (ms - (s3)) ≤ ms := by omega
  refine lv_iload_n hx hb dX11_place_5 rfl (lv_at hl 2 rfl) ?_
  by_cases h7 : x2 = 0
  · rw [if_pos h7] at hm
    refine lv_tsIn (v := 0) h7 ?_
    refine lv_tableIn (tgt := 44) hx hb dX11_place_6 (by decide) (by decide) rfl (by decide) ?_
    refine lv_aload_n hx hb dX11_place_44 rfl (lv_at hl 0 rfl) ?_
    obtain ⟨q8, hq8, hm⟩ := hm
    have Tq8 : TY S_1 q8 7 := hw.wf.ref (k := 11) (j := 1) Ta0 (by decide) (by decide) hq8
    refine pg_rb (k := 11) (j := 1) (f := 1101) hx hb hown hU iu11 hw Ta0 (by decide) rfl (hU _ tw364) rfl hq8 dX11_place_45 ?_
    obtain ⟨q9, hq9, hm⟩ := hm
    have Tq9 : TY S_1 q9 1 := hw.wf.ref (k := 7) (j := 0) Tq8 (by decide) (by decide) hq9
    refine pgN_rb (k := 7) (j := 0) (f := 700) hx hb hown hU iu7 hw Tq8 (by decide) rfl 55 rfl rfl hq9 dX11_place_48 ?_
    obtain ⟨q10, hq10, hm⟩ := hm
    have Tq10 : TY S_1 q10 9 := hw.wf.ref (k := 1) (j := 0) Tq9 (by decide) (by decide) hq10
    refine pgN_rb (k := 1) (j := 0) (f := 100) hx hb hown hU iu1 hw Tq9 (by decide) rfl 22 rfl rfl hq10 dX11_place_51 ?_
    refine lv_iload_n hx hb dX11_place_54 rfl (lv_at hl 1 rfl) ?_
    refine lv_iconst (v := 0) hx hb dX11_place_55 (by decide) ?_
    obtain ⟨r13, S_11, hq12, hm⟩ := hm
    refine pw_ci (va_runVN (As := [.int x1, .int 0]) (rest := []) ⟨hx, hb, hml, hown, hU⟩ (c_X9_at l C X n S_1 hw.wf _ q10 x1 0 (Tq10) r13 S_11 hq12) ⟨va_cnB (host := "WickNights") 2 hU (pq_g1 tc_X9_at) rfl rfl rfl (hw.nw 157 rfl) (hU _ tw5) cd_X9_at.2 ⟨Nat.le_of_ble_eq_true rfl, Nat.le_of_ble_eq_true rfl⟩, hU _ tw719, hU _ ts32⟩ (pw_preV hw Tq10 (by decide) rfl) rfl rfl hl.1 rfl (lv_room (Nat.le_of_ble_eq_true rfl)) dX11_place_56 ⟨by show _ ≤ mc; omega, by show _ ≤ ms; omega⟩) hw (fun H locs hw hx14 => ?_)
    have Ta0 : TY S_11 a0 11 := ty_ext hx14 Ta0
    have hE : Ext S0 S_11 := Ext.tr hE hx14
    refine vx_ret ?_
    exact pw_wiret hx hb hr rfl hlk hw hE hm (by omega) (by omega) dX11_place_59
  · rw [if_neg h7] at hm
    by_cases h15 : x2 = 1
    · rw [if_pos h15] at hm
      refine lv_tsIn (v := 1) h15 ?_
      refine lv_tableIn (tgt := 60) hx hb dX11_place_6 (by decide) (by decide) rfl (by decide) ?_
      refine lv_aload_n hx hb dX11_place_60 rfl (lv_at hl 0 rfl) ?_
      obtain ⟨q16, hq16, hm⟩ := hm
      have Tq16 : TY S_1 q16 7 := hw.wf.ref (k := 11) (j := 1) Ta0 (by decide) (by decide) hq16
      refine pg_rb (k := 11) (j := 1) (f := 1101) hx hb hown hU iu11 hw Ta0 (by decide) rfl (hU _ tw364) rfl hq16 dX11_place_61 ?_
      obtain ⟨q17, hq17, hm⟩ := hm
      have Tq17 : TY S_1 q17 8 := hw.wf.ref (k := 7) (j := 1) Tq16 (by decide) (by decide) hq17
      refine pgN_rb (k := 7) (j := 1) (f := 701) hx hb hown hU iu7 hw Tq16 (by decide) rfl 59 rfl rfl hq17 dX11_place_64 ?_
      obtain ⟨q18, hq18, hm⟩ := hm
      have Tq18 : TY S_1 q18 9 := hw.wf.ref (k := 8) (j := 0) Tq17 (by decide) (by decide) hq18
      refine pgN_rb (k := 8) (j := 0) (f := 800) hx hb hown hU iu8 hw Tq17 (by decide) rfl 44 rfl rfl hq18 dX11_place_67 ?_
      refine lv_iload_n hx hb dX11_place_70 rfl (lv_at hl 1 rfl) ?_
      refine lv_iconst (v := 0) hx hb dX11_place_71 (by decide) ?_
      obtain ⟨r21, S_19, hq20, hm⟩ := hm
      refine pw_ci (va_runVN (As := [.int x1, .int 0]) (rest := []) ⟨hx, hb, hml, hown, hU⟩ (c_X9_at l C X n S_1 hw.wf _ q18 x1 0 (Tq18) r21 S_19 hq20) ⟨va_cnB (host := "WickNights") 2 hU (pq_g1 tc_X9_at) rfl rfl rfl (hw.nw 157 rfl) (hU _ tw5) cd_X9_at.2 ⟨Nat.le_of_ble_eq_true rfl, Nat.le_of_ble_eq_true rfl⟩, hU _ tw719, hU _ ts32⟩ (pw_preV hw Tq18 (by decide) rfl) rfl rfl hl.1 rfl (lv_room (Nat.le_of_ble_eq_true rfl)) dX11_place_72 ⟨by show _ ≤ mc; omega, by show _ ≤ ms; omega⟩) hw (fun H locs hw hx22 => ?_)
      have Ta0 : TY S_19 a0 11 := ty_ext hx22 Ta0
      have hE : Ext S0 S_19 := Ext.tr hE hx22
      refine vx_ret ?_
      exact pw_wiret hx hb hr rfl hlk hw hE hm (by omega) (by omega) dX11_place_75
    · rw [if_neg h15] at hm
      by_cases h23 : x2 = 2
      · rw [if_pos h23] at hm
        refine lv_tsIn (v := 2) h23 ?_
        refine lv_tableIn (tgt := 76) hx hb dX11_place_6 (by decide) (by decide) rfl (by decide) ?_
        refine lv_aload_n hx hb dX11_place_76 rfl (lv_at hl 0 rfl) ?_
        obtain ⟨q24, hq24, hm⟩ := hm
        have Tq24 : TY S_1 q24 7 := hw.wf.ref (k := 11) (j := 1) Ta0 (by decide) (by decide) hq24
        refine pg_rb (k := 11) (j := 1) (f := 1101) hx hb hown hU iu11 hw Ta0 (by decide) rfl (hU _ tw364) rfl hq24 dX11_place_77 ?_
        obtain ⟨q25, hq25, hm⟩ := hm
        have Tq25 : TY S_1 q25 8 := hw.wf.ref (k := 7) (j := 1) Tq24 (by decide) (by decide) hq25
        refine pgN_rb (k := 7) (j := 1) (f := 701) hx hb hown hU iu7 hw Tq24 (by decide) rfl 59 rfl rfl hq25 dX11_place_80 ?_
        obtain ⟨q26, hq26, hm⟩ := hm
        have Tq26 : TY S_1 q26 9 := hw.wf.ref (k := 8) (j := 0) Tq25 (by decide) (by decide) hq26
        refine pgN_rb (k := 8) (j := 0) (f := 800) hx hb hown hU iu8 hw Tq25 (by decide) rfl 44 rfl rfl hq26 dX11_place_83 ?_
        refine lv_iload_n hx hb dX11_place_86 rfl (lv_at hl 1 rfl) ?_
        refine lv_iconst (v := 1) hx hb dX11_place_87 (by decide) ?_
        obtain ⟨r29, S_27, hq28, hm⟩ := hm
        refine pw_ci (va_runVN (As := [.int x1, .int 1]) (rest := []) ⟨hx, hb, hml, hown, hU⟩ (c_X9_at l C X n S_1 hw.wf _ q26 x1 1 (Tq26) r29 S_27 hq28) ⟨va_cnB (host := "WickNights") 2 hU (pq_g1 tc_X9_at) rfl rfl rfl (hw.nw 157 rfl) (hU _ tw5) cd_X9_at.2 ⟨Nat.le_of_ble_eq_true rfl, Nat.le_of_ble_eq_true rfl⟩, hU _ tw719, hU _ ts32⟩ (pw_preV hw Tq26 (by decide) rfl) rfl rfl hl.1 rfl (lv_room (Nat.le_of_ble_eq_true rfl)) dX11_place_88 ⟨by show _ ≤ mc; omega, by show _ ≤ ms; omega⟩) hw (fun H locs hw hx30 => ?_)
        have Ta0 : TY S_27 a0 11 := ty_ext hx30 Ta0
        have hE : Ext S0 S_27 := Ext.tr hE hx30
        refine vx_ret ?_
        exact pw_wiret hx hb hr rfl hlk hw hE hm (by omega) (by omega) dX11_place_91
      · rw [if_neg h23] at hm
        by_cases h31 : x2 = 3
        · rw [if_pos h31] at hm
          refine lv_tsIn (v := 3) h31 ?_
          refine lv_tableIn (tgt := 92) hx hb dX11_place_6 (by decide) (by decide) rfl (by decide) ?_
          refine lv_aload_n hx hb dX11_place_92 rfl (lv_at hl 0 rfl) ?_
          obtain ⟨q32, hq32, hm⟩ := hm
          have Tq32 : TY S_1 q32 7 := hw.wf.ref (k := 11) (j := 1) Ta0 (by decide) (by decide) hq32
          refine pg_rb (k := 11) (j := 1) (f := 1101) hx hb hown hU iu11 hw Ta0 (by decide) rfl (hU _ tw364) rfl hq32 dX11_place_93 ?_
          obtain ⟨q33, hq33, hm⟩ := hm
          have Tq33 : TY S_1 q33 1 := hw.wf.ref (k := 7) (j := 0) Tq32 (by decide) (by decide) hq33
          refine pgN_rb (k := 7) (j := 0) (f := 700) hx hb hown hU iu7 hw Tq32 (by decide) rfl 55 rfl rfl hq33 dX11_place_96 ?_
          obtain ⟨q34, hq34, hm⟩ := hm
          have Tq34 : TY S_1 q34 9 := hw.wf.ref (k := 1) (j := 0) Tq33 (by decide) (by decide) hq34
          refine pgN_rb (k := 1) (j := 0) (f := 100) hx hb hown hU iu1 hw Tq33 (by decide) rfl 22 rfl rfl hq34 dX11_place_99 ?_
          refine lv_iload_n hx hb dX11_place_102 rfl (lv_at hl 1 rfl) ?_
          refine lv_iconst (v := 3) hx hb dX11_place_103 (by decide) ?_
          obtain ⟨r37, S_35, hq36, hm⟩ := hm
          refine pw_ci (va_runVN (As := [.int x1, .int 3]) (rest := []) ⟨hx, hb, hml, hown, hU⟩ (c_X9_at l C X n S_1 hw.wf _ q34 x1 3 (Tq34) r37 S_35 hq36) ⟨va_cnB (host := "WickNights") 2 hU (pq_g1 tc_X9_at) rfl rfl rfl (hw.nw 157 rfl) (hU _ tw5) cd_X9_at.2 ⟨Nat.le_of_ble_eq_true rfl, Nat.le_of_ble_eq_true rfl⟩, hU _ tw719, hU _ ts32⟩ (pw_preV hw Tq34 (by decide) rfl) rfl rfl hl.1 rfl (lv_room (Nat.le_of_ble_eq_true rfl)) dX11_place_104 ⟨by show _ ≤ mc; omega, by show _ ≤ ms; omega⟩) hw (fun H locs hw hx38 => ?_)
          have Ta0 : TY S_35 a0 11 := ty_ext hx38 Ta0
          have hE : Ext S0 S_35 := Ext.tr hE hx38
          refine vx_ret ?_
          exact pw_wiret hx hb hr rfl hlk hw hE hm (by omega) (by omega) dX11_place_107
        · rw [if_neg h31] at hm
          by_cases h39 : x2 = 4
          · rw [if_pos h39] at hm
            refine lv_tsIn (v := 4) h39 ?_
            refine lv_tableIn (tgt := 108) hx hb dX11_place_6 (by decide) (by decide) rfl (by decide) ?_
            refine lv_aload_n hx hb dX11_place_108 rfl (lv_at hl 0 rfl) ?_
            obtain ⟨q40, hq40, hm⟩ := hm
            have Tq40 : TY S_1 q40 7 := hw.wf.ref (k := 11) (j := 1) Ta0 (by decide) (by decide) hq40
            refine pg_rb (k := 11) (j := 1) (f := 1101) hx hb hown hU iu11 hw Ta0 (by decide) rfl (hU _ tw364) rfl hq40 dX11_place_109 ?_
            obtain ⟨q41, hq41, hm⟩ := hm
            have Tq41 : TY S_1 q41 8 := hw.wf.ref (k := 7) (j := 1) Tq40 (by decide) (by decide) hq41
            refine pgN_rb (k := 7) (j := 1) (f := 701) hx hb hown hU iu7 hw Tq40 (by decide) rfl 59 rfl rfl hq41 dX11_place_112 ?_
            obtain ⟨q42, hq42, hm⟩ := hm
            have Tq42 : TY S_1 q42 9 := hw.wf.ref (k := 8) (j := 0) Tq41 (by decide) (by decide) hq42
            refine pgN_rb (k := 8) (j := 0) (f := 800) hx hb hown hU iu8 hw Tq41 (by decide) rfl 44 rfl rfl hq42 dX11_place_115 ?_
            refine lv_iload_n hx hb dX11_place_118 rfl (lv_at hl 1 rfl) ?_
            refine lv_iconst (v := 2) hx hb dX11_place_119 (by decide) ?_
            obtain ⟨r45, S_43, hq44, hm⟩ := hm
            refine pw_ci (va_runVN (As := [.int x1, .int 2]) (rest := []) ⟨hx, hb, hml, hown, hU⟩ (c_X9_at l C X n S_1 hw.wf _ q42 x1 2 (Tq42) r45 S_43 hq44) ⟨va_cnB (host := "WickNights") 2 hU (pq_g1 tc_X9_at) rfl rfl rfl (hw.nw 157 rfl) (hU _ tw5) cd_X9_at.2 ⟨Nat.le_of_ble_eq_true rfl, Nat.le_of_ble_eq_true rfl⟩, hU _ tw719, hU _ ts32⟩ (pw_preV hw Tq42 (by decide) rfl) rfl rfl hl.1 rfl (lv_room (Nat.le_of_ble_eq_true rfl)) dX11_place_120 ⟨by show _ ≤ mc; omega, by show _ ≤ ms; omega⟩) hw (fun H locs hw hx46 => ?_)
            have Ta0 : TY S_43 a0 11 := ty_ext hx46 Ta0
            have hE : Ext S0 S_43 := Ext.tr hE hx46
            refine vx_ret ?_
            exact pw_wiret hx hb hr rfl hlk hw hE hm (by omega) (by omega) dX11_place_123
          · rw [if_neg h39] at hm
            by_cases h47 : x2 = 5
            · rw [if_pos h47] at hm
              refine lv_tsIn (v := 5) h47 ?_
              refine lv_tableIn (tgt := 124) hx hb dX11_place_6 (by decide) (by decide) rfl (by decide) ?_
              refine lv_aload_n hx hb dX11_place_124 rfl (lv_at hl 0 rfl) ?_
              obtain ⟨q48, hq48, hm⟩ := hm
              have Tq48 : TY S_1 q48 7 := hw.wf.ref (k := 11) (j := 1) Ta0 (by decide) (by decide) hq48
              refine pg_rb (k := 11) (j := 1) (f := 1101) hx hb hown hU iu11 hw Ta0 (by decide) rfl (hU _ tw364) rfl hq48 dX11_place_125 ?_
              refine lv_iload_n hx hb dX11_place_128 rfl (lv_at hl 1 rfl) ?_
              refine lv_iconst (v := 0) hx hb dX11_place_129 (by decide) ?_
              obtain ⟨r51, S_49, hq50, hm⟩ := hm
              refine pw_ci (va_runVN (As := [.int x1, .int 0]) (rest := []) ⟨hx, hb, hml, hown, hU⟩ (c_X7_hoursWanted l C X n S_1 hw.wf _ q48 x1 0 (Tq48) r51 S_49 hq50) ⟨va_cnB (host := "WickNights") 2 hU (pq_g1 tc_X7_hoursWanted) rfl rfl rfl (hw.nw 158 rfl) (hU _ tw3) cd_X7_hoursWanted.2 ⟨Nat.le_of_ble_eq_true rfl, Nat.le_of_ble_eq_true rfl⟩, hU _ tw1026, hU _ ts79⟩ (pw_preV hw Tq48 (by decide) rfl) rfl rfl hl.1 rfl (lv_room (Nat.le_of_ble_eq_true rfl)) dX11_place_130 ⟨by show _ ≤ mc; omega, by show _ ≤ ms; omega⟩) hw (fun H locs hw hx52 => ?_)
              have Ta0 : TY S_49 a0 11 := ty_ext hx52 Ta0
              have hE : Ext S0 S_49 := Ext.tr hE hx52
              refine vx_ret ?_
              exact pw_wiret hx hb hr rfl hlk hw hE hm (by omega) (by omega) dX11_place_133
            · rw [if_neg h47] at hm
              refine lv_tableOut (tgt := 134) hx hb dX11_place_6 (ts_out (lo := 0) (hi := 5) (fun j hj1 hj2 => ?_)) (by decide) ?_
              · have hj : j = 0 ∨ j = 1 ∨ j = 2 ∨ j = 3 ∨ j = 4 ∨ j = 5 := by clear hm; omega
                rcases hj with rfl | rfl | rfl | rfl | rfl | rfl
                · exact h7
                · exact h15
                · exact h23
                · exact h31
                · exact h39
                · exact h47
              refine lv_aload_n hx hb dX11_place_134 rfl (lv_at hl 0 rfl) ?_
              refine lv_iconst (v := 0) hx hb dX11_place_135 (by decide) ?_
              obtain ⟨c54, s55, hb56, hb57, hm⟩ := hm
              refine px_v (vx_runV (As := [.int 0]) (rest := []) ⟨hx, hb, hml, hown, hU⟩ (cw_X11_need l C X n S_1 hw.wf _ a0 0 (Ta0) c54 s55 hst E _ hm) (cwV 1 hU (pq_gV tw490 tw492 ts7 tw1 tc_X11_need) rfl rfl rfl cd_X11_need ⟨Nat.le_of_ble_eq_true rfl, Nat.le_of_ble_eq_true rfl⟩) (pw_preV hw Ta0 (by decide) rfl) rfl rfl hl.1 rfl (lv_room (Nat.le_of_ble_eq_true rfl)) dX11_place_136 ⟨by show _ ≤ mc; omega, by show _ ≤ ms; omega⟩) hw hE hno hlk (by omega) (by omega) (fun S_53 H locs hm hw hx58 => ?_)
              have Ta0 : TY S_53 a0 11 := ty_ext hx58 Ta0
              have hE : Ext S0 S_53 := Ext.tr hE hx58
              refine W.widen (k := c2 + c54) (n := s3 + s55) (by omega) (by omega) ?_
              have hcc : c2 + c54 + (mc - (c2 + c54)) ≤ mc := by omega
              have hss : s3 + s55 + (ms - (s3 + s55)) ≤ ms := by omega
              refine lv_iconst (v := (-1)) hx hb dX11_place_139 (by decide) ?_
              refine vx_ret ?_
              exact pw_wiret hx hb hr rfl hlk hw hE hm (by omega) (by omega) dX11_place_140
abbrev rw_X11_want (mc ms : Nat) : Room := { frames := 8, cells := mc, slots := ms, locals := 131 }
def wp_X11_want (n : Nat) (a0 : Nat) (x1 : Int32) (x2 : Int32) (S0 : pq_S) (mc ms : Nat) (E : (Nat → pq_S → Prop)) (Q : (Int32 → pq_S → Prop)) : Prop := ∃ c2 s3 : Nat, c2 ≤ mc ∧ s3 ≤ ms ∧ wp_X11_needWant n a0 x1 S0 c2 s3 E (fun S_1 => if x2 = 0 then ∃ q8 : Nat, (pR S_1 1101 a0) = some q8 ∧ (∃ q9 : Nat, (pR S_1 700 q8) = some q9 ∧ (∃ q10 : Nat, (pR S_1 101 q9) = some q10 ∧ (∃ r13 S_11, m_X9_at n q10 x1 0 S_1 = some (r13, S_11) ∧ (Q r13 S_11)))) else if x2 = 1 then ∃ q16 : Nat, (pR S_1 1101 a0) = some q16 ∧ (∃ q17 : Nat, (pR S_1 700 q16) = some q17 ∧ (∃ q18 : Nat, (pR S_1 101 q17) = some q18 ∧ (∃ r21 S_19, m_X9_at n q18 x1 1 S_1 = some (r21, S_19) ∧ (Q r21 S_19)))) else if x2 = 2 then ∃ q24 : Nat, (pR S_1 1101 a0) = some q24 ∧ (∃ q25 : Nat, (pR S_1 700 q24) = some q25 ∧ (∃ q26 : Nat, (pR S_1 101 q25) = some q26 ∧ (∃ r29 S_27, m_X9_at n q26 x1 2 S_1 = some (r29, S_27) ∧ (Q r29 S_27)))) else if x2 = 3 then ∃ q32 : Nat, (pR S_1 1101 a0) = some q32 ∧ (∃ q33 : Nat, (pR S_1 700 q32) = some q33 ∧ (∃ q34 : Nat, (pR S_1 101 q33) = some q34 ∧ (∃ r37 S_35, m_X9_at n q34 x1 3 S_1 = some (r37, S_35) ∧ (Q r37 S_35)))) else if x2 = 4 then ∃ q40 : Nat, (pR S_1 1101 a0) = some q40 ∧ (∃ q41 : Nat, (pR S_1 701 q40) = some q41 ∧ (∃ q42 : Nat, (pR S_1 801 q41) = some q42 ∧ (∃ r45 S_43, m_X9_at n q42 x1 0 S_1 = some (r45, S_43) ∧ (Q r45 S_43)))) else if x2 = 5 then ∃ q48 : Nat, (pR S_1 1101 a0) = some q48 ∧ (∃ q49 : Nat, (pR S_1 701 q48) = some q49 ∧ (∃ q50 : Nat, (pR S_1 801 q49) = some q50 ∧ (∃ r53 S_51, m_X9_at n q50 x1 1 S_1 = some (r53, S_51) ∧ (Q r53 S_51)))) else ∃ c56 s57 : Nat, c56 ≤ (mc - (c2)) ∧ s57 ≤ (ms - (s3)) ∧ wp_X11_need n a0 0 S_1 c56 s57 E (fun S_55 => Q (-1) S_55))
theorem tc_X11_want : Cond.code yX11_want cX11_want 3 (some .int) ∈ pq_U := tw1038
theorem cd_X11_want : yX11_want.cls = RX11 ∧ yX11_want.cls ≠ "java/lang/invoke/MethodHandle" ∧ yX11_want.cls ≠ "java/lang/invoke/VarHandle" ∧ (parseMethodDescriptor yX11_want.desc).map (fun d => d.parameters.length) = some 2 := by decide +kernel
set_option maxHeartbeats 4000000 in
set_option maxRecDepth 100000 in
theorem cw_X11_want (l : Launch) (C : pq_C) (X : va_W) (n : Nat) (S0 : pq_S) (hF : WF S0) (sz : Nat) (a0 : Nat) (x1 : Int32) (x2 : Int32) (Ta0 : TY S0 a0 11) (mc ms : Nat) (hst : l.stackTraces = false) (E : (Nat → pq_S → Prop)) (Q : (Int32 → pq_S → Prop)) (hm : wp_X11_want n a0 x1 x2 S0 mc ms E Q) : vx_Met l yX11_want (.code yX11_want cX11_want 3 (some .int) :: pq_U) (rw_X11_want mc ms) (va_Pc [.ref a0, .int x1, .int x2] (CPre C X S0 sz)) (QwI C X S0 sz Q) (XcP C X S0 sz E) mc ms (pq_F C X S0 sz) := by
  refine vx_ofW (cc := cX11_want) (maxL := 3) (ret := (some .int)) (by decide) rfl ?_
  intro p e s m args below meth c s₁ B hml hno hv
  obtain ⟨rfl, hv⟩ := hv
  have hsz := hv.1
  subst hsz
  have hw := pw_entry hF hv
  have hts := atoms_spec (ws := .code yX11_want cX11_want 3 (some .int) :: pq_U) B.pre
  have hU : ∀ w ∈ pq_U, w.before _ s = true := fun w h => hts w (List.mem_cons_of_mem _ h)
  have hx := B.exec
  have hb := B.bytes
  have hr := B.returns
  have hown : s.vm.findClass RX11 = some m.cls := findClass_of_methodNamed B.named
  have hlk := B.notSynchronized
  have hl := lv_entry ([.ref a0, .int x1, .int x2]) (n := 3) (Nat.le_of_ble_eq_true rfl)
  rw [lg_entry_eq]
  generalize (lg_sl ([.ref a0, .int x1, .int x2]) ++ List.replicate (3 - (lg_sl ([.ref a0, .int x1, .int x2])).length) Slot.unset).toArray = ls at hl ⊢
  have hl : lv_has ls 3 [(0, .ref a0), (1, .int x1), (2, .int x2)] := hl
  have hE : Ext S0 S0 := Ext.rf _
  have cx : Cx p s m _ meth c cX11_want 3 RX11 (some .int) := ⟨hx, hb, hml, hown, hU, hr, hlk⟩
  have hcc : 0 + mc ≤ mc := by omega
  have hss : 0 + ms ≤ ms := by omega
  rw [wp_X11_want] at hm
  refine lv_aload_n hx hb dX11_want_0 rfl (lv_at hl 0 rfl) ?_
  refine lv_iload_n hx hb dX11_want_1 rfl (lv_at hl 1 rfl) ?_
  obtain ⟨c2, s3, hb4, hb5, hm⟩ := hm
  refine px_v (vx_runV (As := [.int x1]) (rest := []) ⟨hx, hb, hml, hown, hU⟩ (cw_X11_needWant l C X n S0 hw.wf _ a0 x1 (Ta0) c2 s3 hst E _ hm) (cwV 1 hU (pq_gV tw1039 tw1041 ts81 tw1 tc_X11_needWant) rfl rfl rfl cd_X11_needWant ⟨Nat.le_of_ble_eq_true rfl, Nat.le_of_ble_eq_true rfl⟩) (pw_preV hw Ta0 (by decide) rfl) rfl rfl hl.1 rfl (lv_room (Nat.le_of_ble_eq_true rfl)) dX11_want_2 ⟨by show _ ≤ mc; omega, by show _ ≤ ms; omega⟩) hw hE hno hlk (by omega) (by omega) (fun S_1 H locs hm hw hx6 => ?_)
  have Ta0 : TY S_1 a0 11 := ty_ext hx6 Ta0
  have hE : Ext S0 S_1 := Ext.tr hE hx6
  refine W.widen (k := c2) (n := s3) (by omega) (by omega) ?_
  have hcc : c2 + (mc - (c2)) ≤ mc := by omega
  have hss : s3 + (ms - (s3)) ≤ ms := by omega
  refine lv_iload_n hx hb dX11_want_5 rfl (lv_at hl 2 rfl) ?_
  by_cases h7 : x2 = 0
  · rw [if_pos h7] at hm
    refine lv_tsIn (v := 0) h7 ?_
    refine lv_tableIn (tgt := 44) hx hb dX11_want_6 (by decide) (by decide) rfl (by decide) ?_
    refine lv_aload_n hx hb dX11_want_44 rfl (lv_at hl 0 rfl) ?_
    obtain ⟨q8, hq8, hm⟩ := hm
    have Tq8 : TY S_1 q8 7 := hw.wf.ref (k := 11) (j := 1) Ta0 (by decide) (by decide) hq8
    refine pg_rb (k := 11) (j := 1) (f := 1101) hx hb hown hU iu11 hw Ta0 (by decide) rfl (hU _ tw364) rfl hq8 dX11_want_45 ?_
    obtain ⟨q9, hq9, hm⟩ := hm
    have Tq9 : TY S_1 q9 1 := hw.wf.ref (k := 7) (j := 0) Tq8 (by decide) (by decide) hq9
    refine pgN_rb (k := 7) (j := 0) (f := 700) hx hb hown hU iu7 hw Tq8 (by decide) rfl 55 rfl rfl hq9 dX11_want_48 ?_
    obtain ⟨q10, hq10, hm⟩ := hm
    have Tq10 : TY S_1 q10 9 := hw.wf.ref (k := 1) (j := 1) Tq9 (by decide) (by decide) hq10
    refine pgN_rb (k := 1) (j := 1) (f := 101) hx hb hown hU iu1 hw Tq9 (by decide) rfl 32 rfl rfl hq10 dX11_want_51 ?_
    refine lv_iload_n hx hb dX11_want_54 rfl (lv_at hl 1 rfl) ?_
    refine lv_iconst (v := 0) hx hb dX11_want_55 (by decide) ?_
    obtain ⟨r13, S_11, hq12, hm⟩ := hm
    refine pw_ci (va_runVN (As := [.int x1, .int 0]) (rest := []) ⟨hx, hb, hml, hown, hU⟩ (c_X9_at l C X n S_1 hw.wf _ q10 x1 0 (Tq10) r13 S_11 hq12) ⟨va_cnB (host := "WickNights") 2 hU (pq_g1 tc_X9_at) rfl rfl rfl (hw.nw 157 rfl) (hU _ tw5) cd_X9_at.2 ⟨Nat.le_of_ble_eq_true rfl, Nat.le_of_ble_eq_true rfl⟩, hU _ tw719, hU _ ts32⟩ (pw_preV hw Tq10 (by decide) rfl) rfl rfl hl.1 rfl (lv_room (Nat.le_of_ble_eq_true rfl)) dX11_want_56 ⟨by show _ ≤ mc; omega, by show _ ≤ ms; omega⟩) hw (fun H locs hw hx14 => ?_)
    have Ta0 : TY S_11 a0 11 := ty_ext hx14 Ta0
    have hE : Ext S0 S_11 := Ext.tr hE hx14
    refine vx_ret ?_
    exact pw_wiret hx hb hr rfl hlk hw hE hm (by omega) (by omega) dX11_want_59
  · rw [if_neg h7] at hm
    by_cases h15 : x2 = 1
    · rw [if_pos h15] at hm
      refine lv_tsIn (v := 1) h15 ?_
      refine lv_tableIn (tgt := 60) hx hb dX11_want_6 (by decide) (by decide) rfl (by decide) ?_
      refine lv_aload_n hx hb dX11_want_60 rfl (lv_at hl 0 rfl) ?_
      obtain ⟨q16, hq16, hm⟩ := hm
      have Tq16 : TY S_1 q16 7 := hw.wf.ref (k := 11) (j := 1) Ta0 (by decide) (by decide) hq16
      refine pg_rb (k := 11) (j := 1) (f := 1101) hx hb hown hU iu11 hw Ta0 (by decide) rfl (hU _ tw364) rfl hq16 dX11_want_61 ?_
      obtain ⟨q17, hq17, hm⟩ := hm
      have Tq17 : TY S_1 q17 1 := hw.wf.ref (k := 7) (j := 0) Tq16 (by decide) (by decide) hq17
      refine pgN_rb (k := 7) (j := 0) (f := 700) hx hb hown hU iu7 hw Tq16 (by decide) rfl 55 rfl rfl hq17 dX11_want_64 ?_
      obtain ⟨q18, hq18, hm⟩ := hm
      have Tq18 : TY S_1 q18 9 := hw.wf.ref (k := 1) (j := 1) Tq17 (by decide) (by decide) hq18
      refine pgN_rb (k := 1) (j := 1) (f := 101) hx hb hown hU iu1 hw Tq17 (by decide) rfl 32 rfl rfl hq18 dX11_want_67 ?_
      refine lv_iload_n hx hb dX11_want_70 rfl (lv_at hl 1 rfl) ?_
      refine lv_iconst (v := 1) hx hb dX11_want_71 (by decide) ?_
      obtain ⟨r21, S_19, hq20, hm⟩ := hm
      refine pw_ci (va_runVN (As := [.int x1, .int 1]) (rest := []) ⟨hx, hb, hml, hown, hU⟩ (c_X9_at l C X n S_1 hw.wf _ q18 x1 1 (Tq18) r21 S_19 hq20) ⟨va_cnB (host := "WickNights") 2 hU (pq_g1 tc_X9_at) rfl rfl rfl (hw.nw 157 rfl) (hU _ tw5) cd_X9_at.2 ⟨Nat.le_of_ble_eq_true rfl, Nat.le_of_ble_eq_true rfl⟩, hU _ tw719, hU _ ts32⟩ (pw_preV hw Tq18 (by decide) rfl) rfl rfl hl.1 rfl (lv_room (Nat.le_of_ble_eq_true rfl)) dX11_want_72 ⟨by show _ ≤ mc; omega, by show _ ≤ ms; omega⟩) hw (fun H locs hw hx22 => ?_)
      have Ta0 : TY S_19 a0 11 := ty_ext hx22 Ta0
      have hE : Ext S0 S_19 := Ext.tr hE hx22
      refine vx_ret ?_
      exact pw_wiret hx hb hr rfl hlk hw hE hm (by omega) (by omega) dX11_want_75
    · rw [if_neg h15] at hm
      by_cases h23 : x2 = 2
      · rw [if_pos h23] at hm
        refine lv_tsIn (v := 2) h23 ?_
        refine lv_tableIn (tgt := 76) hx hb dX11_want_6 (by decide) (by decide) rfl (by decide) ?_
        refine lv_aload_n hx hb dX11_want_76 rfl (lv_at hl 0 rfl) ?_
        obtain ⟨q24, hq24, hm⟩ := hm
        have Tq24 : TY S_1 q24 7 := hw.wf.ref (k := 11) (j := 1) Ta0 (by decide) (by decide) hq24
        refine pg_rb (k := 11) (j := 1) (f := 1101) hx hb hown hU iu11 hw Ta0 (by decide) rfl (hU _ tw364) rfl hq24 dX11_want_77 ?_
        obtain ⟨q25, hq25, hm⟩ := hm
        have Tq25 : TY S_1 q25 1 := hw.wf.ref (k := 7) (j := 0) Tq24 (by decide) (by decide) hq25
        refine pgN_rb (k := 7) (j := 0) (f := 700) hx hb hown hU iu7 hw Tq24 (by decide) rfl 55 rfl rfl hq25 dX11_want_80 ?_
        obtain ⟨q26, hq26, hm⟩ := hm
        have Tq26 : TY S_1 q26 9 := hw.wf.ref (k := 1) (j := 1) Tq25 (by decide) (by decide) hq26
        refine pgN_rb (k := 1) (j := 1) (f := 101) hx hb hown hU iu1 hw Tq25 (by decide) rfl 32 rfl rfl hq26 dX11_want_83 ?_
        refine lv_iload_n hx hb dX11_want_86 rfl (lv_at hl 1 rfl) ?_
        refine lv_iconst (v := 2) hx hb dX11_want_87 (by decide) ?_
        obtain ⟨r29, S_27, hq28, hm⟩ := hm
        refine pw_ci (va_runVN (As := [.int x1, .int 2]) (rest := []) ⟨hx, hb, hml, hown, hU⟩ (c_X9_at l C X n S_1 hw.wf _ q26 x1 2 (Tq26) r29 S_27 hq28) ⟨va_cnB (host := "WickNights") 2 hU (pq_g1 tc_X9_at) rfl rfl rfl (hw.nw 157 rfl) (hU _ tw5) cd_X9_at.2 ⟨Nat.le_of_ble_eq_true rfl, Nat.le_of_ble_eq_true rfl⟩, hU _ tw719, hU _ ts32⟩ (pw_preV hw Tq26 (by decide) rfl) rfl rfl hl.1 rfl (lv_room (Nat.le_of_ble_eq_true rfl)) dX11_want_88 ⟨by show _ ≤ mc; omega, by show _ ≤ ms; omega⟩) hw (fun H locs hw hx30 => ?_)
        have Ta0 : TY S_27 a0 11 := ty_ext hx30 Ta0
        have hE : Ext S0 S_27 := Ext.tr hE hx30
        refine vx_ret ?_
        exact pw_wiret hx hb hr rfl hlk hw hE hm (by omega) (by omega) dX11_want_91
      · rw [if_neg h23] at hm
        by_cases h31 : x2 = 3
        · rw [if_pos h31] at hm
          refine lv_tsIn (v := 3) h31 ?_
          refine lv_tableIn (tgt := 92) hx hb dX11_want_6 (by decide) (by decide) rfl (by decide) ?_
          refine lv_aload_n hx hb dX11_want_92 rfl (lv_at hl 0 rfl) ?_
          obtain ⟨q32, hq32, hm⟩ := hm
          have Tq32 : TY S_1 q32 7 := hw.wf.ref (k := 11) (j := 1) Ta0 (by decide) (by decide) hq32
          refine pg_rb (k := 11) (j := 1) (f := 1101) hx hb hown hU iu11 hw Ta0 (by decide) rfl (hU _ tw364) rfl hq32 dX11_want_93 ?_
          obtain ⟨q33, hq33, hm⟩ := hm
          have Tq33 : TY S_1 q33 1 := hw.wf.ref (k := 7) (j := 0) Tq32 (by decide) (by decide) hq33
          refine pgN_rb (k := 7) (j := 0) (f := 700) hx hb hown hU iu7 hw Tq32 (by decide) rfl 55 rfl rfl hq33 dX11_want_96 ?_
          obtain ⟨q34, hq34, hm⟩ := hm
          have Tq34 : TY S_1 q34 9 := hw.wf.ref (k := 1) (j := 1) Tq33 (by decide) (by decide) hq34
          refine pgN_rb (k := 1) (j := 1) (f := 101) hx hb hown hU iu1 hw Tq33 (by decide) rfl 32 rfl rfl hq34 dX11_want_99 ?_
          refine lv_iload_n hx hb dX11_want_102 rfl (lv_at hl 1 rfl) ?_
          refine lv_iconst (v := 3) hx hb dX11_want_103 (by decide) ?_
          obtain ⟨r37, S_35, hq36, hm⟩ := hm
          refine pw_ci (va_runVN (As := [.int x1, .int 3]) (rest := []) ⟨hx, hb, hml, hown, hU⟩ (c_X9_at l C X n S_1 hw.wf _ q34 x1 3 (Tq34) r37 S_35 hq36) ⟨va_cnB (host := "WickNights") 2 hU (pq_g1 tc_X9_at) rfl rfl rfl (hw.nw 157 rfl) (hU _ tw5) cd_X9_at.2 ⟨Nat.le_of_ble_eq_true rfl, Nat.le_of_ble_eq_true rfl⟩, hU _ tw719, hU _ ts32⟩ (pw_preV hw Tq34 (by decide) rfl) rfl rfl hl.1 rfl (lv_room (Nat.le_of_ble_eq_true rfl)) dX11_want_104 ⟨by show _ ≤ mc; omega, by show _ ≤ ms; omega⟩) hw (fun H locs hw hx38 => ?_)
          have Ta0 : TY S_35 a0 11 := ty_ext hx38 Ta0
          have hE : Ext S0 S_35 := Ext.tr hE hx38
          refine vx_ret ?_
          exact pw_wiret hx hb hr rfl hlk hw hE hm (by omega) (by omega) dX11_want_107
        · rw [if_neg h31] at hm
          by_cases h39 : x2 = 4
          · rw [if_pos h39] at hm
            refine lv_tsIn (v := 4) h39 ?_
            refine lv_tableIn (tgt := 108) hx hb dX11_want_6 (by decide) (by decide) rfl (by decide) ?_
            refine lv_aload_n hx hb dX11_want_108 rfl (lv_at hl 0 rfl) ?_
            obtain ⟨q40, hq40, hm⟩ := hm
            have Tq40 : TY S_1 q40 7 := hw.wf.ref (k := 11) (j := 1) Ta0 (by decide) (by decide) hq40
            refine pg_rb (k := 11) (j := 1) (f := 1101) hx hb hown hU iu11 hw Ta0 (by decide) rfl (hU _ tw364) rfl hq40 dX11_want_109 ?_
            obtain ⟨q41, hq41, hm⟩ := hm
            have Tq41 : TY S_1 q41 8 := hw.wf.ref (k := 7) (j := 1) Tq40 (by decide) (by decide) hq41
            refine pgN_rb (k := 7) (j := 1) (f := 701) hx hb hown hU iu7 hw Tq40 (by decide) rfl 59 rfl rfl hq41 dX11_want_112 ?_
            obtain ⟨q42, hq42, hm⟩ := hm
            have Tq42 : TY S_1 q42 9 := hw.wf.ref (k := 8) (j := 1) Tq41 (by decide) (by decide) hq42
            refine pgN_rb (k := 8) (j := 1) (f := 801) hx hb hown hU iu8 hw Tq41 (by decide) rfl 46 rfl rfl hq42 dX11_want_115 ?_
            refine lv_iload_n hx hb dX11_want_118 rfl (lv_at hl 1 rfl) ?_
            refine lv_iconst (v := 0) hx hb dX11_want_119 (by decide) ?_
            obtain ⟨r45, S_43, hq44, hm⟩ := hm
            refine pw_ci (va_runVN (As := [.int x1, .int 0]) (rest := []) ⟨hx, hb, hml, hown, hU⟩ (c_X9_at l C X n S_1 hw.wf _ q42 x1 0 (Tq42) r45 S_43 hq44) ⟨va_cnB (host := "WickNights") 2 hU (pq_g1 tc_X9_at) rfl rfl rfl (hw.nw 157 rfl) (hU _ tw5) cd_X9_at.2 ⟨Nat.le_of_ble_eq_true rfl, Nat.le_of_ble_eq_true rfl⟩, hU _ tw719, hU _ ts32⟩ (pw_preV hw Tq42 (by decide) rfl) rfl rfl hl.1 rfl (lv_room (Nat.le_of_ble_eq_true rfl)) dX11_want_120 ⟨by show _ ≤ mc; omega, by show _ ≤ ms; omega⟩) hw (fun H locs hw hx46 => ?_)
            have Ta0 : TY S_43 a0 11 := ty_ext hx46 Ta0
            have hE : Ext S0 S_43 := Ext.tr hE hx46
            refine vx_ret ?_
            exact pw_wiret hx hb hr rfl hlk hw hE hm (by omega) (by omega) dX11_want_123
          · rw [if_neg h39] at hm
            by_cases h47 : x2 = 5
            · rw [if_pos h47] at hm
              refine lv_tsIn (v := 5) h47 ?_
              refine lv_tableIn (tgt := 124) hx hb dX11_want_6 (by decide) (by decide) rfl (by decide) ?_
              refine lv_aload_n hx hb dX11_want_124 rfl (lv_at hl 0 rfl) ?_
              obtain ⟨q48, hq48, hm⟩ := hm
              have Tq48 : TY S_1 q48 7 := hw.wf.ref (k := 11) (j := 1) Ta0 (by decide) (by decide) hq48
              refine pg_rb (k := 11) (j := 1) (f := 1101) hx hb hown hU iu11 hw Ta0 (by decide) rfl (hU _ tw364) rfl hq48 dX11_want_125 ?_
              obtain ⟨q49, hq49, hm⟩ := hm
              have Tq49 : TY S_1 q49 8 := hw.wf.ref (k := 7) (j := 1) Tq48 (by decide) (by decide) hq49
              refine pgN_rb (k := 7) (j := 1) (f := 701) hx hb hown hU iu7 hw Tq48 (by decide) rfl 59 rfl rfl hq49 dX11_want_128 ?_
              obtain ⟨q50, hq50, hm⟩ := hm
              have Tq50 : TY S_1 q50 9 := hw.wf.ref (k := 8) (j := 1) Tq49 (by decide) (by decide) hq50
              refine pgN_rb (k := 8) (j := 1) (f := 801) hx hb hown hU iu8 hw Tq49 (by decide) rfl 46 rfl rfl hq50 dX11_want_131 ?_
              refine lv_iload_n hx hb dX11_want_134 rfl (lv_at hl 1 rfl) ?_
              refine lv_iconst (v := 1) hx hb dX11_want_135 (by decide) ?_
              obtain ⟨r53, S_51, hq52, hm⟩ := hm
              refine pw_ci (va_runVN (As := [.int x1, .int 1]) (rest := []) ⟨hx, hb, hml, hown, hU⟩ (c_X9_at l C X n S_1 hw.wf _ q50 x1 1 (Tq50) r53 S_51 hq52) ⟨va_cnB (host := "WickNights") 2 hU (pq_g1 tc_X9_at) rfl rfl rfl (hw.nw 157 rfl) (hU _ tw5) cd_X9_at.2 ⟨Nat.le_of_ble_eq_true rfl, Nat.le_of_ble_eq_true rfl⟩, hU _ tw719, hU _ ts32⟩ (pw_preV hw Tq50 (by decide) rfl) rfl rfl hl.1 rfl (lv_room (Nat.le_of_ble_eq_true rfl)) dX11_want_136 ⟨by show _ ≤ mc; omega, by show _ ≤ ms; omega⟩) hw (fun H locs hw hx54 => ?_)
              have Ta0 : TY S_51 a0 11 := ty_ext hx54 Ta0
              have hE : Ext S0 S_51 := Ext.tr hE hx54
              refine vx_ret ?_
              exact pw_wiret hx hb hr rfl hlk hw hE hm (by omega) (by omega) dX11_want_139
            · rw [if_neg h47] at hm
              refine lv_tableOut (tgt := 140) hx hb dX11_want_6 (ts_out (lo := 0) (hi := 5) (fun j hj1 hj2 => ?_)) (by decide) ?_
              · have hj : j = 0 ∨ j = 1 ∨ j = 2 ∨ j = 3 ∨ j = 4 ∨ j = 5 := by clear hm; omega
                rcases hj with rfl | rfl | rfl | rfl | rfl | rfl
                · exact h7
                · exact h15
                · exact h23
                · exact h31
                · exact h39
                · exact h47
              refine lv_aload_n hx hb dX11_want_140 rfl (lv_at hl 0 rfl) ?_
              refine lv_iconst (v := 0) hx hb dX11_want_141 (by decide) ?_
              obtain ⟨c56, s57, hb58, hb59, hm⟩ := hm
              refine px_v (vx_runV (As := [.int 0]) (rest := []) ⟨hx, hb, hml, hown, hU⟩ (cw_X11_need l C X n S_1 hw.wf _ a0 0 (Ta0) c56 s57 hst E _ hm) (cwV 1 hU (pq_gV tw490 tw492 ts7 tw1 tc_X11_need) rfl rfl rfl cd_X11_need ⟨Nat.le_of_ble_eq_true rfl, Nat.le_of_ble_eq_true rfl⟩) (pw_preV hw Ta0 (by decide) rfl) rfl rfl hl.1 rfl (lv_room (Nat.le_of_ble_eq_true rfl)) dX11_want_142 ⟨by show _ ≤ mc; omega, by show _ ≤ ms; omega⟩) hw hE hno hlk (by omega) (by omega) (fun S_55 H locs hm hw hx60 => ?_)
              have Ta0 : TY S_55 a0 11 := ty_ext hx60 Ta0
              have hE : Ext S0 S_55 := Ext.tr hE hx60
              refine W.widen (k := c2 + c56) (n := s3 + s57) (by omega) (by omega) ?_
              have hcc : c2 + c56 + (mc - (c2 + c56)) ≤ mc := by omega
              have hss : s3 + s57 + (ms - (s3 + s57)) ≤ ms := by omega
              refine lv_iconst (v := (-1)) hx hb dX11_want_145 (by decide) ?_
              refine vx_ret ?_
              exact pw_wiret hx hb hr rfl hlk hw hE hm (by omega) (by omega) dX11_want_146
