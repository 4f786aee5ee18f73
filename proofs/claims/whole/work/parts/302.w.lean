abbrev rw_X11_bright (mc ms : Nat) : Room := { frames := 7, cells := mc, slots := ms, locals := 110 }
def wp_X11_bright (n : Nat) (a0 : Nat) (x1 : Int32) (S0 : pq_S) (mc ms : Nat) (E : (Nat → pq_S → Prop)) (Q : (Int32 → pq_S → Prop)) : Prop := ∃ r3 S_1, m_X11_isDay n x1 S0 = some (r3, S_1) ∧ (∃ c7 s8 : Nat, c7 ≤ mc ∧ s8 ≤ ms ∧ wp_X11_need n a0 r3 S_1 c7 s8 E (fun S_6 => ∃ q12 : Nat, (pR S_6 1101 a0) = some q12 ∧ (∃ q13 : Nat, (pR S_6 700 q12) = some q13 ∧ (∃ q14 : Nat, (pR S_6 1101 a0) = some q14 ∧ (∃ q15 : Nat, (pR S_6 700 q14) = some q15 ∧ (∃ q16 : Nat, (pR S_6 103 q15) = some q16 ∧ (∃ r19 S_17, m_X1_firstDay n q13 x1 (((1 : Int32) <<< ((pI S_6 902 q16) &&& (31 : Int32))) - (1 : Int32)) S_6 = some (r19, S_17) ∧ (Q r19 S_17))))))))
theorem tc_X11_bright : Cond.code yX11_bright cX11_bright 2 (some .int) ∈ pq_U := tw1390
theorem cd_X11_bright : yX11_bright.cls = RX11 ∧ yX11_bright.cls ≠ "java/lang/invoke/MethodHandle" ∧ yX11_bright.cls ≠ "java/lang/invoke/VarHandle" ∧ (parseMethodDescriptor yX11_bright.desc).map (fun d => d.parameters.length) = some 1 := by decide +kernel
set_option maxHeartbeats 4000000 in
set_option maxRecDepth 100000 in
theorem cw_X11_bright (l : Launch) (C : pq_C) (X : va_W) (n : Nat) (S0 : pq_S) (hF : WF S0) (sz : Nat) (a0 : Nat) (x1 : Int32) (Ta0 : TY S0 a0 11) (mc ms : Nat) (hst : l.stackTraces = false) (E : (Nat → pq_S → Prop)) (Q : (Int32 → pq_S → Prop)) (hm : wp_X11_bright n a0 x1 S0 mc ms E Q) : vx_Met l yX11_bright (.code yX11_bright cX11_bright 2 (some .int) :: pq_U) (rw_X11_bright mc ms) (va_Pc [.ref a0, .int x1] (CPre C X S0 sz)) (QwI C X S0 sz Q) (XcP C X S0 sz E) mc ms (pq_F C X S0 sz) := by
  refine vx_ofW (cc := cX11_bright) (maxL := 2) (ret := (some .int)) (by decide) rfl ?_
  intro p e s m args below meth c s₁ B hml hno hv
  obtain ⟨rfl, hv⟩ := hv
  have hsz := hv.1
  subst hsz
  have hw := pw_entry hF hv
  have hts := atoms_spec (ws := .code yX11_bright cX11_bright 2 (some .int) :: pq_U) B.pre
  have hU : ∀ w ∈ pq_U, w.before _ s = true := fun w h => hts w (List.mem_cons_of_mem _ h)
  have hx := B.exec
  have hb := B.bytes
  have hr := B.returns
  have hown : s.vm.findClass RX11 = some m.cls := findClass_of_methodNamed B.named
  have hlk := B.notSynchronized
  have hl := lv_entry ([.ref a0, .int x1]) (n := 2) (Nat.le_of_ble_eq_true rfl)
  rw [lg_entry_eq]
  generalize (lg_sl ([.ref a0, .int x1]) ++ List.replicate (2 - (lg_sl ([.ref a0, .int x1])).length) Slot.unset).toArray = ls at hl ⊢
  have hl : lv_has ls 2 [(0, .ref a0), (1, .int x1)] := hl
  have hE : Ext S0 S0 := Ext.rf _
  have cx : Cx p s m _ meth c cX11_bright 2 RX11 (some .int) := ⟨hx, hb, hml, hown, hU, hr, hlk⟩
  have hcc : 0 + mc ≤ mc := by omega
  have hss : 0 + ms ≤ ms := by omega
  rw [wp_X11_bright] at hm
  refine lv_aload_n hx hb dX11_bright_0 rfl (lv_at hl 0 rfl) ?_
  refine lv_iload_n hx hb dX11_bright_1 rfl (lv_at hl 1 rfl) ?_
  obtain ⟨r3, S_1, hq2, hm⟩ := hm
  refine pw_cz (va_runS (As := [.int x1]) (rest := [.ref a0]) ⟨hx, hb, hml, hown, hU⟩ (c_X11_isDay l C X n S0 hw.wf _ x1  r3 S_1 hq2) ⟨callB_of 1 hU (pq_g1 tc_X11_isDay) rfl rfl rfl (hU _ tw1) (hU _ tw1365) cd_X11_isDay.2 ⟨Nat.le_of_ble_eq_true rfl, Nat.le_of_ble_eq_true rfl⟩, hU _ tw1366⟩ (pw_preS hw) rfl rfl hl.1 rfl (lv_room (Nat.le_of_ble_eq_true rfl)) dX11_bright_2 ⟨by show _ ≤ mc; omega, by show _ ≤ ms; omega⟩) hw (fun H locs hw hx4 hz5 => ?_)
  have Ta0 : TY S_1 a0 11 := ty_ext hx4 Ta0
  have hE : Ext S0 S_1 := Ext.tr hE hx4
  obtain ⟨c7, s8, hb9, hb10, hm⟩ := hm
  refine px_v (vx_runV (As := [.int r3]) (rest := []) ⟨hx, hb, hml, hown, hU⟩ (cw_X11_need l C X n S_1 hw.wf _ a0 r3 (Ta0) c7 s8 hst E _ hm) (cwV 1 hU (pq_gV tw490 tw492 ts7 tw1 tc_X11_need) rfl rfl rfl cd_X11_need ⟨Nat.le_of_ble_eq_true rfl, Nat.le_of_ble_eq_true rfl⟩) (pw_preV hw Ta0 (by decide) rfl) rfl rfl hl.1 rfl (lv_room (Nat.le_of_ble_eq_true rfl)) dX11_bright_5 ⟨by show _ ≤ mc; omega, by show _ ≤ ms; omega⟩) hw hE hno hlk (by omega) (by omega) (fun S_6 H locs hm hw hx11 => ?_)
  have Ta0 : TY S_6 a0 11 := ty_ext hx11 Ta0
  have hE : Ext S0 S_6 := Ext.tr hE hx11
  refine W.widen (k := c7) (n := s8) (by omega) (by omega) ?_
  have hcc : c7 + (mc - (c7)) ≤ mc := by omega
  have hss : s8 + (ms - (s8)) ≤ ms := by omega
  refine lv_aload_n hx hb dX11_bright_8 rfl (lv_at hl 0 rfl) ?_
  obtain ⟨q12, hq12, hm⟩ := hm
  have Tq12 : TY S_6 q12 7 := hw.wf.ref (k := 11) (j := 1) Ta0 (by decide) (by decide) hq12
  refine pg_rb (k := 11) (j := 1) (f := 1101) hx hb hown hU iu11 hw Ta0 (by decide) rfl (hU _ tw364) rfl hq12 dX11_bright_9 ?_
  obtain ⟨q13, hq13, hm⟩ := hm
  have Tq13 : TY S_6 q13 1 := hw.wf.ref (k := 7) (j := 0) Tq12 (by decide) (by decide) hq13
  refine pgN_rb (k := 7) (j := 0) (f := 700) hx hb hown hU iu7 hw Tq12 (by decide) rfl 55 rfl rfl hq13 dX11_bright_12 ?_
  refine lv_iload_n hx hb dX11_bright_15 rfl (lv_at hl 1 rfl) ?_
  refine lv_iconst (v := 1) hx hb dX11_bright_16 (by decide) ?_
  refine lv_aload_n hx hb dX11_bright_17 rfl (lv_at hl 0 rfl) ?_
  obtain ⟨q14, hq14, hm⟩ := hm
  have Tq14 : TY S_6 q14 7 := hw.wf.ref (k := 11) (j := 1) Ta0 (by decide) (by decide) hq14
  refine pg_rb (k := 11) (j := 1) (f := 1101) hx hb hown hU iu11 hw Ta0 (by decide) rfl (hU _ tw364) rfl hq14 dX11_bright_18 ?_
  obtain ⟨q15, hq15, hm⟩ := hm
  have Tq15 : TY S_6 q15 1 := hw.wf.ref (k := 7) (j := 0) Tq14 (by decide) (by decide) hq15
  refine pgN_rb (k := 7) (j := 0) (f := 700) hx hb hown hU iu7 hw Tq14 (by decide) rfl 55 rfl rfl hq15 dX11_bright_21 ?_
  obtain ⟨q16, hq16, hm⟩ := hm
  have Tq16 : TY S_6 q16 9 := hw.wf.ref (k := 1) (j := 3) Tq15 (by decide) (by decide) hq16
  refine pgN_rb (k := 1) (j := 3) (f := 103) hx hb hown hU iu1 hw Tq15 (by decide) rfl 37 rfl rfl hq16 dX11_bright_24 ?_
  refine pgN_i (k := 9) (j := 2) (f := 902) hx hb hown hU iu9 hw Tq16 (by decide) rfl 14 rfl rfl dX11_bright_27 ?_
  refine lv_ishl hx hb dX11_bright_30 ?_
  refine lv_iconst (v := 1) hx hb dX11_bright_31 (by decide) ?_
  refine lv_isub hx hb dX11_bright_32 ?_
  obtain ⟨r19, S_17, hq18, hm⟩ := hm
  refine pw_ci (va_runVN (As := [.int x1, .int (((1 : Int32) <<< ((pI S_6 902 q16) &&& (31 : Int32))) - (1 : Int32))]) (rest := []) ⟨hx, hb, hml, hown, hU⟩ (c_X1_firstDay l C X n S_6 hw.wf _ q13 x1 (((1 : Int32) <<< ((pI S_6 902 q16) &&& (31 : Int32))) - (1 : Int32)) (Tq13) r19 S_17 hq18) ⟨va_cnB (host := "WickNights") 2 hU (pq_g1 tc_X1_firstDay) rfl rfl rfl (hw.nw 183 rfl) (hU _ tw4) cd_X1_firstDay.2 ⟨Nat.le_of_ble_eq_true rfl, Nat.le_of_ble_eq_true rfl⟩, hU _ tw1381, hU _ ts115⟩ (pw_preV hw Tq13 (by decide) rfl) rfl rfl hl.1 rfl (lv_room (Nat.le_of_ble_eq_true rfl)) dX11_bright_33 ⟨by show _ ≤ mc; omega, by show _ ≤ ms; omega⟩) hw (fun H locs hw hx20 => ?_)
  have Ta0 : TY S_17 a0 11 := ty_ext hx20 Ta0
  have hE : Ext S0 S_17 := Ext.tr hE hx20
  refine vx_ret ?_
  exact pw_wiret hx hb hr rfl hlk hw hE hm (by omega) (by omega) dX11_bright_36
abbrev rw_X11_darks (mc ms : Nat) : Room := { frames := 7, cells := mc, slots := ms, locals := 110 }
def pb_X11_darks_57 (n : Nat) (k18 : Nat → Int32 → Int32 → Int32 → pq_S → Nat → Nat → (Nat → pq_S → Prop) → (Int32 → pq_S → Prop) → Prop) (a0 : Nat) (x2 : Int32) (x3 : Int32) (x4 : Int32) (S : pq_S) (bc bs : Nat) (E : (Nat → pq_S → Prop)) (Q : (Int32 → pq_S → Prop)) : Prop := k18 a0 x2 x3 (x4 + 1) S bc bs E Q
set_option maxHeartbeats 4000000 in
set_option maxRecDepth 100000 in
theorem wpb_X11_darks_57 {p : Program} {l : Launch} {e : Env} {s : State} {m : MethodId} {args : Array Value} {below : List Frame} {meth : Method} {c : Code} (cx : Cx p s m args meth c cX11_darks 5 RX11 (some .int)) (hno : ∀ x ∈ c.exceptionTable.toList, False) (C : pq_C) (X : va_W) (S0 : pq_S) (n : Nat) (hst : l.stackTraces = false) (E : (Nat → pq_S → Prop)) (Q : (Int32 → pq_S → Prop)) (mc ms : Nat) (k18 : Nat → Int32 → Int32 → Int32 → pq_S → Nat → Nat → (Nat → pq_S → Prop) → (Int32 → pq_S → Prop) → Prop) (hk18 : ∀ (a0 : Nat) (x2 : Int32) (x3 : Int32) (x4 : Int32) (S : pq_S) (H : Heap) (locs : List Loc) (ls : Array Slot) (cells slots bc bs : Nat), cells + bc ≤ mc → slots + bs ≤ ms → PW C X S (pq_F C X S0 s.heap.size) H locs s → Ext S0 S → TY S a0 11 → lv_has ls 5 [(0, .ref a0), (2, .int x2), (3, .int x3), (4, .int x4)] → k18 a0 x2 x3 x4 S bc bs E Q → W p l e (rw_X11_darks mc ms) s m args below meth c H locs cells slots (vx_MQ below (QwI C X S0 s.heap.size Q) (XcP C X S0 s.heap.size E) args s mc ms (pq_F C X S0 s.heap.size)) (F0 m 33 ls [])) : ∀ (a0 : Nat) (x2 : Int32) (x3 : Int32) (x4 : Int32) (S : pq_S) (H : Heap) (locs : List Loc) (ls : Array Slot) (cells slots bc bs : Nat), cells + bc ≤ mc → slots + bs ≤ ms → PW C X S (pq_F C X S0 s.heap.size) H locs s → Ext S0 S → TY S a0 11 → lv_has ls 5 [(0, .ref a0), (2, .int x2), (3, .int x3), (4, .int x4)] → pb_X11_darks_57 n k18 a0 x2 x3 x4 S bc bs E Q → W p l e (rw_X11_darks mc ms) s m args below meth c H locs cells slots (vx_MQ below (QwI C X S0 s.heap.size Q) (XcP C X S0 s.heap.size E) args s mc ms (pq_F C X S0 s.heap.size)) (F0 m 57 ls []) := by
  obtain ⟨hx, hb, hml, hown, hU, hr, hlk⟩ := id cx
  intro a0 x2 x3 x4 S H locs ls cells slots bc bs hcc hss hw hE Ta0 hl hm
  rw [pb_X11_darks_57] at hm
  refine lv_iinc (v := (x4 + 1)) (lv' := [(4, .int (x4 + 1)), (0, .ref a0), (2, .int x2), (3, .int x3)]) hx hb dX11_darks_57 hl (k := 3) rfl rfl (by decide) rfl (fun ls hl => ?_)
  refine lv_goto (tgt := 33) hx hb dX11_darks_60 (by decide) ?_
  exact hk18 a0 x2 x3 (x4 + 1) S _ _ _ (cells) (slots) bc bs hcc hss hw hE Ta0 (lv_sub hl [1, 2, 3, 0] rfl) hm
def pb_X11_darks_33 (n : Nat) : Nat → Nat → Int32 → Int32 → Int32 → pq_S → Nat → Nat → (Nat → pq_S → Prop) → (Int32 → pq_S → Prop) → Prop
  | 0, _, _, _, _, _, _, _, _, _ => False
  | f + 1, a0, x2, x3, x4, S, bc, bs, E, Q => if x2 < x4 then Q x3 S else ∃ q21 : Nat, (pR S 1101 a0) = some q21 ∧ (∃ q22 : Nat, (pR S 700 q21) = some q22 ∧ (∃ r25 S_23, m_X1_moonsOn n q22 x4 S = some (r25, S_23) ∧ (if r25 = 0 then pb_X11_darks_57 n (pb_X11_darks_33 n f) a0 x2 (x3 + 1) x4 S_23 bc bs E Q else pb_X11_darks_57 n (pb_X11_darks_33 n f) a0 x2 x3 x4 S_23 bc bs E Q)))
set_option maxHeartbeats 4000000 in
set_option maxRecDepth 100000 in
theorem wpb_X11_darks_33 {p : Program} {l : Launch} {e : Env} {s : State} {m : MethodId} {args : Array Value} {below : List Frame} {meth : Method} {c : Code} (cx : Cx p s m args meth c cX11_darks 5 RX11 (some .int)) (hno : ∀ x ∈ c.exceptionTable.toList, False) (C : pq_C) (X : va_W) (S0 : pq_S) (n : Nat) (hst : l.stackTraces = false) (E : (Nat → pq_S → Prop)) (Q : (Int32 → pq_S → Prop)) (mc ms : Nat) : ∀ (f : Nat) (a0 : Nat) (x2 : Int32) (x3 : Int32) (x4 : Int32) (S : pq_S) (H : Heap) (locs : List Loc) (ls : Array Slot) (cells slots bc bs : Nat), cells + bc ≤ mc → slots + bs ≤ ms → PW C X S (pq_F C X S0 s.heap.size) H locs s → Ext S0 S → TY S a0 11 → lv_has ls 5 [(0, .ref a0), (2, .int x2), (3, .int x3), (4, .int x4)] → pb_X11_darks_33 n f a0 x2 x3 x4 S bc bs E Q → W p l e (rw_X11_darks mc ms) s m args below meth c H locs cells slots (vx_MQ below (QwI C X S0 s.heap.size Q) (XcP C X S0 s.heap.size E) args s mc ms (pq_F C X S0 s.heap.size)) (F0 m 33 ls []) := by
  obtain ⟨hx, hb, hml, hown, hU, hr, hlk⟩ := id cx
  intro f
  induction f with
  | zero =>
    intro a0 x2 x3 x4 S H locs ls cells slots bc bs hcc hss hw hE Ta0 hl hm
    exact hm.elim
  | succ f ih =>
    intro a0 x2 x3 x4 S H locs ls cells slots bc bs hcc hss hw hE Ta0 hl hm
    rw [pb_X11_darks_33] at hm
    refine lv_iload hx hb dX11_darks_33 (lv_at hl 3 rfl) ?_
    refine lv_iload_n hx hb dX11_darks_35 rfl (lv_at hl 1 rfl) ?_
    refine lv_icmp_gt (tgt := 63) hx hb dX11_darks_36 (by decide) (fun h20 => ?_) (fun h20 => ?_)
    · rw [if_pos h20] at hm
      refine lv_iload_n hx hb dX11_darks_63 rfl (lv_at hl 2 rfl) ?_
      refine vx_ret ?_
      exact pw_wiret hx hb hr rfl hlk hw hE hm (by omega) (by omega) dX11_darks_64
    · rw [if_neg h20] at hm
      refine lv_aload_n hx hb dX11_darks_39 rfl (lv_at hl 0 rfl) ?_
      obtain ⟨q21, hq21, hm⟩ := hm
      have Tq21 : TY S q21 7 := hw.wf.ref (k := 11) (j := 1) Ta0 (by decide) (by decide) hq21
      refine pg_rb (k := 11) (j := 1) (f := 1101) hx hb hown hU iu11 hw Ta0 (by decide) rfl (hU _ tw364) rfl hq21 dX11_darks_40 ?_
      obtain ⟨q22, hq22, hm⟩ := hm
      have Tq22 : TY S q22 1 := hw.wf.ref (k := 7) (j := 0) Tq21 (by decide) (by decide) hq22
      refine pgN_rb (k := 7) (j := 0) (f := 700) hx hb hown hU iu7 hw Tq21 (by decide) rfl 55 rfl rfl hq22 dX11_darks_43 ?_
      refine lv_iload hx hb dX11_darks_46 (lv_at hl 3 rfl) ?_
      obtain ⟨r25, S_23, hq24, hm⟩ := hm
      refine pw_ci (va_runVN (As := [.int x4]) (rest := []) ⟨hx, hb, hml, hown, hU⟩ (c_X1_moonsOn l C X n S hw.wf _ q22 x4 (Tq22) r25 S_23 hq24) ⟨va_cnB (host := "WickNights") 1 hU (pq_g1 tc_X1_moonsOn) rfl rfl rfl (hw.nw 182 rfl) (hU _ tw4) cd_X1_moonsOn.2 ⟨Nat.le_of_ble_eq_true rfl, Nat.le_of_ble_eq_true rfl⟩, hU _ tw1370, hU _ ts114⟩ (pw_preV hw Tq22 (by decide) rfl) rfl rfl hl.1 rfl (lv_room (Nat.le_of_ble_eq_true rfl)) dX11_darks_48 ⟨by show _ ≤ mc; omega, by show _ ≤ ms; omega⟩) hw (fun H locs hw hx26 => ?_)
      have Ta0 : TY S_23 a0 11 := ty_ext hx26 Ta0
      have hE : Ext S0 S_23 := Ext.tr hE hx26
      refine lv_if_ne (tgt := 57) hx hb dX11_darks_51 (by decide) (fun h27 => ?_) (fun h27 => ?_)
      · rw [if_neg h27] at hm
        exact wpb_X11_darks_57 cx hno C X S0 n hst E Q mc ms _ ih a0 x2 x3 x4 S_23 _ _ _ (cells) (slots) bc bs hcc hss hw hE Ta0 (lv_sub hl [0, 1, 2, 3] rfl) hm
      · rw [if_pos h27] at hm
        refine lv_iinc (v := (x3 + 1)) (lv' := [(3, .int (x3 + 1)), (0, .ref a0), (2, .int x2), (4, .int x4)]) hx hb dX11_darks_54 hl (k := 2) rfl rfl (by decide) rfl (fun ls hl => ?_)
        exact wpb_X11_darks_57 cx hno C X S0 n hst E Q mc ms _ ih a0 x2 (x3 + 1) x4 S_23 _ _ _ (cells) (slots) bc bs hcc hss hw hE Ta0 (lv_sub hl [1, 2, 0, 3] rfl) hm
def pb_X11_darks_25 (n : Nat) (a0 : Nat) (x1 : Int32) (x2 : Int32) (b0 : Nat) (z1 : Int32) (S : pq_S) (bc bs : Nat) (E : (Nat → pq_S → Prop)) (Q : (Int32 → pq_S → Prop)) : Prop := ∃ c15 s16 : Nat, c15 ≤ bc ∧ s16 ≤ bs ∧ wp_X11_need n b0 z1 S c15 s16 E (fun S_14 => pb_X11_darks_33 n n a0 x2 0 x1 S_14 (bc - (c15)) (bs - (s16)) E Q)
set_option maxHeartbeats 4000000 in
set_option maxRecDepth 100000 in
theorem wpb_X11_darks_25 {p : Program} {l : Launch} {e : Env} {s : State} {m : MethodId} {args : Array Value} {below : List Frame} {meth : Method} {c : Code} (cx : Cx p s m args meth c cX11_darks 5 RX11 (some .int)) (hno : ∀ x ∈ c.exceptionTable.toList, False) (C : pq_C) (X : va_W) (S0 : pq_S) (n : Nat) (hst : l.stackTraces = false) (E : (Nat → pq_S → Prop)) (Q : (Int32 → pq_S → Prop)) (mc ms : Nat) : ∀ (a0 : Nat) (x1 : Int32) (x2 : Int32) (b0 : Nat) (z1 : Int32) (S : pq_S) (H : Heap) (locs : List Loc) (ls : Array Slot) (cells slots bc bs : Nat), cells + bc ≤ mc → slots + bs ≤ ms → PW C X S (pq_F C X S0 s.heap.size) H locs s → Ext S0 S → TY S a0 11 → TY S b0 11 → lv_has ls 5 [(0, .ref a0), (1, .int x1), (2, .int x2)] → pb_X11_darks_25 n a0 x1 x2 b0 z1 S bc bs E Q → W p l e (rw_X11_darks mc ms) s m args below meth c H locs cells slots (vx_MQ below (QwI C X S0 s.heap.size Q) (XcP C X S0 s.heap.size E) args s mc ms (pq_F C X S0 s.heap.size)) (F0 m 25 ls [.int z1, .ref b0]) := by
  obtain ⟨hx, hb, hml, hown, hU, hr, hlk⟩ := id cx
  intro a0 x1 x2 b0 z1 S H locs ls cells slots bc bs hcc hss hw hE Ta0 Tb0 hl hm
  rw [pb_X11_darks_25] at hm
  obtain ⟨c15, s16, hb17, hb18, hm⟩ := hm
  refine px_v (vx_runV (As := [.int z1]) (rest := []) ⟨hx, hb, hml, hown, hU⟩ (cw_X11_need l C X n S hw.wf _ b0 z1 (Tb0) c15 s16 hst E _ hm) (cwV 1 hU (pq_gV tw490 tw492 ts7 tw1 tc_X11_need) rfl rfl rfl cd_X11_need ⟨Nat.le_of_ble_eq_true rfl, Nat.le_of_ble_eq_true rfl⟩) (pw_preV hw Tb0 (by decide) rfl) rfl rfl hl.1 rfl (lv_room (Nat.le_of_ble_eq_true rfl)) dX11_darks_25 ⟨by show _ ≤ mc; omega, by show _ ≤ ms; omega⟩) hw hE hno hlk (by omega) (by omega) (fun S_14 H locs hm hw hx19 => ?_)
  have Ta0 : TY S_14 a0 11 := ty_ext hx19 Ta0
  have hE : Ext S0 S_14 := Ext.tr hE hx19
  refine W.widen (k := cells + (c15)) (n := slots + (s16)) (by omega) (by omega) ?_
  have hcc : cells + (c15) + (bc - (c15)) ≤ mc := by omega
  have hss : slots + (s16) + (bs - (s16)) ≤ ms := by omega
  refine lv_iconst (v := 0) hx hb dX11_darks_28 (by decide) ?_
  refine lv_istore_n (lv' := [(3, .int 0), (0, .ref a0), (1, .int x1), (2, .int x2)]) hx hb dX11_darks_29 rfl hl (by decide) rfl (fun ls hl => ?_)
  refine lv_iload_n hx hb dX11_darks_30 rfl (lv_at hl 2 rfl) ?_
  refine lv_istore (lv' := [(4, .int x1), (3, .int 0), (0, .ref a0), (1, .int x1), (2, .int x2)]) hx hb dX11_darks_31 hl (by decide) rfl (fun ls hl => ?_)
  exact wpb_X11_darks_33 cx hno C X S0 n hst E Q mc ms n a0 x2 0 x1 S_14 _ _ _ (cells + (c15)) (slots + (s16)) (bc - (c15)) (bs - (s16)) hcc hss hw hE Ta0 (lv_sub hl [2, 4, 1, 0] rfl) hm
def pb_X11_darks_24 (n : Nat) (a0 : Nat) (x1 : Int32) (x2 : Int32) (b0 : Nat) (S : pq_S) (bc bs : Nat) (E : (Nat → pq_S → Prop)) (Q : (Int32 → pq_S → Prop)) : Prop := pb_X11_darks_25 n a0 x1 x2 b0 0 S bc bs E Q
set_option maxHeartbeats 4000000 in
set_option maxRecDepth 100000 in
theorem wpb_X11_darks_24 {p : Program} {l : Launch} {e : Env} {s : State} {m : MethodId} {args : Array Value} {below : List Frame} {meth : Method} {c : Code} (cx : Cx p s m args meth c cX11_darks 5 RX11 (some .int)) (hno : ∀ x ∈ c.exceptionTable.toList, False) (C : pq_C) (X : va_W) (S0 : pq_S) (n : Nat) (hst : l.stackTraces = false) (E : (Nat → pq_S → Prop)) (Q : (Int32 → pq_S → Prop)) (mc ms : Nat) : ∀ (a0 : Nat) (x1 : Int32) (x2 : Int32) (b0 : Nat) (S : pq_S) (H : Heap) (locs : List Loc) (ls : Array Slot) (cells slots bc bs : Nat), cells + bc ≤ mc → slots + bs ≤ ms → PW C X S (pq_F C X S0 s.heap.size) H locs s → Ext S0 S → TY S a0 11 → TY S b0 11 → lv_has ls 5 [(0, .ref a0), (1, .int x1), (2, .int x2)] → pb_X11_darks_24 n a0 x1 x2 b0 S bc bs E Q → W p l e (rw_X11_darks mc ms) s m args below meth c H locs cells slots (vx_MQ below (QwI C X S0 s.heap.size Q) (XcP C X S0 s.heap.size E) args s mc ms (pq_F C X S0 s.heap.size)) (F0 m 24 ls [.ref b0]) := by
  obtain ⟨hx, hb, hml, hown, hU, hr, hlk⟩ := id cx
  intro a0 x1 x2 b0 S H locs ls cells slots bc bs hcc hss hw hE Ta0 Tb0 hl hm
  rw [pb_X11_darks_24] at hm
  refine lv_iconst (v := 0) hx hb dX11_darks_24 (by decide) ?_
  exact wpb_X11_darks_25 cx hno C X S0 n hst E Q mc ms a0 x1 x2 b0 0 S _ _ _ (cells) (slots) bc bs hcc hss hw hE Ta0 Tb0 (lv_sub hl [0, 1, 2] rfl) hm
def wp_X11_darks (n : Nat) (a0 : Nat) (x1 : Int32) (x2 : Int32) (S0 : pq_S) (mc ms : Nat) (E : (Nat → pq_S → Prop)) (Q : (Int32 → pq_S → Prop)) : Prop := ∃ r3 S_1, m_X11_isDay n x1 S0 = some (r3, S_1) ∧ (if r3 = 0 then pb_X11_darks_24 n a0 x1 x2 a0 S_1 mc ms E Q else ∃ r9 S_7, m_X11_isDay n x2 S_1 = some (r9, S_7) ∧ (if r9 = 0 then pb_X11_darks_24 n a0 x1 x2 a0 S_7 mc ms E Q else if x2 < x1 then pb_X11_darks_24 n a0 x1 x2 a0 S_7 mc ms E Q else pb_X11_darks_25 n a0 x1 x2 a0 1 S_7 mc ms E Q))
theorem tc_X11_darks : Cond.code yX11_darks cX11_darks 5 (some .int) ∈ pq_U := tw1397
theorem cd_X11_darks : yX11_darks.cls = RX11 ∧ yX11_darks.cls ≠ "java/lang/invoke/MethodHandle" ∧ yX11_darks.cls ≠ "java/lang/invoke/VarHandle" ∧ (parseMethodDescriptor yX11_darks.desc).map (fun d => d.parameters.length) = some 2 := by decide +kernel
set_option maxHeartbeats 4000000 in
set_option maxRecDepth 100000 in
theorem cw_X11_darks (l : Launch) (C : pq_C) (X : va_W) (n : Nat) (S0 : pq_S) (hF : WF S0) (sz : Nat) (a0 : Nat) (x1 : Int32) (x2 : Int32) (Ta0 : TY S0 a0 11) (mc ms : Nat) (hst : l.stackTraces = false) (E : (Nat → pq_S → Prop)) (Q : (Int32 → pq_S → Prop)) (hm : wp_X11_darks n a0 x1 x2 S0 mc ms E Q) : vx_Met l yX11_darks (.code yX11_darks cX11_darks 5 (some .int) :: pq_U) (rw_X11_darks mc ms) (va_Pc [.ref a0, .int x1, .int x2] (CPre C X S0 sz)) (QwI C X S0 sz Q) (XcP C X S0 sz E) mc ms (pq_F C X S0 sz) := by
  refine vx_ofW (cc := cX11_darks) (maxL := 5) (ret := (some .int)) (by decide) rfl ?_
  intro p e s m args below meth c s₁ B hml hno hv
  obtain ⟨rfl, hv⟩ := hv
  have hsz := hv.1
  subst hsz
  have hw := pw_entry hF hv
  have hts := atoms_spec (ws := .code yX11_darks cX11_darks 5 (some .int) :: pq_U) B.pre
  have hU : ∀ w ∈ pq_U, w.before _ s = true := fun w h => hts w (List.mem_cons_of_mem _ h)
  have hx := B.exec
  have hb := B.bytes
  have hr := B.returns
  have hown : s.vm.findClass RX11 = some m.cls := findClass_of_methodNamed B.named
  have hlk := B.notSynchronized
  have hl := lv_entry ([.ref a0, .int x1, .int x2]) (n := 5) (Nat.le_of_ble_eq_true rfl)
  rw [lg_entry_eq]
  generalize (lg_sl ([.ref a0, .int x1, .int x2]) ++ List.replicate (5 - (lg_sl ([.ref a0, .int x1, .int x2])).length) Slot.unset).toArray = ls at hl ⊢
  have hl : lv_has ls 5 [(0, .ref a0), (1, .int x1), (2, .int x2)] := hl
  have hE : Ext S0 S0 := Ext.rf _
  have cx : Cx p s m _ meth c cX11_darks 5 RX11 (some .int) := ⟨hx, hb, hml, hown, hU, hr, hlk⟩
  have hcc : 0 + mc ≤ mc := by omega
  have hss : 0 + ms ≤ ms := by omega
  rw [wp_X11_darks] at hm
  refine lv_aload_n hx hb dX11_darks_0 rfl (lv_at hl 0 rfl) ?_
  refine lv_iload_n hx hb dX11_darks_1 rfl (lv_at hl 1 rfl) ?_
  obtain ⟨r3, S_1, hq2, hm⟩ := hm
  refine pw_cz (va_runS (As := [.int x1]) (rest := [.ref a0]) ⟨hx, hb, hml, hown, hU⟩ (c_X11_isDay l C X n S0 hw.wf _ x1  r3 S_1 hq2) ⟨callB_of 1 hU (pq_g1 tc_X11_isDay) rfl rfl rfl (hU _ tw1) (hU _ tw1365) cd_X11_isDay.2 ⟨Nat.le_of_ble_eq_true rfl, Nat.le_of_ble_eq_true rfl⟩, hU _ tw1366⟩ (pw_preS hw) rfl rfl hl.1 rfl (lv_room (Nat.le_of_ble_eq_true rfl)) dX11_darks_2 ⟨by show _ ≤ mc; omega, by show _ ≤ ms; omega⟩) hw (fun H locs hw hx4 hz5 => ?_)
  have Ta0 : TY S_1 a0 11 := ty_ext hx4 Ta0
  have hE : Ext S0 S_1 := Ext.tr hE hx4
  refine lv_if_eq (tgt := 24) hx hb dX11_darks_5 (by decide) (fun h6 => ?_) (fun h6 => ?_)
  · rw [if_pos h6] at hm
    exact wpb_X11_darks_24 cx hno C X S0 n hst E Q mc ms a0 x1 x2 a0 S_1 _ _ _ (0) (0) mc ms hcc hss hw hE Ta0 Ta0 (lv_sub hl [0, 1, 2] rfl) hm
  · rw [if_neg h6] at hm
    refine lv_iload_n hx hb dX11_darks_8 rfl (lv_at hl 2 rfl) ?_
    obtain ⟨r9, S_7, hq8, hm⟩ := hm
    refine pw_cz (va_runS (As := [.int x2]) (rest := [.ref a0]) ⟨hx, hb, hml, hown, hU⟩ (c_X11_isDay l C X n S_1 hw.wf _ x2  r9 S_7 hq8) ⟨callB_of 1 hU (pq_g1 tc_X11_isDay) rfl rfl rfl (hU _ tw1) (hU _ tw1365) cd_X11_isDay.2 ⟨Nat.le_of_ble_eq_true rfl, Nat.le_of_ble_eq_true rfl⟩, hU _ tw1366⟩ (pw_preS hw) rfl rfl hl.1 rfl (lv_room (Nat.le_of_ble_eq_true rfl)) dX11_darks_9 ⟨by show _ ≤ mc; omega, by show _ ≤ ms; omega⟩) hw (fun H locs hw hx10 hz11 => ?_)
    have Ta0 : TY S_7 a0 11 := ty_ext hx10 Ta0
    have hE : Ext S0 S_7 := Ext.tr hE hx10
    refine lv_if_eq (tgt := 24) hx hb dX11_darks_12 (by decide) (fun h12 => ?_) (fun h12 => ?_)
    · rw [if_pos h12] at hm
      exact wpb_X11_darks_24 cx hno C X S0 n hst E Q mc ms a0 x1 x2 a0 S_7 _ _ _ (0) (0) mc ms hcc hss hw hE Ta0 Ta0 (lv_sub hl [0, 1, 2] rfl) hm
    · rw [if_neg h12] at hm
      refine lv_iload_n hx hb dX11_darks_15 rfl (lv_at hl 1 rfl) ?_
      refine lv_iload_n hx hb dX11_darks_16 rfl (lv_at hl 2 rfl) ?_
      refine lv_icmp_gt (tgt := 24) hx hb dX11_darks_17 (by decide) (fun h13 => ?_) (fun h13 => ?_)
      · rw [if_pos h13] at hm
        exact wpb_X11_darks_24 cx hno C X S0 n hst E Q mc ms a0 x1 x2 a0 S_7 _ _ _ (0) (0) mc ms hcc hss hw hE Ta0 Ta0 (lv_sub hl [0, 1, 2] rfl) hm
      · rw [if_neg h13] at hm
        refine lv_iconst (v := 1) hx hb dX11_darks_20 (by decide) ?_
        refine lv_goto (tgt := 25) hx hb dX11_darks_21 (by decide) ?_
        exact wpb_X11_darks_25 cx hno C X S0 n hst E Q mc ms a0 x1 x2 a0 1 S_7 _ _ _ (0) (0) mc ms hcc hss hw hE Ta0 Ta0 (lv_sub hl [0, 1, 2] rfl) hm
abbrev rw_X11_clouds (mc ms : Nat) : Room := { frames := 7, cells := mc, slots := ms, locals := 110 }
def pb_X11_clouds_26 (n : Nat) (a0 : Nat) (x1 : Int32) (x2 : Int32) (x3 : Int32) (x4 : Int32) (x5 : Int32) (b0 : Nat) (z1 : Int32) (S : pq_S) (bc bs : Nat) (E : (Nat → pq_S → Prop)) (Q : (Int32 → pq_S → Prop)) : Prop := ∃ c14 s15 : Nat, c14 ≤ bc ∧ s15 ≤ bs ∧ wp_X11_need n b0 z1 S c14 s15 E (fun S_13 => ∃ q19 : Nat, (pR S_13 1101 a0) = some q19 ∧ (∃ q20 : Nat, (pR S_13 700 q19) = some q20 ∧ (∃ r23 S_21, m_X1_clouded n q20 x1 x2 x3 x4 x5 S_13 = some (r23, S_21) ∧ (Q r23 S_21))))
set_option maxHeartbeats 4000000 in
set_option maxRecDepth 100000 in
theorem wpb_X11_clouds_26 {p : Program} {l : Launch} {e : Env} {s : State} {m : MethodId} {args : Array Value} {below : List Frame} {meth : Method} {c : Code} (cx : Cx p s m args meth c cX11_clouds 6 RX11 (some .int)) (hno : ∀ x ∈ c.exceptionTable.toList, False) (C : pq_C) (X : va_W) (S0 : pq_S) (n : Nat) (hst : l.stackTraces = false) (E : (Nat → pq_S → Prop)) (Q : (Int32 → pq_S → Prop)) (mc ms : Nat) : ∀ (a0 : Nat) (x1 : Int32) (x2 : Int32) (x3 : Int32) (x4 : Int32) (x5 : Int32) (b0 : Nat) (z1 : Int32) (S : pq_S) (H : Heap) (locs : List Loc) (ls : Array Slot) (cells slots bc bs : Nat), cells + bc ≤ mc → slots + bs ≤ ms → PW C X S (pq_F C X S0 s.heap.size) H locs s → Ext S0 S → TY S a0 11 → TY S b0 11 → lv_has ls 6 [(0, .ref a0), (1, .int x1), (2, .int x2), (3, .int x3), (4, .int x4), (5, .int x5)] → pb_X11_clouds_26 n a0 x1 x2 x3 x4 x5 b0 z1 S bc bs E Q → W p l e (rw_X11_clouds mc ms) s m args below meth c H locs cells slots (vx_MQ below (QwI C X S0 s.heap.size Q) (XcP C X S0 s.heap.size E) args s mc ms (pq_F C X S0 s.heap.size)) (F0 m 26 ls [.int z1, .ref b0]) := by
  obtain ⟨hx, hb, hml, hown, hU, hr, hlk⟩ := id cx
  intro a0 x1 x2 x3 x4 x5 b0 z1 S H locs ls cells slots bc bs hcc hss hw hE Ta0 Tb0 hl hm
  rw [pb_X11_clouds_26] at hm
  obtain ⟨c14, s15, hb16, hb17, hm⟩ := hm
  refine px_v (vx_runV (As := [.int z1]) (rest := []) ⟨hx, hb, hml, hown, hU⟩ (cw_X11_need l C X n S hw.wf _ b0 z1 (Tb0) c14 s15 hst E _ hm) (cwV 1 hU (pq_gV tw490 tw492 ts7 tw1 tc_X11_need) rfl rfl rfl cd_X11_need ⟨Nat.le_of_ble_eq_true rfl, Nat.le_of_ble_eq_true rfl⟩) (pw_preV hw Tb0 (by decide) rfl) rfl rfl hl.1 rfl (lv_room (Nat.le_of_ble_eq_true rfl)) dX11_clouds_26 ⟨by show _ ≤ mc; omega, by show _ ≤ ms; omega⟩) hw hE hno hlk (by omega) (by omega) (fun S_13 H locs hm hw hx18 => ?_)
  have Ta0 : TY S_13 a0 11 := ty_ext hx18 Ta0
  have hE : Ext S0 S_13 := Ext.tr hE hx18
  refine W.widen (k := cells + (c14)) (n := slots + (s15)) (by omega) (by omega) ?_
  have hcc : cells + (c14) + (bc - (c14)) ≤ mc := by omega
  have hss : slots + (s15) + (bs - (s15)) ≤ ms := by omega
  refine lv_aload_n hx hb dX11_clouds_29 rfl (lv_at hl 0 rfl) ?_
  obtain ⟨q19, hq19, hm⟩ := hm
  have Tq19 : TY S_13 q19 7 := hw.wf.ref (k := 11) (j := 1) Ta0 (by decide) (by decide) hq19
  refine pg_rb (k := 11) (j := 1) (f := 1101) hx hb hown hU iu11 hw Ta0 (by decide) rfl (hU _ tw364) rfl hq19 dX11_clouds_30 ?_
  obtain ⟨q20, hq20, hm⟩ := hm
  have Tq20 : TY S_13 q20 1 := hw.wf.ref (k := 7) (j := 0) Tq19 (by decide) (by decide) hq20
  refine pgN_rb (k := 7) (j := 0) (f := 700) hx hb hown hU iu7 hw Tq19 (by decide) rfl 55 rfl rfl hq20 dX11_clouds_33 ?_
  refine lv_iload_n hx hb dX11_clouds_36 rfl (lv_at hl 1 rfl) ?_
  refine lv_iload_n hx hb dX11_clouds_37 rfl (lv_at hl 2 rfl) ?_
  refine lv_iload_n hx hb dX11_clouds_38 rfl (lv_at hl 3 rfl) ?_
  refine lv_iload hx hb dX11_clouds_39 (lv_at hl 4 rfl) ?_
  refine lv_iload hx hb dX11_clouds_41 (lv_at hl 5 rfl) ?_
  obtain ⟨r23, S_21, hq22, hm⟩ := hm
  refine pw_ci (va_runVN (As := [.int x1, .int x2, .int x3, .int x4, .int x5]) (rest := []) ⟨hx, hb, hml, hown, hU⟩ (c_X1_clouded l C X n S_13 hw.wf _ q20 x1 x2 x3 x4 x5 (Tq20) r23 S_21 hq22) ⟨va_cnB (host := "WickNights") 5 hU (pq_g1 tc_X1_clouded) rfl rfl rfl (hw.nw 184 rfl) (hU _ tw4) cd_X1_clouded.2 ⟨Nat.le_of_ble_eq_true rfl, Nat.le_of_ble_eq_true rfl⟩, hU _ tw1410, hU _ ts116⟩ (pw_preV hw Tq20 (by decide) rfl) rfl rfl hl.1 rfl (lv_room (Nat.le_of_ble_eq_true rfl)) dX11_clouds_43 ⟨by show _ ≤ mc; omega, by show _ ≤ ms; omega⟩) hw (fun H locs hw hx24 => ?_)
  have Ta0 : TY S_21 a0 11 := ty_ext hx24 Ta0
  have hE : Ext S0 S_21 := Ext.tr hE hx24
  refine vx_ret ?_
  exact pw_wiret hx hb hr rfl hlk hw hE hm (by omega) (by omega) dX11_clouds_46
def pb_X11_clouds_25 (n : Nat) (a0 : Nat) (x1 : Int32) (x2 : Int32) (x3 : Int32) (x4 : Int32) (x5 : Int32) (b0 : Nat) (S : pq_S) (bc bs : Nat) (E : (Nat → pq_S → Prop)) (Q : (Int32 → pq_S → Prop)) : Prop := pb_X11_clouds_26 n a0 x1 x2 x3 x4 x5 b0 0 S bc bs E Q
set_option maxHeartbeats 4000000 in
set_option maxRecDepth 100000 in
theorem wpb_X11_clouds_25 {p : Program} {l : Launch} {e : Env} {s : State} {m : MethodId} {args : Array Value} {below : List Frame} {meth : Method} {c : Code} (cx : Cx p s m args meth c cX11_clouds 6 RX11 (some .int)) (hno : ∀ x ∈ c.exceptionTable.toList, False) (C : pq_C) (X : va_W) (S0 : pq_S) (n : Nat) (hst : l.stackTraces = false) (E : (Nat → pq_S → Prop)) (Q : (Int32 → pq_S → Prop)) (mc ms : Nat) : ∀ (a0 : Nat) (x1 : Int32) (x2 : Int32) (x3 : Int32) (x4 : Int32) (x5 : Int32) (b0 : Nat) (S : pq_S) (H : Heap) (locs : List Loc) (ls : Array Slot) (cells slots bc bs : Nat), cells + bc ≤ mc → slots + bs ≤ ms → PW C X S (pq_F C X S0 s.heap.size) H locs s → Ext S0 S → TY S a0 11 → TY S b0 11 → lv_has ls 6 [(0, .ref a0), (1, .int x1), (2, .int x2), (3, .int x3), (4, .int x4), (5, .int x5)] → pb_X11_clouds_25 n a0 x1 x2 x3 x4 x5 b0 S bc bs E Q → W p l e (rw_X11_clouds mc ms) s m args below meth c H locs cells slots (vx_MQ below (QwI C X S0 s.heap.size Q) (XcP C X S0 s.heap.size E) args s mc ms (pq_F C X S0 s.heap.size)) (F0 m 25 ls [.ref b0]) := by
  obtain ⟨hx, hb, hml, hown, hU, hr, hlk⟩ := id cx
  intro a0 x1 x2 x3 x4 x5 b0 S H locs ls cells slots bc bs hcc hss hw hE Ta0 Tb0 hl hm
  rw [pb_X11_clouds_25] at hm
  refine lv_iconst (v := 0) hx hb dX11_clouds_25 (by decide) ?_
  exact wpb_X11_clouds_26 cx hno C X S0 n hst E Q mc ms a0 x1 x2 x3 x4 x5 b0 0 S _ _ _ (cells) (slots) bc bs hcc hss hw hE Ta0 Tb0 (lv_sub hl [0, 1, 2, 3, 4, 5] rfl) hm
def wp_X11_clouds (n : Nat) (a0 : Nat) (x1 : Int32) (x2 : Int32) (x3 : Int32) (x4 : Int32) (x5 : Int32) (S0 : pq_S) (mc ms : Nat) (E : (Nat → pq_S → Prop)) (Q : (Int32 → pq_S → Prop)) : Prop := ∃ r3 S_1, m_X11_isCloudSpan n x2 x3 x4 S0 = some (r3, S_1) ∧ (if r3 = 0 then pb_X11_clouds_25 n a0 x1 x2 x3 x4 x5 a0 S_1 mc ms E Q else ∃ r9 S_7, m_X11_isWithin n x5 0 2 S_1 = some (r9, S_7) ∧ (if r9 = 0 then pb_X11_clouds_25 n a0 x1 x2 x3 x4 x5 a0 S_7 mc ms E Q else pb_X11_clouds_26 n a0 x1 x2 x3 x4 x5 a0 1 S_7 mc ms E Q))
theorem tc_X11_clouds : Cond.code yX11_clouds cX11_clouds 6 (some .int) ∈ pq_U := tw1404
theorem cd_X11_clouds : yX11_clouds.cls = RX11 ∧ yX11_clouds.cls ≠ "java/lang/invoke/MethodHandle" ∧ yX11_clouds.cls ≠ "java/lang/invoke/VarHandle" ∧ (parseMethodDescriptor yX11_clouds.desc).map (fun d => d.parameters.length) = some 5 := by decide +kernel
set_option maxHeartbeats 4000000 in
set_option maxRecDepth 100000 in
theorem cw_X11_clouds (l : Launch) (C : pq_C) (X : va_W) (n : Nat) (S0 : pq_S) (hF : WF S0) (sz : Nat) (a0 : Nat) (x1 : Int32) (x2 : Int32) (x3 : Int32) (x4 : Int32) (x5 : Int32) (Ta0 : TY S0 a0 11) (mc ms : Nat) (hst : l.stackTraces = false) (E : (Nat → pq_S → Prop)) (Q : (Int32 → pq_S → Prop)) (hm : wp_X11_clouds n a0 x1 x2 x3 x4 x5 S0 mc ms E Q) : vx_Met l yX11_clouds (.code yX11_clouds cX11_clouds 6 (some .int) :: pq_U) (rw_X11_clouds mc ms) (va_Pc [.ref a0, .int x1, .int x2, .int x3, .int x4, .int x5] (CPre C X S0 sz)) (QwI C X S0 sz Q) (XcP C X S0 sz E) mc ms (pq_F C X S0 sz) := by
  refine vx_ofW (cc := cX11_clouds) (maxL := 6) (ret := (some .int)) (by decide) rfl ?_
  intro p e s m args below meth c s₁ B hml hno hv
  obtain ⟨rfl, hv⟩ := hv
  have hsz := hv.1
  subst hsz
  have hw := pw_entry hF hv
  have hts := atoms_spec (ws := .code yX11_clouds cX11_clouds 6 (some .int) :: pq_U) B.pre
  have hU : ∀ w ∈ pq_U, w.before _ s = true := fun w h => hts w (List.mem_cons_of_mem _ h)
  have hx := B.exec
  have hb := B.bytes
  have hr := B.returns
  have hown : s.vm.findClass RX11 = some m.cls := findClass_of_methodNamed B.named
  have hlk := B.notSynchronized
  have hl := lv_entry ([.ref a0, .int x1, .int x2, .int x3, .int x4, .int x5]) (n := 6) (Nat.le_of_ble_eq_true rfl)
  rw [lg_entry_eq]
  generalize (lg_sl ([.ref a0, .int x1, .int x2, .int x3, .int x4, .int x5]) ++ List.replicate (6 - (lg_sl ([.ref a0, .int x1, .int x2, .int x3, .int x4, .int x5])).length) Slot.unset).toArray = ls at hl ⊢
  have hl : lv_has ls 6 [(0, .ref a0), (1, .int x1), (2, .int x2), (3, .int x3), (4, .int x4), (5, .int x5)] := hl
  have hE : Ext S0 S0 := Ext.rf _
  have cx : Cx p s m _ meth c cX11_clouds 6 RX11 (some .int) := ⟨hx, hb, hml, hown, hU, hr, hlk⟩
  have hcc : 0 + mc ≤ mc := by omega
  have hss : 0 + ms ≤ ms := by omega
  rw [wp_X11_clouds] at hm
  refine lv_aload_n hx hb dX11_clouds_0 rfl (lv_at hl 0 rfl) ?_
  refine lv_iload_n hx hb dX11_clouds_1 rfl (lv_at hl 2 rfl) ?_
  refine lv_iload_n hx hb dX11_clouds_2 rfl (lv_at hl 3 rfl) ?_
  refine lv_iload hx hb dX11_clouds_3 (lv_at hl 4 rfl) ?_
  obtain ⟨r3, S_1, hq2, hm⟩ := hm
  refine pw_cz (va_runS (As := [.int x2, .int x3, .int x4]) (rest := [.ref a0]) ⟨hx, hb, hml, hown, hU⟩ (c_X11_isCloudSpan l C X n S0 hw.wf _ x2 x3 x4  r3 S_1 hq2) ⟨callB_of 3 hU (pq_g1 tc_X11_isCloudSpan) rfl rfl rfl (hU _ tw1) (hU _ tw1405) cd_X11_isCloudSpan.2 ⟨Nat.le_of_ble_eq_true rfl, Nat.le_of_ble_eq_true rfl⟩, hU _ tw1406⟩ (pw_preS hw) rfl rfl hl.1 rfl (lv_room (Nat.le_of_ble_eq_true rfl)) dX11_clouds_5 ⟨by show _ ≤ mc; omega, by show _ ≤ ms; omega⟩) hw (fun H locs hw hx4 hz5 => ?_)
  have Ta0 : TY S_1 a0 11 := ty_ext hx4 Ta0
  have hE : Ext S0 S_1 := Ext.tr hE hx4
  refine lv_if_eq (tgt := 25) hx hb dX11_clouds_8 (by decide) (fun h6 => ?_) (fun h6 => ?_)
  · rw [if_pos h6] at hm
    exact wpb_X11_clouds_25 cx hno C X S0 n hst E Q mc ms a0 x1 x2 x3 x4 x5 a0 S_1 _ _ _ (0) (0) mc ms hcc hss hw hE Ta0 Ta0 (lv_sub hl [0, 1, 2, 3, 4, 5] rfl) hm
  · rw [if_neg h6] at hm
    refine lv_iload hx hb dX11_clouds_11 (lv_at hl 5 rfl) ?_
    refine lv_iconst (v := 0) hx hb dX11_clouds_13 (by decide) ?_
    refine lv_iconst (v := 2) hx hb dX11_clouds_14 (by decide) ?_
    obtain ⟨r9, S_7, hq8, hm⟩ := hm
    refine pw_cz (va_runS (As := [.int x5, .int 0, .int 2]) (rest := [.ref a0]) ⟨hx, hb, hml, hown, hU⟩ (c_X11_isWithin l C X n S_1 hw.wf _ x5 0 2  r9 S_7 hq8) ⟨callB_of 3 hU (pq_g1 tc_X11_isWithin) rfl rfl rfl (hU _ tw1) (hU _ tw453) cd_X11_isWithin.2 ⟨Nat.le_of_ble_eq_true rfl, Nat.le_of_ble_eq_true rfl⟩, hU _ tw454⟩ (pw_preS hw) rfl rfl hl.1 rfl (lv_room (Nat.le_of_ble_eq_true rfl)) dX11_clouds_15 ⟨by show _ ≤ mc; omega, by show _ ≤ ms; omega⟩) hw (fun H locs hw hx10 hz11 => ?_)
    have Ta0 : TY S_7 a0 11 := ty_ext hx10 Ta0
    have hE : Ext S0 S_7 := Ext.tr hE hx10
    refine lv_if_eq (tgt := 25) hx hb dX11_clouds_18 (by decide) (fun h12 => ?_) (fun h12 => ?_)
    · rw [if_pos h12] at hm
      exact wpb_X11_clouds_25 cx hno C X S0 n hst E Q mc ms a0 x1 x2 x3 x4 x5 a0 S_7 _ _ _ (0) (0) mc ms hcc hss hw hE Ta0 Ta0 (lv_sub hl [0, 1, 2, 3, 4, 5] rfl) hm
    · rw [if_neg h12] at hm
      refine lv_iconst (v := 1) hx hb dX11_clouds_21 (by decide) ?_
      refine lv_goto (tgt := 26) hx hb dX11_clouds_22 (by decide) ?_
      exact wpb_X11_clouds_26 cx hno C X S0 n hst E Q mc ms a0 x1 x2 x3 x4 x5 a0 1 S_7 _ _ _ (0) (0) mc ms hcc hss hw hE Ta0 Ta0 (lv_sub hl [0, 1, 2, 3, 4, 5] rfl) hm
abbrev rw_X11_span (mc ms : Nat) : Room := { frames := 7, cells := mc, slots := ms, locals := 110 }
def pb_X11_span_112 (n : Nat) (x6 : Int32) (x7 : Int32) (x8 : Int32) (x9 : Int32) (S : pq_S) (bc bs : Nat) (E : (Nat → pq_S → Prop)) (Q : (Int32 → pq_S → Prop)) : Prop := if x6 = 0 then Q x7 S else if x6 = 1 then Q x8 S else Q x9 S
set_option maxHeartbeats 4000000 in
set_option maxRecDepth 100000 in
theorem wpb_X11_span_112 {p : Program} {l : Launch} {e : Env} {s : State} {m : MethodId} {args : Array Value} {below : List Frame} {meth : Method} {c : Code} (cx : Cx p s m args meth c cX11_span 12 RX11 (some .int)) (hno : ∀ x ∈ c.exceptionTable.toList, False) (C : pq_C) (X : va_W) (S0 : pq_S) (n : Nat) (hst : l.stackTraces = false) (E : (Nat → pq_S → Prop)) (Q : (Int32 → pq_S → Prop)) (mc ms : Nat) : ∀ (x6 : Int32) (x7 : Int32) (x8 : Int32) (x9 : Int32) (S : pq_S) (H : Heap) (locs : List Loc) (ls : Array Slot) (cells slots bc bs : Nat), cells + bc ≤ mc → slots + bs ≤ ms → PW C X S (pq_F C X S0 s.heap.size) H locs s → Ext S0 S → lv_has ls 12 [(6, .int x6), (7, .int x7), (8, .int x8), (9, .int x9)] → pb_X11_span_112 n x6 x7 x8 x9 S bc bs E Q → W p l e (rw_X11_span mc ms) s m args below meth c H locs cells slots (vx_MQ below (QwI C X S0 s.heap.size Q) (XcP C X S0 s.heap.size E) args s mc ms (pq_F C X S0 s.heap.size)) (F0 m 112 ls []) := by
  obtain ⟨hx, hb, hml, hown, hU, hr, hlk⟩ := id cx
  intro x6 x7 x8 x9 S H locs ls cells slots bc bs hcc hss hw hE hl hm
  rw [pb_X11_span_112] at hm
  refine lv_iload hx hb dX11_span_112 (lv_at hl 0 rfl) ?_
  refine lv_if_ne (tgt := 120) hx hb dX11_span_114 (by decide) (fun h32 => ?_) (fun h32 => ?_)
  · rw [if_neg h32] at hm
    refine lv_iload hx hb dX11_span_120 (lv_at hl 0 rfl) ?_
    refine lv_iconst (v := 1) hx hb dX11_span_122 (by decide) ?_
    refine lv_icmp_ne (tgt := 131) hx hb dX11_span_123 (by decide) (fun h33 => ?_) (fun h33 => ?_)
    · rw [if_neg h33] at hm
      refine lv_iload hx hb dX11_span_131 (lv_at hl 3 rfl) ?_
      refine vx_ret ?_
      exact pw_wiret hx hb hr rfl hlk hw hE hm (by omega) (by omega) dX11_span_133
    · rw [if_pos h33] at hm
      refine lv_iload hx hb dX11_span_126 (lv_at hl 2 rfl) ?_
      refine lv_goto (tgt := 133) hx hb dX11_span_128 (by decide) ?_
      refine vx_ret ?_
      exact pw_wiret hx hb hr rfl hlk hw hE hm (by omega) (by omega) dX11_span_133
  · rw [if_pos h32] at hm
    refine lv_iload hx hb dX11_span_117 (lv_at hl 1 rfl) ?_
    refine vx_ret ?_
    exact pw_wiret hx hb hr rfl hlk hw hE hm (by omega) (by omega) dX11_span_119
def pb_X11_span_53 (n : Nat) : Nat → Nat → Int32 → Int32 → Int32 → Int32 → Int32 → Int32 → Int32 → Int32 → Int32 → Int32 → pq_S → Nat → Nat → (Nat → pq_S → Prop) → (Int32 → pq_S → Prop) → Prop
  | 0, _, _, _, _, _, _, _, _, _, _, _, _, _, _, _, _ => False
  | f + 1, a0, x1, x2, x3, x4, x5, x6, x7, x8, x9, x10, S, bc, bs, E, Q => if x2 ≤ x10 then pb_X11_span_112 n x6 x7 x8 x9 S bc bs E Q else ∃ q26 : Nat, (pR S 1101 a0) = some q26 ∧ (∃ q27 : Nat, (pR S 700 q26) = some q27 ∧ (∃ r30 S_28, m_X1_clouded n q27 (x1 + x10) x3 x4 x5 0 S = some (r30, S_28) ∧ (pb_X11_span_53 n f a0 x1 x2 x3 x4 x5 x6 (if r30 < x7 then r30 else x7) (if x8 < r30 then r30 else x8) (x9 + r30) (x10 + 1) S_28 bc bs E Q)))
set_option maxHeartbeats 4000000 in
set_option maxRecDepth 100000 in
theorem wpb_X11_span_53 {p : Program} {l : Launch} {e : Env} {s : State} {m : MethodId} {args : Array Value} {below : List Frame} {meth : Method} {c : Code} (cx : Cx p s m args meth c cX11_span 12 RX11 (some .int)) (hno : ∀ x ∈ c.exceptionTable.toList, False) (C : pq_C) (X : va_W) (S0 : pq_S) (n : Nat) (hst : l.stackTraces = false) (E : (Nat → pq_S → Prop)) (Q : (Int32 → pq_S → Prop)) (mc ms : Nat) : ∀ (f : Nat) (a0 : Nat) (x1 : Int32) (x2 : Int32) (x3 : Int32) (x4 : Int32) (x5 : Int32) (x6 : Int32) (x7 : Int32) (x8 : Int32) (x9 : Int32) (x10 : Int32) (S : pq_S) (H : Heap) (locs : List Loc) (ls : Array Slot) (cells slots bc bs : Nat), cells + bc ≤ mc → slots + bs ≤ ms → PW C X S (pq_F C X S0 s.heap.size) H locs s → Ext S0 S → TY S a0 11 → lv_has ls 12 [(0, .ref a0), (1, .int x1), (2, .int x2), (3, .int x3), (4, .int x4), (5, .int x5), (6, .int x6), (7, .int x7), (8, .int x8), (9, .int x9), (10, .int x10)] → pb_X11_span_53 n f a0 x1 x2 x3 x4 x5 x6 x7 x8 x9 x10 S bc bs E Q → W p l e (rw_X11_span mc ms) s m args below meth c H locs cells slots (vx_MQ below (QwI C X S0 s.heap.size Q) (XcP C X S0 s.heap.size E) args s mc ms (pq_F C X S0 s.heap.size)) (F0 m 53 ls []) := by
  obtain ⟨hx, hb, hml, hown, hU, hr, hlk⟩ := id cx
  intro f
  induction f with
  | zero =>
    intro a0 x1 x2 x3 x4 x5 x6 x7 x8 x9 x10 S H locs ls cells slots bc bs hcc hss hw hE Ta0 hl hm
    exact hm.elim
  | succ f ih =>
    intro a0 x1 x2 x3 x4 x5 x6 x7 x8 x9 x10 S H locs ls cells slots bc bs hcc hss hw hE Ta0 hl hm
    rw [pb_X11_span_53] at hm
    refine lv_iload hx hb dX11_span_53 (lv_at hl 10 rfl) ?_
    refine lv_iload_n hx hb dX11_span_55 rfl (lv_at hl 2 rfl) ?_
    refine lv_icmp_ge (tgt := 112) hx hb dX11_span_56 (by decide) (fun h25 => ?_) (fun h25 => ?_)
    · rw [if_pos h25] at hm
      exact wpb_X11_span_112 cx hno C X S0 n hst E Q mc ms x6 x7 x8 x9 S _ _ _ (cells) (slots) bc bs hcc hss hw hE  (lv_sub hl [6, 7, 8, 9] rfl) hm
    · rw [if_neg h25] at hm
      refine lv_aload_n hx hb dX11_span_59 rfl (lv_at hl 0 rfl) ?_
      obtain ⟨q26, hq26, hm⟩ := hm
      have Tq26 : TY S q26 7 := hw.wf.ref (k := 11) (j := 1) Ta0 (by decide) (by decide) hq26
      refine pg_rb (k := 11) (j := 1) (f := 1101) hx hb hown hU iu11 hw Ta0 (by decide) rfl (hU _ tw364) rfl hq26 dX11_span_60 ?_
      obtain ⟨q27, hq27, hm⟩ := hm
      have Tq27 : TY S q27 1 := hw.wf.ref (k := 7) (j := 0) Tq26 (by decide) (by decide) hq27
      refine pgN_rb (k := 7) (j := 0) (f := 700) hx hb hown hU iu7 hw Tq26 (by decide) rfl 55 rfl rfl hq27 dX11_span_63 ?_
      refine lv_iload_n hx hb dX11_span_66 rfl (lv_at hl 1 rfl) ?_
      refine lv_iload hx hb dX11_span_67 (lv_at hl 10 rfl) ?_
      refine lv_iadd hx hb dX11_span_69 ?_
      refine lv_iload_n hx hb dX11_span_70 rfl (lv_at hl 3 rfl) ?_
      refine lv_iload hx hb dX11_span_71 (lv_at hl 4 rfl) ?_
      refine lv_iload hx hb dX11_span_73 (lv_at hl 5 rfl) ?_
      refine lv_iconst (v := 0) hx hb dX11_span_75 (by decide) ?_
      obtain ⟨r30, S_28, hq29, hm⟩ := hm
      refine pw_ci (va_runVN (As := [.int (x1 + x10), .int x3, .int x4, .int x5, .int 0]) (rest := []) ⟨hx, hb, hml, hown, hU⟩ (c_X1_clouded l C X n S hw.wf _ q27 (x1 + x10) x3 x4 x5 0 (Tq27) r30 S_28 hq29) ⟨va_cnB (host := "WickNights") 5 hU (pq_g1 tc_X1_clouded) rfl rfl rfl (hw.nw 184 rfl) (hU _ tw4) cd_X1_clouded.2 ⟨Nat.le_of_ble_eq_true rfl, Nat.le_of_ble_eq_true rfl⟩, hU _ tw1410, hU _ ts116⟩ (pw_preV hw Tq27 (by decide) rfl) rfl rfl hl.1 rfl (lv_room (Nat.le_of_ble_eq_true rfl)) dX11_span_76 ⟨by show _ ≤ mc; omega, by show _ ≤ ms; omega⟩) hw (fun H locs hw hx31 => ?_)
      have Ta0 : TY S_28 a0 11 := ty_ext hx31 Ta0
      have hE : Ext S0 S_28 := Ext.tr hE hx31
      refine lv_istore (lv' := [(11, .int r30), (0, .ref a0), (1, .int x1), (2, .int x2), (3, .int x3), (4, .int x4), (5, .int x5), (6, .int x6), (7, .int x7), (8, .int x8), (9, .int x9), (10, .int x10)]) hx hb dX11_span_79 hl (by decide) rfl (fun ls hl => ?_)
      refine lv_iload hx hb dX11_span_81 (lv_at hl 8 rfl) ?_
      refine lv_iload hx hb dX11_span_83 (lv_at hl 0 rfl) ?_
      refine va_mmin hx hb (by rw [hml]; exact hl.1.symm) hown (hU _ tw1421) (hU _ twm_min_s) (hU _ twm_i) (hU _ twm_min_c) (Nat.le_of_ble_eq_true rfl) (Nat.le_of_ble_eq_true rfl) (by show _ ≤ mc; omega) (by show _ ≤ ms; omega) dX11_span_85 ?_
      refine lv_istore (lv' := [(7, .int (if r30 < x7 then r30 else x7)), (11, .int r30), (0, .ref a0), (1, .int x1), (2, .int x2), (3, .int x3), (4, .int x4), (5, .int x5), (6, .int x6), (8, .int x8), (9, .int x9), (10, .int x10)]) hx hb dX11_span_88 hl (by decide) rfl (fun ls hl => ?_)
      refine lv_iload hx hb dX11_span_90 (lv_at hl 9 rfl) ?_
      refine lv_iload hx hb dX11_span_92 (lv_at hl 1 rfl) ?_
      refine va_mmax hx hb (by rw [hml]; exact hl.1.symm) hown (hU _ tw1173) (hU _ twm_max_s) (hU _ twm_i) (hU _ twm_max_c) (Nat.le_of_ble_eq_true rfl) (Nat.le_of_ble_eq_true rfl) (by show _ ≤ mc; omega) (by show _ ≤ ms; omega) dX11_span_94 ?_
      refine lv_istore (lv' := [(8, .int (if x8 < r30 then r30 else x8)), (7, .int (if r30 < x7 then r30 else x7)), (11, .int r30), (0, .ref a0), (1, .int x1), (2, .int x2), (3, .int x3), (4, .int x4), (5, .int x5), (6, .int x6), (9, .int x9), (10, .int x10)]) hx hb dX11_span_97 hl (by decide) rfl (fun ls hl => ?_)
      refine lv_iload hx hb dX11_span_99 (lv_at hl 10 rfl) ?_
      refine lv_iload hx hb dX11_span_101 (lv_at hl 2 rfl) ?_
      refine lv_iadd hx hb dX11_span_103 ?_
      refine lv_istore (lv' := [(9, .int (x9 + r30)), (8, .int (if x8 < r30 then r30 else x8)), (7, .int (if r30 < x7 then r30 else x7)), (11, .int r30), (0, .ref a0), (1, .int x1), (2, .int x2), (3, .int x3), (4, .int x4), (5, .int x5), (6, .int x6), (10, .int x10)]) hx hb dX11_span_104 hl (by decide) rfl (fun ls hl => ?_)
      refine lv_iinc (v := (x10 + 1)) (lv' := [(10, .int (x10 + 1)), (9, .int (x9 + r30)), (8, .int (if x8 < r30 then r30 else x8)), (7, .int (if r30 < x7 then r30 else x7)), (11, .int r30), (0, .ref a0), (1, .int x1), (2, .int x2), (3, .int x3), (4, .int x4), (5, .int x5), (6, .int x6)]) hx hb dX11_span_106 hl (k := 11) rfl rfl (by decide) rfl (fun ls hl => ?_)
      refine lv_goto (tgt := 53) hx hb dX11_span_109 (by decide) ?_
      exact ih a0 x1 x2 x3 x4 x5 x6 (if r30 < x7 then r30 else x7) (if x8 < r30 then r30 else x8) (x9 + r30) (x10 + 1) S_28 _ _ _ (cells) (slots) bc bs hcc hss hw hE Ta0 (lv_sub hl [5, 6, 7, 8, 9, 10, 11, 3, 2, 1, 0] rfl) hm
def pb_X11_span_37 (n : Nat) (a0 : Nat) (x1 : Int32) (x2 : Int32) (x3 : Int32) (x4 : Int32) (x5 : Int32) (x6 : Int32) (b0 : Nat) (z1 : Int32) (S : pq_S) (bc bs : Nat) (E : (Nat → pq_S → Prop)) (Q : (Int32 → pq_S → Prop)) : Prop := ∃ c20 s21 : Nat, c20 ≤ bc ∧ s21 ≤ bs ∧ wp_X11_need n b0 z1 S c20 s21 E (fun S_19 => pb_X11_span_53 n n a0 x1 x2 x3 x4 x5 x6 x5 0 0 0 S_19 (bc - (c20)) (bs - (s21)) E Q)
set_option maxHeartbeats 4000000 in
set_option maxRecDepth 100000 in
theorem wpb_X11_span_37 {p : Program} {l : Launch} {e : Env} {s : State} {m : MethodId} {args : Array Value} {below : List Frame} {meth : Method} {c : Code} (cx : Cx p s m args meth c cX11_span 12 RX11 (some .int)) (hno : ∀ x ∈ c.exceptionTable.toList, False) (C : pq_C) (X : va_W) (S0 : pq_S) (n : Nat) (hst : l.stackTraces = false) (E : (Nat → pq_S → Prop)) (Q : (Int32 → pq_S → Prop)) (mc ms : Nat) : ∀ (a0 : Nat) (x1 : Int32) (x2 : Int32) (x3 : Int32) (x4 : Int32) (x5 : Int32) (x6 : Int32) (b0 : Nat) (z1 : Int32) (S : pq_S) (H : Heap) (locs : List Loc) (ls : Array Slot) (cells slots bc bs : Nat), cells + bc ≤ mc → slots + bs ≤ ms → PW C X S (pq_F C X S0 s.heap.size) H locs s → Ext S0 S → TY S a0 11 → TY S b0 11 → lv_has ls 12 [(0, .ref a0), (1, .int x1), (2, .int x2), (3, .int x3), (4, .int x4), (5, .int x5), (6, .int x6)] → pb_X11_span_37 n a0 x1 x2 x3 x4 x5 x6 b0 z1 S bc bs E Q → W p l e (rw_X11_span mc ms) s m args below meth c H locs cells slots (vx_MQ below (QwI C X S0 s.heap.size Q) (XcP C X S0 s.heap.size E) args s mc ms (pq_F C X S0 s.heap.size)) (F0 m 37 ls [.int z1, .ref b0]) := by
  obtain ⟨hx, hb, hml, hown, hU, hr, hlk⟩ := id cx
  intro a0 x1 x2 x3 x4 x5 x6 b0 z1 S H locs ls cells slots bc bs hcc hss hw hE Ta0 Tb0 hl hm
  rw [pb_X11_span_37] at hm
  obtain ⟨c20, s21, hb22, hb23, hm⟩ := hm
  refine px_v (vx_runV (As := [.int z1]) (rest := []) ⟨hx, hb, hml, hown, hU⟩ (cw_X11_need l C X n S hw.wf _ b0 z1 (Tb0) c20 s21 hst E _ hm) (cwV 1 hU (pq_gV tw490 tw492 ts7 tw1 tc_X11_need) rfl rfl rfl cd_X11_need ⟨Nat.le_of_ble_eq_true rfl, Nat.le_of_ble_eq_true rfl⟩) (pw_preV hw Tb0 (by decide) rfl) rfl rfl hl.1 rfl (lv_room (Nat.le_of_ble_eq_true rfl)) dX11_span_37 ⟨by show _ ≤ mc; omega, by show _ ≤ ms; omega⟩) hw hE hno hlk (by omega) (by omega) (fun S_19 H locs hm hw hx24 => ?_)
  have Ta0 : TY S_19 a0 11 := ty_ext hx24 Ta0
  have hE : Ext S0 S_19 := Ext.tr hE hx24
  refine W.widen (k := cells + (c20)) (n := slots + (s21)) (by omega) (by omega) ?_
  have hcc : cells + (c20) + (bc - (c20)) ≤ mc := by omega
  have hss : slots + (s21) + (bs - (s21)) ≤ ms := by omega
  refine lv_iload hx hb dX11_span_40 (lv_at hl 5 rfl) ?_
  refine lv_istore (lv' := [(7, .int x5), (0, .ref a0), (1, .int x1), (2, .int x2), (3, .int x3), (4, .int x4), (5, .int x5), (6, .int x6)]) hx hb dX11_span_42 hl (by decide) rfl (fun ls hl => ?_)
  refine lv_iconst (v := 0) hx hb dX11_span_44 (by decide) ?_
  refine lv_istore (lv' := [(8, .int 0), (7, .int x5), (0, .ref a0), (1, .int x1), (2, .int x2), (3, .int x3), (4, .int x4), (5, .int x5), (6, .int x6)]) hx hb dX11_span_45 hl (by decide) rfl (fun ls hl => ?_)
  refine lv_iconst (v := 0) hx hb dX11_span_47 (by decide) ?_
  refine lv_istore (lv' := [(9, .int 0), (8, .int 0), (7, .int x5), (0, .ref a0), (1, .int x1), (2, .int x2), (3, .int x3), (4, .int x4), (5, .int x5), (6, .int x6)]) hx hb dX11_span_48 hl (by decide) rfl (fun ls hl => ?_)
  refine lv_iconst (v := 0) hx hb dX11_span_50 (by decide) ?_
  refine lv_istore (lv' := [(10, .int 0), (9, .int 0), (8, .int 0), (7, .int x5), (0, .ref a0), (1, .int x1), (2, .int x2), (3, .int x3), (4, .int x4), (5, .int x5), (6, .int x6)]) hx hb dX11_span_51 hl (by decide) rfl (fun ls hl => ?_)
  exact wpb_X11_span_53 cx hno C X S0 n hst E Q mc ms n a0 x1 x2 x3 x4 x5 x6 x5 0 0 0 S_19 _ _ _ (cells + (c20)) (slots + (s21)) (bc - (c20)) (bs - (s21)) hcc hss hw hE Ta0 (lv_sub hl [4, 5, 6, 7, 8, 9, 10, 3, 2, 1, 0] rfl) hm
def pb_X11_span_36 (n : Nat) (a0 : Nat) (x1 : Int32) (x2 : Int32) (x3 : Int32) (x4 : Int32) (x5 : Int32) (x6 : Int32) (b0 : Nat) (S : pq_S) (bc bs : Nat) (E : (Nat → pq_S → Prop)) (Q : (Int32 → pq_S → Prop)) : Prop := pb_X11_span_37 n a0 x1 x2 x3 x4 x5 x6 b0 0 S bc bs E Q
set_option maxHeartbeats 4000000 in
set_option maxRecDepth 100000 in
theorem wpb_X11_span_36 {p : Program} {l : Launch} {e : Env} {s : State} {m : MethodId} {args : Array Value} {below : List Frame} {meth : Method} {c : Code} (cx : Cx p s m args meth c cX11_span 12 RX11 (some .int)) (hno : ∀ x ∈ c.exceptionTable.toList, False) (C : pq_C) (X : va_W) (S0 : pq_S) (n : Nat) (hst : l.stackTraces = false) (E : (Nat → pq_S → Prop)) (Q : (Int32 → pq_S → Prop)) (mc ms : Nat) : ∀ (a0 : Nat) (x1 : Int32) (x2 : Int32) (x3 : Int32) (x4 : Int32) (x5 : Int32) (x6 : Int32) (b0 : Nat) (S : pq_S) (H : Heap) (locs : List Loc) (ls : Array Slot) (cells slots bc bs : Nat), cells + bc ≤ mc → slots + bs ≤ ms → PW C X S (pq_F C X S0 s.heap.size) H locs s → Ext S0 S → TY S a0 11 → TY S b0 11 → lv_has ls 12 [(0, .ref a0), (1, .int x1), (2, .int x2), (3, .int x3), (4, .int x4), (5, .int x5), (6, .int x6)] → pb_X11_span_36 n a0 x1 x2 x3 x4 x5 x6 b0 S bc bs E Q → W p l e (rw_X11_span mc ms) s m args below meth c H locs cells slots (vx_MQ below (QwI C X S0 s.heap.size Q) (XcP C X S0 s.heap.size E) args s mc ms (pq_F C X S0 s.heap.size)) (F0 m 36 ls [.ref b0]) := by
  obtain ⟨hx, hb, hml, hown, hU, hr, hlk⟩ := id cx
  intro a0 x1 x2 x3 x4 x5 x6 b0 S H locs ls cells slots bc bs hcc hss hw hE Ta0 Tb0 hl hm
  rw [pb_X11_span_36] at hm
  refine lv_iconst (v := 0) hx hb dX11_span_36 (by decide) ?_
  exact wpb_X11_span_37 cx hno C X S0 n hst E Q mc ms a0 x1 x2 x3 x4 x5 x6 b0 0 S _ _ _ (cells) (slots) bc bs hcc hss hw hE Ta0 Tb0 (lv_sub hl [0, 1, 2, 3, 4, 5, 6] rfl) hm
def wp_X11_span (n : Nat) (a0 : Nat) (x1 : Int32) (x2 : Int32) (x3 : Int32) (x4 : Int32) (x5 : Int32) (x6 : Int32) (S0 : pq_S) (mc ms : Nat) (E : (Nat → pq_S → Prop)) (Q : (Int32 → pq_S → Prop)) : Prop := ∃ r3 S_1, m_X11_isWithin n x2 1 40 S0 = some (r3, S_1) ∧ (if r3 = 0 then pb_X11_span_36 n a0 x1 x2 x3 x4 x5 x6 a0 S_1 mc ms E Q else ∃ r9 S_7, m_X11_isCloudSpan n x3 x4 x5 S_1 = some (r9, S_7) ∧ (if r9 = 0 then pb_X11_span_36 n a0 x1 x2 x3 x4 x5 x6 a0 S_7 mc ms E Q else ∃ r15 S_13, m_X11_isWithin n x6 0 2 S_7 = some (r15, S_13) ∧ (if r15 = 0 then pb_X11_span_36 n a0 x1 x2 x3 x4 x5 x6 a0 S_13 mc ms E Q else pb_X11_span_37 n a0 x1 x2 x3 x4 x5 x6 a0 1 S_13 mc ms E Q)))
theorem tc_X11_span : Cond.code yX11_span cX11_span 12 (some .int) ∈ pq_U := tw1420
theorem cd_X11_span : yX11_span.cls = RX11 ∧ yX11_span.cls ≠ "java/lang/invoke/MethodHandle" ∧ yX11_span.cls ≠ "java/lang/invoke/VarHandle" ∧ (parseMethodDescriptor yX11_span.desc).map (fun d => d.parameters.length) = some 6 := by decide +kernel
set_option maxHeartbeats 4000000 in
set_option maxRecDepth 100000 in
theorem cw_X11_span (l : Launch) (C : pq_C) (X : va_W) (n : Nat) (S0 : pq_S) (hF : WF S0) (sz : Nat) (a0 : Nat) (x1 : Int32) (x2 : Int32) (x3 : Int32) (x4 : Int32) (x5 : Int32) (x6 : Int32) (Ta0 : TY S0 a0 11) (mc ms : Nat) (hst : l.stackTraces = false) (E : (Nat → pq_S → Prop)) (Q : (Int32 → pq_S → Prop)) (hm : wp_X11_span n a0 x1 x2 x3 x4 x5 x6 S0 mc ms E Q) : vx_Met l yX11_span (.code yX11_span cX11_span 12 (some .int) :: pq_U) (rw_X11_span mc ms) (va_Pc [.ref a0, .int x1, .int x2, .int x3, .int x4, .int x5, .int x6] (CPre C X S0 sz)) (QwI C X S0 sz Q) (XcP C X S0 sz E) mc ms (pq_F C X S0 sz) := by
  refine vx_ofW (cc := cX11_span) (maxL := 12) (ret := (some .int)) (by decide) rfl ?_
  intro p e s m args below meth c s₁ B hml hno hv
  obtain ⟨rfl, hv⟩ := hv
  have hsz := hv.1
  subst hsz
  have hw := pw_entry hF hv
  have hts := atoms_spec (ws := .code yX11_span cX11_span 12 (some .int) :: pq_U) B.pre
  have hU : ∀ w ∈ pq_U, w.before _ s = true := fun w h => hts w (List.mem_cons_of_mem _ h)
  have hx := B.exec
  have hb := B.bytes
  have hr := B.returns
  have hown : s.vm.findClass RX11 = some m.cls := findClass_of_methodNamed B.named
  have hlk := B.notSynchronized
  have hl := lv_entry ([.ref a0, .int x1, .int x2, .int x3, .int x4, .int x5, .int x6]) (n := 12) (Nat.le_of_ble_eq_true rfl)
  rw [lg_entry_eq]
  generalize (lg_sl ([.ref a0, .int x1, .int x2, .int x3, .int x4, .int x5, .int x6]) ++ List.replicate (12 - (lg_sl ([.ref a0, .int x1, .int x2, .int x3, .int x4, .int x5, .int x6])).length) Slot.unset).toArray = ls at hl ⊢
  have hl : lv_has ls 12 [(0, .ref a0), (1, .int x1), (2, .int x2), (3, .int x3), (4, .int x4), (5, .int x5), (6, .int x6)] := hl
  have hE : Ext S0 S0 := Ext.rf _
  have cx : Cx p s m _ meth c cX11_span 12 RX11 (some .int) := ⟨hx, hb, hml, hown, hU, hr, hlk⟩
  have hcc : 0 + mc ≤ mc := by omega
  have hss : 0 + ms ≤ ms := by omega
  rw [wp_X11_span] at hm
  refine lv_aload_n hx hb dX11_span_0 rfl (lv_at hl 0 rfl) ?_
  refine lv_iload_n hx hb dX11_span_1 rfl (lv_at hl 2 rfl) ?_
  refine lv_iconst (v := 1) hx hb dX11_span_2 (by decide) ?_
  refine lv_bipush (v := 40) hx hb dX11_span_3 (by decide) ?_
  obtain ⟨r3, S_1, hq2, hm⟩ := hm
  refine pw_cz (va_runS (As := [.int x2, .int 1, .int 40]) (rest := [.ref a0]) ⟨hx, hb, hml, hown, hU⟩ (c_X11_isWithin l C X n S0 hw.wf _ x2 1 40  r3 S_1 hq2) ⟨callB_of 3 hU (pq_g1 tc_X11_isWithin) rfl rfl rfl (hU _ tw1) (hU _ tw453) cd_X11_isWithin.2 ⟨Nat.le_of_ble_eq_true rfl, Nat.le_of_ble_eq_true rfl⟩, hU _ tw454⟩ (pw_preS hw) rfl rfl hl.1 rfl (lv_room (Nat.le_of_ble_eq_true rfl)) dX11_span_5 ⟨by show _ ≤ mc; omega, by show _ ≤ ms; omega⟩) hw (fun H locs hw hx4 hz5 => ?_)
  have Ta0 : TY S_1 a0 11 := ty_ext hx4 Ta0
  have hE : Ext S0 S_1 := Ext.tr hE hx4
  refine lv_if_eq (tgt := 36) hx hb dX11_span_8 (by decide) (fun h6 => ?_) (fun h6 => ?_)
  · rw [if_pos h6] at hm
    exact wpb_X11_span_36 cx hno C X S0 n hst E Q mc ms a0 x1 x2 x3 x4 x5 x6 a0 S_1 _ _ _ (0) (0) mc ms hcc hss hw hE Ta0 Ta0 (lv_sub hl [0, 1, 2, 3, 4, 5, 6] rfl) hm
  · rw [if_neg h6] at hm
    refine lv_iload_n hx hb dX11_span_11 rfl (lv_at hl 3 rfl) ?_
    refine lv_iload hx hb dX11_span_12 (lv_at hl 4 rfl) ?_
    refine lv_iload hx hb dX11_span_14 (lv_at hl 5 rfl) ?_
    obtain ⟨r9, S_7, hq8, hm⟩ := hm
    refine pw_cz (va_runS (As := [.int x3, .int x4, .int x5]) (rest := [.ref a0]) ⟨hx, hb, hml, hown, hU⟩ (c_X11_isCloudSpan l C X n S_1 hw.wf _ x3 x4 x5  r9 S_7 hq8) ⟨callB_of 3 hU (pq_g1 tc_X11_isCloudSpan) rfl rfl rfl (hU _ tw1) (hU _ tw1405) cd_X11_isCloudSpan.2 ⟨Nat.le_of_ble_eq_true rfl, Nat.le_of_ble_eq_true rfl⟩, hU _ tw1406⟩ (pw_preS hw) rfl rfl hl.1 rfl (lv_room (Nat.le_of_ble_eq_true rfl)) dX11_span_16 ⟨by show _ ≤ mc; omega, by show _ ≤ ms; omega⟩) hw (fun H locs hw hx10 hz11 => ?_)
    have Ta0 : TY S_7 a0 11 := ty_ext hx10 Ta0
    have hE : Ext S0 S_7 := Ext.tr hE hx10
    refine lv_if_eq (tgt := 36) hx hb dX11_span_19 (by decide) (fun h12 => ?_) (fun h12 => ?_)
    · rw [if_pos h12] at hm
      exact wpb_X11_span_36 cx hno C X S0 n hst E Q mc ms a0 x1 x2 x3 x4 x5 x6 a0 S_7 _ _ _ (0) (0) mc ms hcc hss hw hE Ta0 Ta0 (lv_sub hl [0, 1, 2, 3, 4, 5, 6] rfl) hm
    · rw [if_neg h12] at hm
      refine lv_iload hx hb dX11_span_22 (lv_at hl 6 rfl) ?_
      refine lv_iconst (v := 0) hx hb dX11_span_24 (by decide) ?_
      refine lv_iconst (v := 2) hx hb dX11_span_25 (by decide) ?_
      obtain ⟨r15, S_13, hq14, hm⟩ := hm
      refine pw_cz (va_runS (As := [.int x6, .int 0, .int 2]) (rest := [.ref a0]) ⟨hx, hb, hml, hown, hU⟩ (c_X11_isWithin l C X n S_7 hw.wf _ x6 0 2  r15 S_13 hq14) ⟨callB_of 3 hU (pq_g1 tc_X11_isWithin) rfl rfl rfl (hU _ tw1) (hU _ tw453) cd_X11_isWithin.2 ⟨Nat.le_of_ble_eq_true rfl, Nat.le_of_ble_eq_true rfl⟩, hU _ tw454⟩ (pw_preS hw) rfl rfl hl.1 rfl (lv_room (Nat.le_of_ble_eq_true rfl)) dX11_span_26 ⟨by show _ ≤ mc; omega, by show _ ≤ ms; omega⟩) hw (fun H locs hw hx16 hz17 => ?_)
      have Ta0 : TY S_13 a0 11 := ty_ext hx16 Ta0
      have hE : Ext S0 S_13 := Ext.tr hE hx16
      refine lv_if_eq (tgt := 36) hx hb dX11_span_29 (by decide) (fun h18 => ?_) (fun h18 => ?_)
      · rw [if_pos h18] at hm
        exact wpb_X11_span_36 cx hno C X S0 n hst E Q mc ms a0 x1 x2 x3 x4 x5 x6 a0 S_13 _ _ _ (0) (0) mc ms hcc hss hw hE Ta0 Ta0 (lv_sub hl [0, 1, 2, 3, 4, 5, 6] rfl) hm
      · rw [if_neg h18] at hm
        refine lv_iconst (v := 1) hx hb dX11_span_32 (by decide) ?_
        refine lv_goto (tgt := 37) hx hb dX11_span_33 (by decide) ?_
        exact wpb_X11_span_37 cx hno C X S0 n hst E Q mc ms a0 x1 x2 x3 x4 x5 x6 a0 1 S_13 _ _ _ (0) (0) mc ms hcc hss hw hE Ta0 Ta0 (lv_sub hl [0, 1, 2, 3, 4, 5, 6] rfl) hm
abbrev rw_X11_ahead (mc ms : Nat) : Room := { frames := 8, cells := mc, slots := ms, locals := 131 }
def pb_X11_ahead_65 (n : Nat) : Nat → Nat → Int32 → Int32 → Int32 → Int32 → Int32 → pq_S → Nat → Nat → (Nat → pq_S → Prop) → (Int32 → pq_S → Prop) → Prop
  | 0, _, _, _, _, _, _, _, _, _, _, _ => False
  | f + 1, a0, x1, x2, x4, x5, x6, S, bc, bs, E, Q => if x2 ≤ x6 then Q x5 S else ∃ q34 : Nat, (pR S 1101 a0) = some q34 ∧ (∃ r37 S_35, m_X7_behindMonth n q34 x1 x4 x5 S = some (r37, S_35) ∧ (pb_X11_ahead_65 n f a0 x1 x2 x4 r37 (x6 + 1) S_35 bc bs E Q))
set_option maxHeartbeats 4000000 in
set_option maxRecDepth 100000 in
theorem wpb_X11_ahead_65 {p : Program} {l : Launch} {e : Env} {s : State} {m : MethodId} {args : Array Value} {below : List Frame} {meth : Method} {c : Code} (cx : Cx p s m args meth c cX11_ahead 7 RX11 (some .int)) (hno : ∀ x ∈ c.exceptionTable.toList, False) (C : pq_C) (X : va_W) (S0 : pq_S) (n : Nat) (hst : l.stackTraces = false) (E : (Nat → pq_S → Prop)) (Q : (Int32 → pq_S → Prop)) (mc ms : Nat) : ∀ (f : Nat) (a0 : Nat) (x1 : Int32) (x2 : Int32) (x4 : Int32) (x5 : Int32) (x6 : Int32) (S : pq_S) (H : Heap) (locs : List Loc) (ls : Array Slot) (cells slots bc bs : Nat), cells + bc ≤ mc → slots + bs ≤ ms → PW C X S (pq_F C X S0 s.heap.size) H locs s → Ext S0 S → TY S a0 11 → lv_has ls 7 [(0, .ref a0), (1, .int x1), (2, .int x2), (4, .int x4), (5, .int x5), (6, .int x6)] → pb_X11_ahead_65 n f a0 x1 x2 x4 x5 x6 S bc bs E Q → W p l e (rw_X11_ahead mc ms) s m args below meth c H locs cells slots (vx_MQ below (QwI C X S0 s.heap.size Q) (XcP C X S0 s.heap.size E) args s mc ms (pq_F C X S0 s.heap.size)) (F0 m 65 ls []) := by
  obtain ⟨hx, hb, hml, hown, hU, hr, hlk⟩ := id cx
  intro f
  induction f with
  | zero =>
    intro a0 x1 x2 x4 x5 x6 S H locs ls cells slots bc bs hcc hss hw hE Ta0 hl hm
    exact hm.elim
  | succ f ih =>
    intro a0 x1 x2 x4 x5 x6 S H locs ls cells slots bc bs hcc hss hw hE Ta0 hl hm
    rw [pb_X11_ahead_65] at hm
    refine lv_iload hx hb dX11_ahead_65 (lv_at hl 5 rfl) ?_
    refine lv_iload_n hx hb dX11_ahead_67 rfl (lv_at hl 2 rfl) ?_
    refine lv_icmp_ge (tgt := 91) hx hb dX11_ahead_68 (by decide) (fun h33 => ?_) (fun h33 => ?_)
    · rw [if_pos h33] at hm
      refine lv_iload hx hb dX11_ahead_91 (lv_at hl 4 rfl) ?_
      refine vx_ret ?_
      exact pw_wiret hx hb hr rfl hlk hw hE hm (by omega) (by omega) dX11_ahead_93
    · rw [if_neg h33] at hm
      refine lv_aload_n hx hb dX11_ahead_71 rfl (lv_at hl 0 rfl) ?_
      obtain ⟨q34, hq34, hm⟩ := hm
      have Tq34 : TY S q34 7 := hw.wf.ref (k := 11) (j := 1) Ta0 (by decide) (by decide) hq34
      refine pg_rb (k := 11) (j := 1) (f := 1101) hx hb hown hU iu11 hw Ta0 (by decide) rfl (hU _ tw364) rfl hq34 dX11_ahead_72 ?_
      refine lv_iload_n hx hb dX11_ahead_75 rfl (lv_at hl 1 rfl) ?_
      refine lv_iload hx hb dX11_ahead_76 (lv_at hl 3 rfl) ?_
      refine lv_iload hx hb dX11_ahead_78 (lv_at hl 4 rfl) ?_
      obtain ⟨r37, S_35, hq36, hm⟩ := hm
      refine pw_ci (va_runVN (As := [.int x1, .int x4, .int x5]) (rest := []) ⟨hx, hb, hml, hown, hU⟩ (c_X7_behindMonth l C X n S hw.wf _ q34 x1 x4 x5 (Tq34) r37 S_35 hq36) ⟨va_cnB (host := "WickNights") 3 hU (pq_g1 tc_X7_behindMonth) rfl rfl rfl (hw.nw 185 rfl) (hU _ tw3) cd_X7_behindMonth.2 ⟨Nat.le_of_ble_eq_true rfl, Nat.le_of_ble_eq_true rfl⟩, hU _ tw943, hU _ ts70⟩ (pw_preV hw Tq34 (by decide) rfl) rfl rfl hl.1 rfl (lv_room (Nat.le_of_ble_eq_true rfl)) dX11_ahead_80 ⟨by show _ ≤ mc; omega, by show _ ≤ ms; omega⟩) hw (fun H locs hw hx38 => ?_)
      have Ta0 : TY S_35 a0 11 := ty_ext hx38 Ta0
      have hE : Ext S0 S_35 := Ext.tr hE hx38
      refine lv_istore (lv' := [(5, .int r37), (0, .ref a0), (1, .int x1), (2, .int x2), (4, .int x4), (6, .int x6)]) hx hb dX11_ahead_83 hl (by decide) rfl (fun ls hl => ?_)
      refine lv_iinc (v := (x6 + 1)) (lv' := [(6, .int (x6 + 1)), (5, .int r37), (0, .ref a0), (1, .int x1), (2, .int x2), (4, .int x4)]) hx hb dX11_ahead_85 hl (k := 5) rfl rfl (by decide) rfl (fun ls hl => ?_)
      refine lv_goto (tgt := 65) hx hb dX11_ahead_88 (by decide) ?_
      exact ih a0 x1 x2 x4 r37 (x6 + 1) S_35 _ _ _ (cells) (slots) bc bs hcc hss hw hE Ta0 (lv_sub hl [2, 3, 4, 5, 1, 0] rfl) hm
def pb_X11_ahead_42 (n : Nat) (a0 : Nat) (x1 : Int32) (x2 : Int32) (z0 : Int32) (S : pq_S) (bc bs : Nat) (E : (Nat → pq_S → Prop)) (Q : (Int32 → pq_S → Prop)) : Prop := ∃ q26 : Nat, (pR S 1101 a0) = some q26 ∧ (∃ q27 : Nat, (pR S 701 q26) = some q27 ∧ (∃ q28 : Nat, (pR S 800 q27) = some q28 ∧ (∃ r31 S_29, m_X9_at n q28 x1 z0 S = some (r31, S_29) ∧ (pb_X11_ahead_65 n n a0 x1 x2 z0 r31 0 S_29 bc bs E Q))))
set_option maxHeartbeats 4000000 in
set_option maxRecDepth 100000 in
theorem wpb_X11_ahead_42 {p : Program} {l : Launch} {e : Env} {s : State} {m : MethodId} {args : Array Value} {below : List Frame} {meth : Method} {c : Code} (cx : Cx p s m args meth c cX11_ahead 7 RX11 (some .int)) (hno : ∀ x ∈ c.exceptionTable.toList, False) (C : pq_C) (X : va_W) (S0 : pq_S) (n : Nat) (hst : l.stackTraces = false) (E : (Nat → pq_S → Prop)) (Q : (Int32 → pq_S → Prop)) (mc ms : Nat) : ∀ (a0 : Nat) (x1 : Int32) (x2 : Int32) (z0 : Int32) (S : pq_S) (H : Heap) (locs : List Loc) (ls : Array Slot) (cells slots bc bs : Nat), cells + bc ≤ mc → slots + bs ≤ ms → PW C X S (pq_F C X S0 s.heap.size) H locs s → Ext S0 S → TY S a0 11 → lv_has ls 7 [(0, .ref a0), (1, .int x1), (2, .int x2)] → pb_X11_ahead_42 n a0 x1 x2 z0 S bc bs E Q → W p l e (rw_X11_ahead mc ms) s m args below meth c H locs cells slots (vx_MQ below (QwI C X S0 s.heap.size Q) (XcP C X S0 s.heap.size E) args s mc ms (pq_F C X S0 s.heap.size)) (F0 m 42 ls [.int z0]) := by
  obtain ⟨hx, hb, hml, hown, hU, hr, hlk⟩ := id cx
  intro a0 x1 x2 z0 S H locs ls cells slots bc bs hcc hss hw hE Ta0 hl hm
  rw [pb_X11_ahead_42] at hm
  refine lv_istore (lv' := [(4, .int z0), (0, .ref a0), (1, .int x1), (2, .int x2)]) hx hb dX11_ahead_42 hl (by decide) rfl (fun ls hl => ?_)
  refine lv_aload_n hx hb dX11_ahead_44 rfl (lv_at hl 1 rfl) ?_
  obtain ⟨q26, hq26, hm⟩ := hm
  have Tq26 : TY S q26 7 := hw.wf.ref (k := 11) (j := 1) Ta0 (by decide) (by decide) hq26
  refine pg_rb (k := 11) (j := 1) (f := 1101) hx hb hown hU iu11 hw Ta0 (by decide) rfl (hU _ tw364) rfl hq26 dX11_ahead_45 ?_
  obtain ⟨q27, hq27, hm⟩ := hm
  have Tq27 : TY S q27 8 := hw.wf.ref (k := 7) (j := 1) Tq26 (by decide) (by decide) hq27
  refine pgN_rb (k := 7) (j := 1) (f := 701) hx hb hown hU iu7 hw Tq26 (by decide) rfl 59 rfl rfl hq27 dX11_ahead_48 ?_
  obtain ⟨q28, hq28, hm⟩ := hm
  have Tq28 : TY S q28 9 := hw.wf.ref (k := 8) (j := 0) Tq27 (by decide) (by decide) hq28
  refine pgN_rb (k := 8) (j := 0) (f := 800) hx hb hown hU iu8 hw Tq27 (by decide) rfl 44 rfl rfl hq28 dX11_ahead_51 ?_
  refine lv_iload_n hx hb dX11_ahead_54 rfl (lv_at hl 2 rfl) ?_
  refine lv_iload hx hb dX11_ahead_55 (lv_at hl 0 rfl) ?_
  obtain ⟨r31, S_29, hq30, hm⟩ := hm
  refine pw_ci (va_runVN (As := [.int x1, .int z0]) (rest := []) ⟨hx, hb, hml, hown, hU⟩ (c_X9_at l C X n S hw.wf _ q28 x1 z0 (Tq28) r31 S_29 hq30) ⟨va_cnB (host := "WickNights") 2 hU (pq_g1 tc_X9_at) rfl rfl rfl (hw.nw 157 rfl) (hU _ tw5) cd_X9_at.2 ⟨Nat.le_of_ble_eq_true rfl, Nat.le_of_ble_eq_true rfl⟩, hU _ tw719, hU _ ts32⟩ (pw_preV hw Tq28 (by decide) rfl) rfl rfl hl.1 rfl (lv_room (Nat.le_of_ble_eq_true rfl)) dX11_ahead_57 ⟨by show _ ≤ mc; omega, by show _ ≤ ms; omega⟩) hw (fun H locs hw hx32 => ?_)
  have Ta0 : TY S_29 a0 11 := ty_ext hx32 Ta0
  have hE : Ext S0 S_29 := Ext.tr hE hx32
  refine lv_istore (lv' := [(5, .int r31), (4, .int z0), (0, .ref a0), (1, .int x1), (2, .int x2)]) hx hb dX11_ahead_60 hl (by decide) rfl (fun ls hl => ?_)
  refine lv_iconst (v := 0) hx hb dX11_ahead_62 (by decide) ?_
  refine lv_istore (lv' := [(6, .int 0), (5, .int r31), (4, .int z0), (0, .ref a0), (1, .int x1), (2, .int x2)]) hx hb dX11_ahead_63 hl (by decide) rfl (fun ls hl => ?_)
  exact wpb_X11_ahead_65 cx hno C X S0 n hst E Q mc ms n a0 x1 x2 z0 r31 0 S_29 _ _ _ (cells) (slots) bc bs hcc hss hw hE Ta0 (lv_sub hl [3, 4, 5, 2, 1, 0] rfl) hm
def pb_X11_ahead_30 (n : Nat) (a0 : Nat) (x1 : Int32) (x2 : Int32) (x3 : Int32) (b0 : Nat) (z1 : Int32) (S : pq_S) (bc bs : Nat) (E : (Nat → pq_S → Prop)) (Q : (Int32 → pq_S → Prop)) : Prop := ∃ c20 s21 : Nat, c20 ≤ bc ∧ s21 ≤ bs ∧ wp_X11_need n b0 z1 S c20 s21 E (fun S_19 => if x3 = 0 then pb_X11_ahead_42 n a0 x1 x2 0 S_19 (bc - (c20)) (bs - (s21)) E Q else pb_X11_ahead_42 n a0 x1 x2 1 S_19 (bc - (c20)) (bs - (s21)) E Q)
set_option maxHeartbeats 4000000 in
set_option maxRecDepth 100000 in
theorem wpb_X11_ahead_30 {p : Program} {l : Launch} {e : Env} {s : State} {m : MethodId} {args : Array Value} {below : List Frame} {meth : Method} {c : Code} (cx : Cx p s m args meth c cX11_ahead 7 RX11 (some .int)) (hno : ∀ x ∈ c.exceptionTable.toList, False) (C : pq_C) (X : va_W) (S0 : pq_S) (n : Nat) (hst : l.stackTraces = false) (E : (Nat → pq_S → Prop)) (Q : (Int32 → pq_S → Prop)) (mc ms : Nat) : ∀ (a0 : Nat) (x1 : Int32) (x2 : Int32) (x3 : Int32) (b0 : Nat) (z1 : Int32) (S : pq_S) (H : Heap) (locs : List Loc) (ls : Array Slot) (cells slots bc bs : Nat), cells + bc ≤ mc → slots + bs ≤ ms → PW C X S (pq_F C X S0 s.heap.size) H locs s → Ext S0 S → TY S a0 11 → TY S b0 11 → lv_has ls 7 [(0, .ref a0), (1, .int x1), (2, .int x2), (3, .int x3)] → pb_X11_ahead_30 n a0 x1 x2 x3 b0 z1 S bc bs E Q → W p l e (rw_X11_ahead mc ms) s m args below meth c H locs cells slots (vx_MQ below (QwI C X S0 s.heap.size Q) (XcP C X S0 s.heap.size E) args s mc ms (pq_F C X S0 s.heap.size)) (F0 m 30 ls [.int z1, .ref b0]) := by
  obtain ⟨hx, hb, hml, hown, hU, hr, hlk⟩ := id cx
  intro a0 x1 x2 x3 b0 z1 S H locs ls cells slots bc bs hcc hss hw hE Ta0 Tb0 hl hm
  rw [pb_X11_ahead_30] at hm
  obtain ⟨c20, s21, hb22, hb23, hm⟩ := hm
  refine px_v (vx_runV (As := [.int z1]) (rest := []) ⟨hx, hb, hml, hown, hU⟩ (cw_X11_need l C X n S hw.wf _ b0 z1 (Tb0) c20 s21 hst E _ hm) (cwV 1 hU (pq_gV tw490 tw492 ts7 tw1 tc_X11_need) rfl rfl rfl cd_X11_need ⟨Nat.le_of_ble_eq_true rfl, Nat.le_of_ble_eq_true rfl⟩) (pw_preV hw Tb0 (by decide) rfl) rfl rfl hl.1 rfl (lv_room (Nat.le_of_ble_eq_true rfl)) dX11_ahead_30 ⟨by show _ ≤ mc; omega, by show _ ≤ ms; omega⟩) hw hE hno hlk (by omega) (by omega) (fun S_19 H locs hm hw hx24 => ?_)
  have Ta0 : TY S_19 a0 11 := ty_ext hx24 Ta0
  have hE : Ext S0 S_19 := Ext.tr hE hx24
  refine W.widen (k := cells + (c20)) (n := slots + (s21)) (by omega) (by omega) ?_
  have hcc : cells + (c20) + (bc - (c20)) ≤ mc := by omega
  have hss : slots + (s21) + (bs - (s21)) ≤ ms := by omega
  refine lv_iload_n hx hb dX11_ahead_33 rfl (lv_at hl 3 rfl) ?_
  refine lv_if_ne (tgt := 41) hx hb dX11_ahead_34 (by decide) (fun h25 => ?_) (fun h25 => ?_)
  · rw [if_neg h25] at hm
    refine lv_iconst (v := 1) hx hb dX11_ahead_41 (by decide) ?_
    exact wpb_X11_ahead_42 cx hno C X S0 n hst E Q mc ms a0 x1 x2 1 S_19 _ _ _ (cells + (c20)) (slots + (s21)) (bc - (c20)) (bs - (s21)) hcc hss hw hE Ta0 (lv_sub hl [0, 1, 2] rfl) hm
  · rw [if_pos h25] at hm
    refine lv_iconst (v := 0) hx hb dX11_ahead_37 (by decide) ?_
    refine lv_goto (tgt := 42) hx hb dX11_ahead_38 (by decide) ?_
    exact wpb_X11_ahead_42 cx hno C X S0 n hst E Q mc ms a0 x1 x2 0 S_19 _ _ _ (cells + (c20)) (slots + (s21)) (bc - (c20)) (bs - (s21)) hcc hss hw hE Ta0 (lv_sub hl [0, 1, 2] rfl) hm
def pb_X11_ahead_29 (n : Nat) (a0 : Nat) (x1 : Int32) (x2 : Int32) (x3 : Int32) (b0 : Nat) (S : pq_S) (bc bs : Nat) (E : (Nat → pq_S → Prop)) (Q : (Int32 → pq_S → Prop)) : Prop := pb_X11_ahead_30 n a0 x1 x2 x3 b0 0 S bc bs E Q
set_option maxHeartbeats 4000000 in
set_option maxRecDepth 100000 in
theorem wpb_X11_ahead_29 {p : Program} {l : Launch} {e : Env} {s : State} {m : MethodId} {args : Array Value} {below : List Frame} {meth : Method} {c : Code} (cx : Cx p s m args meth c cX11_ahead 7 RX11 (some .int)) (hno : ∀ x ∈ c.exceptionTable.toList, False) (C : pq_C) (X : va_W) (S0 : pq_S) (n : Nat) (hst : l.stackTraces = false) (E : (Nat → pq_S → Prop)) (Q : (Int32 → pq_S → Prop)) (mc ms : Nat) : ∀ (a0 : Nat) (x1 : Int32) (x2 : Int32) (x3 : Int32) (b0 : Nat) (S : pq_S) (H : Heap) (locs : List Loc) (ls : Array Slot) (cells slots bc bs : Nat), cells + bc ≤ mc → slots + bs ≤ ms → PW C X S (pq_F C X S0 s.heap.size) H locs s → Ext S0 S → TY S a0 11 → TY S b0 11 → lv_has ls 7 [(0, .ref a0), (1, .int x1), (2, .int x2), (3, .int x3)] → pb_X11_ahead_29 n a0 x1 x2 x3 b0 S bc bs E Q → W p l e (rw_X11_ahead mc ms) s m args below meth c H locs cells slots (vx_MQ below (QwI C X S0 s.heap.size Q) (XcP C X S0 s.heap.size E) args s mc ms (pq_F C X S0 s.heap.size)) (F0 m 29 ls [.ref b0]) := by
  obtain ⟨hx, hb, hml, hown, hU, hr, hlk⟩ := id cx
  intro a0 x1 x2 x3 b0 S H locs ls cells slots bc bs hcc hss hw hE Ta0 Tb0 hl hm
  rw [pb_X11_ahead_29] at hm
  refine lv_iconst (v := 0) hx hb dX11_ahead_29 (by decide) ?_
  exact wpb_X11_ahead_30 cx hno C X S0 n hst E Q mc ms a0 x1 x2 x3 b0 0 S _ _ _ (cells) (slots) bc bs hcc hss hw hE Ta0 Tb0 (lv_sub hl [0, 1, 2, 3] rfl) hm
def wp_X11_ahead (n : Nat) (a0 : Nat) (x1 : Int32) (x2 : Int32) (x3 : Int32) (S0 : pq_S) (mc ms : Nat) (E : (Nat → pq_S → Prop)) (Q : (Int32 → pq_S → Prop)) : Prop := ∃ c2 s3 : Nat, c2 ≤ mc ∧ s3 ≤ ms ∧ wp_X11_needPlace n a0 x1 S0 c2 s3 E (fun S_1 => ∃ r9 S_7, m_X11_isWithin n x2 0 60 S_1 = some (r9, S_7) ∧ (if r9 = 0 then pb_X11_ahead_29 n a0 x1 x2 x3 a0 S_7 (mc - (c2)) (ms - (s3)) E Q else ∃ r15 S_13, m_X11_isWithin n x3 0 1 S_7 = some (r15, S_13) ∧ (if r15 = 0 then pb_X11_ahead_29 n a0 x1 x2 x3 a0 S_13 (mc - (c2)) (ms - (s3)) E Q else pb_X11_ahead_30 n a0 x1 x2 x3 a0 1 S_13 (mc - (c2)) (ms - (s3)) E Q)))
theorem tc_X11_ahead : Cond.code yX11_ahead cX11_ahead 7 (some .int) ∈ pq_U := tw1428
theorem cd_X11_ahead : yX11_ahead.cls = RX11 ∧ yX11_ahead.cls ≠ "java/lang/invoke/MethodHandle" ∧ yX11_ahead.cls ≠ "java/lang/invoke/VarHandle" ∧ (parseMethodDescriptor yX11_ahead.desc).map (fun d => d.parameters.length) = some 3 := by decide +kernel
set_option maxHeartbeats 4000000 in
set_option maxRecDepth 100000 in
theorem cw_X11_ahead (l : Launch) (C : pq_C) (X : va_W) (n : Nat) (S0 : pq_S) (hF : WF S0) (sz : Nat) (a0 : Nat) (x1 : Int32) (x2 : Int32) (x3 : Int32) (Ta0 : TY S0 a0 11) (mc ms : Nat) (hst : l.stackTraces = false) (E : (Nat → pq_S → Prop)) (Q : (Int32 → pq_S → Prop)) (hm : wp_X11_ahead n a0 x1 x2 x3 S0 mc ms E Q) : vx_Met l yX11_ahead (.code yX11_ahead cX11_ahead 7 (some .int) :: pq_U) (rw_X11_ahead mc ms) (va_Pc [.ref a0, .int x1, .int x2, .int x3] (CPre C X S0 sz)) (QwI C X S0 sz Q) (XcP C X S0 sz E) mc ms (pq_F C X S0 sz) := by
  refine vx_ofW (cc := cX11_ahead) (maxL := 7) (ret := (some .int)) (by decide) rfl ?_
  intro p e s m args below meth c s₁ B hml hno hv
  obtain ⟨rfl, hv⟩ := hv
  have hsz := hv.1
  subst hsz
  have hw := pw_entry hF hv
  have hts := atoms_spec (ws := .code yX11_ahead cX11_ahead 7 (some .int) :: pq_U) B.pre
  have hU : ∀ w ∈ pq_U, w.before _ s = true := fun w h => hts w (List.mem_cons_of_mem _ h)
  have hx := B.exec
  have hb := B.bytes
  have hr := B.returns
  have hown : s.vm.findClass RX11 = some m.cls := findClass_of_methodNamed B.named
  have hlk := B.notSynchronized
  have hl := lv_entry ([.ref a0, .int x1, .int x2, .int x3]) (n := 7) (Nat.le_of_ble_eq_true rfl)
  rw [lg_entry_eq]
  generalize (lg_sl ([.ref a0, .int x1, .int x2, .int x3]) ++ List.replicate (7 - (lg_sl ([.ref a0, .int x1, .int x2, .int x3])).length) Slot.unset).toArray = ls at hl ⊢
  have hl : lv_has ls 7 [(0, .ref a0), (1, .int x1), (2, .int x2), (3, .int x3)] := hl
  have hE : Ext S0 S0 := Ext.rf _
  have cx : Cx p s m _ meth c cX11_ahead 7 RX11 (some .int) := ⟨hx, hb, hml, hown, hU, hr, hlk⟩
  have hcc : 0 + mc ≤ mc := by omega
  have hss : 0 + ms ≤ ms := by omega
  rw [wp_X11_ahead] at hm
  refine lv_aload_n hx hb dX11_ahead_0 rfl (lv_at hl 0 rfl) ?_
  refine lv_iload_n hx hb dX11_ahead_1 rfl (lv_at hl 1 rfl) ?_
  obtain ⟨c2, s3, hb4, hb5, hm⟩ := hm
  refine px_v (vx_runV (As := [.int x1]) (rest := []) ⟨hx, hb, hml, hown, hU⟩ (cw_X11_needPlace l C X n S0 hw.wf _ a0 x1 (Ta0) c2 s3 hst E _ hm) (cwV 1 hU (pq_gV tw996 tw998 ts76 tw1 tc_X11_needPlace) rfl rfl rfl cd_X11_needPlace ⟨Nat.le_of_ble_eq_true rfl, Nat.le_of_ble_eq_true rfl⟩) (pw_preV hw Ta0 (by decide) rfl) rfl rfl hl.1 rfl (lv_room (Nat.le_of_ble_eq_true rfl)) dX11_ahead_2 ⟨by show _ ≤ mc; omega, by show _ ≤ ms; omega⟩) hw hE hno hlk (by omega) (by omega) (fun S_1 H locs hm hw hx6 => ?_)
  have Ta0 : TY S_1 a0 11 := ty_ext hx6 Ta0
  have hE : Ext S0 S_1 := Ext.tr hE hx6
  refine W.widen (k := c2) (n := s3) (by omega) (by omega) ?_
  have hcc : c2 + (mc - (c2)) ≤ mc := by omega
  have hss : s3 + (ms - (s3)) ≤ ms := by omega
  refine lv_aload_n hx hb dX11_ahead_5 rfl (lv_at hl 0 rfl) ?_
  refine lv_iload_n hx hb dX11_ahead_6 rfl (lv_at hl 2 rfl) ?_
  refine lv_iconst (v := 0) hx hb dX11_ahead_7 (by decide) ?_
  refine lv_bipush (v := 60) hx hb dX11_ahead_8 (by decide) ?_
  obtain ⟨r9, S_7, hq8, hm⟩ := hm
  refine pw_cz (va_runS (As := [.int x2, .int 0, .int 60]) (rest := [.ref a0]) ⟨hx, hb, hml, hown, hU⟩ (c_X11_isWithin l C X n S_1 hw.wf _ x2 0 60  r9 S_7 hq8) ⟨callB_of 3 hU (pq_g1 tc_X11_isWithin) rfl rfl rfl (hU _ tw1) (hU _ tw453) cd_X11_isWithin.2 ⟨Nat.le_of_ble_eq_true rfl, Nat.le_of_ble_eq_true rfl⟩, hU _ tw454⟩ (pw_preS hw) rfl rfl hl.1 rfl (lv_room (Nat.le_of_ble_eq_true rfl)) dX11_ahead_10 ⟨by show _ ≤ mc; omega, by show _ ≤ ms; omega⟩) hw (fun H locs hw hx10 hz11 => ?_)
  have Ta0 : TY S_7 a0 11 := ty_ext hx10 Ta0
  have hE : Ext S0 S_7 := Ext.tr hE hx10
  refine lv_if_eq (tgt := 29) hx hb dX11_ahead_13 (by decide) (fun h12 => ?_) (fun h12 => ?_)
  · rw [if_pos h12] at hm
    exact wpb_X11_ahead_29 cx hno C X S0 n hst E Q mc ms a0 x1 x2 x3 a0 S_7 _ _ _ (c2) (s3) (mc - (c2)) (ms - (s3)) hcc hss hw hE Ta0 Ta0 (lv_sub hl [0, 1, 2, 3] rfl) hm
  · rw [if_neg h12] at hm
    refine lv_iload_n hx hb dX11_ahead_16 rfl (lv_at hl 3 rfl) ?_
    refine lv_iconst (v := 0) hx hb dX11_ahead_17 (by decide) ?_
    refine lv_iconst (v := 1) hx hb dX11_ahead_18 (by decide) ?_
    obtain ⟨r15, S_13, hq14, hm⟩ := hm
    refine pw_cz (va_runS (As := [.int x3, .int 0, .int 1]) (rest := [.ref a0]) ⟨hx, hb, hml, hown, hU⟩ (c_X11_isWithin l C X n S_7 hw.wf _ x3 0 1  r15 S_13 hq14) ⟨callB_of 3 hU (pq_g1 tc_X11_isWithin) rfl rfl rfl (hU _ tw1) (hU _ tw453) cd_X11_isWithin.2 ⟨Nat.le_of_ble_eq_true rfl, Nat.le_of_ble_eq_true rfl⟩, hU _ tw454⟩ (pw_preS hw) rfl rfl hl.1 rfl (lv_room (Nat.le_of_ble_eq_true rfl)) dX11_ahead_19 ⟨by show _ ≤ mc; omega, by show _ ≤ ms; omega⟩) hw (fun H locs hw hx16 hz17 => ?_)
    have Ta0 : TY S_13 a0 11 := ty_ext hx16 Ta0
    have hE : Ext S0 S_13 := Ext.tr hE hx16
    refine lv_if_eq (tgt := 29) hx hb dX11_ahead_22 (by decide) (fun h18 => ?_) (fun h18 => ?_)
    · rw [if_pos h18] at hm
      exact wpb_X11_ahead_29 cx hno C X S0 n hst E Q mc ms a0 x1 x2 x3 a0 S_13 _ _ _ (c2) (s3) (mc - (c2)) (ms - (s3)) hcc hss hw hE Ta0 Ta0 (lv_sub hl [0, 1, 2, 3] rfl) hm
    · rw [if_neg h18] at hm
      refine lv_iconst (v := 1) hx hb dX11_ahead_25 (by decide) ?_
      refine lv_goto (tgt := 30) hx hb dX11_ahead_26 (by decide) ?_
      exact wpb_X11_ahead_30 cx hno C X S0 n hst E Q mc ms a0 x1 x2 x3 a0 1 S_13 _ _ _ (c2) (s3) (mc - (c2)) (ms - (s3)) hcc hss hw hE Ta0 Ta0 (lv_sub hl [0, 1, 2, 3] rfl) hm
abbrev rw_X11_chosen (mc ms : Nat) : Room := { frames := 7, cells := mc, slots := ms, locals := 110 }
def wp_X11_chosen (n : Nat) (a0 : Nat) (x1 : Int32) (S0 : pq_S) (mc ms : Nat) (E : (Nat → pq_S → Prop)) (Q : (Int32 → pq_S → Prop)) : Prop := ∃ r3 S_1, m_X11_isWithin n x1 0 1 S0 = some (r3, S_1) ∧ (∃ c7 s8 : Nat, c7 ≤ mc ∧ s8 ≤ ms ∧ wp_X11_need n a0 r3 S_1 c7 s8 E (fun S_6 => if x1 = 0 then ∃ q18 : Nat, (pR S_6 1101 a0) = some q18 ∧ (∃ r21 S_19, m_X7_fullestPlace n q18 S_6 = some (r21, S_19) ∧ (Q r21 S_19)) else ∃ q13 : Nat, (pR S_6 1101 a0) = some q13 ∧ (∃ r16 S_14, m_X7_dearestWant n q13 S_6 = some (r16, S_14) ∧ (Q r16 S_14))))
theorem tc_X11_chosen : Cond.code yX11_chosen cX11_chosen 2 (some .int) ∈ pq_U := tw1436
theorem cd_X11_chosen : yX11_chosen.cls = RX11 ∧ yX11_chosen.cls ≠ "java/lang/invoke/MethodHandle" ∧ yX11_chosen.cls ≠ "java/lang/invoke/VarHandle" ∧ (parseMethodDescriptor yX11_chosen.desc).map (fun d => d.parameters.length) = some 1 := by decide +kernel
set_option maxHeartbeats 4000000 in
set_option maxRecDepth 100000 in
theorem cw_X11_chosen (l : Launch) (C : pq_C) (X : va_W) (n : Nat) (S0 : pq_S) (hF : WF S0) (sz : Nat) (a0 : Nat) (x1 : Int32) (Ta0 : TY S0 a0 11) (mc ms : Nat) (hst : l.stackTraces = false) (E : (Nat → pq_S → Prop)) (Q : (Int32 → pq_S → Prop)) (hm : wp_X11_chosen n a0 x1 S0 mc ms E Q) : vx_Met l yX11_chosen (.code yX11_chosen cX11_chosen 2 (some .int) :: pq_U) (rw_X11_chosen mc ms) (va_Pc [.ref a0, .int x1] (CPre C X S0 sz)) (QwI C X S0 sz Q) (XcP C X S0 sz E) mc ms (pq_F C X S0 sz) := by
  refine vx_ofW (cc := cX11_chosen) (maxL := 2) (ret := (some .int)) (by decide) rfl ?_
  intro p e s m args below meth c s₁ B hml hno hv
  obtain ⟨rfl, hv⟩ := hv
  have hsz := hv.1
  subst hsz
  have hw := pw_entry hF hv
  have hts := atoms_spec (ws := .code yX11_chosen cX11_chosen 2 (some .int) :: pq_U) B.pre
  have hU : ∀ w ∈ pq_U, w.before _ s = true := fun w h => hts w (List.mem_cons_of_mem _ h)
  have hx := B.exec
  have hb := B.bytes
  have hr := B.returns
  have hown : s.vm.findClass RX11 = some m.cls := findClass_of_methodNamed B.named
  have hlk := B.notSynchronized
  have hl := lv_entry ([.ref a0, .int x1]) (n := 2) (Nat.le_of_ble_eq_true rfl)
  rw [lg_entry_eq]
  generalize (lg_sl ([.ref a0, .int x1]) ++ List.replicate (2 - (lg_sl ([.ref a0, .int x1])).length) Slot.unset).toArray = ls at hl ⊢
  have hl : lv_has ls 2 [(0, .ref a0), (1, .int x1)] := hl
  have hE : Ext S0 S0 := Ext.rf _
  have cx : Cx p s m _ meth c cX11_chosen 2 RX11 (some .int) := ⟨hx, hb, hml, hown, hU, hr, hlk⟩
  have hcc : 0 + mc ≤ mc := by omega
  have hss : 0 + ms ≤ ms := by omega
  rw [wp_X11_chosen] at hm
  refine lv_aload_n hx hb dX11_chosen_0 rfl (lv_at hl 0 rfl) ?_
  refine lv_iload_n hx hb dX11_chosen_1 rfl (lv_at hl 1 rfl) ?_
  refine lv_iconst (v := 0) hx hb dX11_chosen_2 (by decide) ?_
  refine lv_iconst (v := 1) hx hb dX11_chosen_3 (by decide) ?_
  obtain ⟨r3, S_1, hq2, hm⟩ := hm
  refine pw_cz (va_runS (As := [.int x1, .int 0, .int 1]) (rest := [.ref a0]) ⟨hx, hb, hml, hown, hU⟩ (c_X11_isWithin l C X n S0 hw.wf _ x1 0 1  r3 S_1 hq2) ⟨callB_of 3 hU (pq_g1 tc_X11_isWithin) rfl rfl rfl (hU _ tw1) (hU _ tw453) cd_X11_isWithin.2 ⟨Nat.le_of_ble_eq_true rfl, Nat.le_of_ble_eq_true rfl⟩, hU _ tw454⟩ (pw_preS hw) rfl rfl hl.1 rfl (lv_room (Nat.le_of_ble_eq_true rfl)) dX11_chosen_4 ⟨by show _ ≤ mc; omega, by show _ ≤ ms; omega⟩) hw (fun H locs hw hx4 hz5 => ?_)
  have Ta0 : TY S_1 a0 11 := ty_ext hx4 Ta0
  have hE : Ext S0 S_1 := Ext.tr hE hx4
  obtain ⟨c7, s8, hb9, hb10, hm⟩ := hm
  refine px_v (vx_runV (As := [.int r3]) (rest := []) ⟨hx, hb, hml, hown, hU⟩ (cw_X11_need l C X n S_1 hw.wf _ a0 r3 (Ta0) c7 s8 hst E _ hm) (cwV 1 hU (pq_gV tw490 tw492 ts7 tw1 tc_X11_need) rfl rfl rfl cd_X11_need ⟨Nat.le_of_ble_eq_true rfl, Nat.le_of_ble_eq_true rfl⟩) (pw_preV hw Ta0 (by decide) rfl) rfl rfl hl.1 rfl (lv_room (Nat.le_of_ble_eq_true rfl)) dX11_chosen_7 ⟨by show _ ≤ mc; omega, by show _ ≤ ms; omega⟩) hw hE hno hlk (by omega) (by omega) (fun S_6 H locs hm hw hx11 => ?_)
  have Ta0 : TY S_6 a0 11 := ty_ext hx11 Ta0
  have hE : Ext S0 S_6 := Ext.tr hE hx11
  refine W.widen (k := c7) (n := s8) (by omega) (by omega) ?_
  have hcc : c7 + (mc - (c7)) ≤ mc := by omega
  have hss : s8 + (ms - (s8)) ≤ ms := by omega
  refine lv_iload_n hx hb dX11_chosen_10 rfl (lv_at hl 1 rfl) ?_
  refine lv_if_ne (tgt := 24) hx hb dX11_chosen_11 (by decide) (fun h12 => ?_) (fun h12 => ?_)
  · rw [if_neg h12] at hm
    refine lv_aload_n hx hb dX11_chosen_24 rfl (lv_at hl 0 rfl) ?_
    obtain ⟨q13, hq13, hm⟩ := hm
    have Tq13 : TY S_6 q13 7 := hw.wf.ref (k := 11) (j := 1) Ta0 (by decide) (by decide) hq13
    refine pg_rb (k := 11) (j := 1) (f := 1101) hx hb hown hU iu11 hw Ta0 (by decide) rfl (hU _ tw364) rfl hq13 dX11_chosen_25 ?_
    obtain ⟨r16, S_14, hq15, hm⟩ := hm
    refine pw_ci (va_runVN (As := []) (rest := []) ⟨hx, hb, hml, hown, hU⟩ (c_X7_dearestWant l C X n S_6 hw.wf _ q13 (Tq13) r16 S_14 hq15) ⟨va_cnB (host := "WickNights") 0 hU (pq_g1 tc_X7_dearestWant) rfl rfl rfl (hw.nw 187 rfl) (hU _ tw3) cd_X7_dearestWant.2 ⟨Nat.le_of_ble_eq_true rfl, Nat.le_of_ble_eq_true rfl⟩, hU _ tw1443, hU _ ts118⟩ (pw_preV hw Tq13 (by decide) rfl) rfl rfl hl.1 rfl (lv_room (Nat.le_of_ble_eq_true rfl)) dX11_chosen_28 ⟨by show _ ≤ mc; omega, by show _ ≤ ms; omega⟩) hw (fun H locs hw hx17 => ?_)
    have Ta0 : TY S_14 a0 11 := ty_ext hx17 Ta0
    have hE : Ext S0 S_14 := Ext.tr hE hx17
    refine vx_ret ?_
    exact pw_wiret hx hb hr rfl hlk hw hE hm (by omega) (by omega) dX11_chosen_31
  · rw [if_pos h12] at hm
    refine lv_aload_n hx hb dX11_chosen_14 rfl (lv_at hl 0 rfl) ?_
    obtain ⟨q18, hq18, hm⟩ := hm
    have Tq18 : TY S_6 q18 7 := hw.wf.ref (k := 11) (j := 1) Ta0 (by decide) (by decide) hq18
    refine pg_rb (k := 11) (j := 1) (f := 1101) hx hb hown hU iu11 hw Ta0 (by decide) rfl (hU _ tw364) rfl hq18 dX11_chosen_15 ?_
    obtain ⟨r21, S_19, hq20, hm⟩ := hm
    refine pw_ci (va_runVN (As := []) (rest := []) ⟨hx, hb, hml, hown, hU⟩ (c_X7_fullestPlace l C X n S_6 hw.wf _ q18 (Tq18) r21 S_19 hq20) ⟨va_cnB (host := "WickNights") 0 hU (pq_g1 tc_X7_fullestPlace) rfl rfl rfl (hw.nw 186 rfl) (hU _ tw3) cd_X7_fullestPlace.2 ⟨Nat.le_of_ble_eq_true rfl, Nat.le_of_ble_eq_true rfl⟩, hU _ tw1439, hU _ ts117⟩ (pw_preV hw Tq18 (by decide) rfl) rfl rfl hl.1 rfl (lv_room (Nat.le_of_ble_eq_true rfl)) dX11_chosen_18 ⟨by show _ ≤ mc; omega, by show _ ≤ ms; omega⟩) hw (fun H locs hw hx22 => ?_)
    have Ta0 : TY S_19 a0 11 := ty_ext hx22 Ta0
    have hE : Ext S0 S_19 := Ext.tr hE hx22
    refine lv_goto (tgt := 31) hx hb dX11_chosen_21 (by decide) ?_
    refine vx_ret ?_
    exact pw_wiret hx hb hr rfl hlk hw hE hm (by omega) (by omega) dX11_chosen_31
abbrev rw_X1_init (mc ms : Nat) : Room := { frames := 2, cells := mc, slots := ms, locals := 42 }
def wp_X1_init (n : Nat) (a0 : Nat) (S0 : pq_S) (mc ms : Nat) (Q : (pq_S → Prop)) : Prop := 1 ≤ mc ∧ 3 ≤ ms ∧ ∀ q1 : Nat, q1 ∉ pL S0 → (1 ≤ (mc - (1)) ∧ 24 ≤ (ms - (3)) ∧ ∀ q5 : Nat, q5 ∉ pL (nO S0 q1 9) → (∃ c12 s13 : Nat, c12 ≤ (mc - (2)) ∧ s13 ≤ (ms - (27)) ∧ wp_X9_init n q1 q5 4 (nA (nO S0 q1 9) q5 14 24) c12 s13 (fun S_11 => 1 ≤ (mc - (2 + c12)) ∧ 3 ≤ (ms - (27 + s13)) ∧ ∀ q17 : Nat, q17 ∉ pL (sR S_11 100 a0 (some q1)) → (1 ≤ (mc - (3 + c12)) ∧ 48 ≤ (ms - (30 + s13)) ∧ ∀ q21 : Nat, q21 ∉ pL (nO (sR S_11 100 a0 (some q1)) q17 9) → (∃ c28 s29 : Nat, c28 ≤ (mc - (4 + c12)) ∧ s29 ≤ (ms - (78 + s13)) ∧ wp_X9_init n q17 q21 4 (nA (nO (sR S_11 100 a0 (some q1)) q17 9) q21 14 48) c28 s29 (fun S_27 => 1 ≤ (mc - (4 + c12 + c28)) ∧ 3 ≤ (ms - (78 + s13 + s29)) ∧ ∀ q33 : Nat, q33 ∉ pL (sR S_27 101 a0 (some q17)) → (1 ≤ (mc - (5 + c12 + c28)) ∧ 9 ≤ (ms - (81 + s13 + s29)) ∧ ∀ q37 : Nat, q37 ∉ pL (nO (sR S_27 101 a0 (some q17)) q33 9) → (∃ c44 s45 : Nat, c44 ≤ (mc - (6 + c12 + c28)) ∧ s45 ≤ (ms - (90 + s13 + s29)) ∧ wp_X9_init n q33 q37 3 (nA (nO (sR S_27 101 a0 (some q17)) q33 9) q37 14 9) c44 s45 (fun S_43 => 1 ≤ (mc - (6 + c12 + c28 + c44)) ∧ 3 ≤ (ms - (90 + s13 + s29 + s45)) ∧ ∀ q49 : Nat, q49 ∉ pL (sR S_43 102 a0 (some q33)) → (1 ≤ (mc - (7 + c12 + c28 + c44)) ∧ 6 ≤ (ms - (93 + s13 + s29 + s45)) ∧ ∀ q53 : Nat, q53 ∉ pL (nO (sR S_43 102 a0 (some q33)) q49 9) → (∃ c60 s61 : Nat, c60 ≤ (mc - (8 + c12 + c28 + c44)) ∧ s61 ≤ (ms - (99 + s13 + s29 + s45)) ∧ wp_X9_init n q49 q53 2 (nA (nO (sR S_43 102 a0 (some q33)) q49 9) q53 14 6) c60 s61 (fun S_59 => Q (sI (sI (sR S_59 103 a0 (some q49)) 104 a0 1) 105 a0 3)))))))))))))
theorem tc_X1_init : Cond.code yX1_init cX1_init 1 none ∈ pq_U := tw82
theorem cd_X1_init : yX1_init.cls = RX1 ∧ yX1_init.cls ≠ "java/lang/invoke/MethodHandle" ∧ yX1_init.cls ≠ "java/lang/invoke/VarHandle" ∧ (parseMethodDescriptor yX1_init.desc).map (fun d => d.parameters.length) = some 0 := by decide +kernel
set_option maxHeartbeats 4000000 in
set_option maxRecDepth 100000 in
theorem cw_X1_init (l : Launch) (C : pq_C) (X : va_W) (n : Nat) (S0 : pq_S) (hF : WF S0) (sz : Nat) (a0 : Nat) (Ta0 : TY S0 a0 1) (mc ms : Nat) (Q : (pq_S → Prop)) (hm : wp_X1_init n a0 S0 mc ms Q) : Met l yX1_init (.code yX1_init cX1_init 1 none :: pq_U) (rw_X1_init mc ms) (va_Pc [.ref a0] (CPre C X S0 sz)) (QwV C X S0 sz Q) mc ms (pq_F C X S0 sz) := by
  refine Met.ofW (cc := cX1_init) (maxL := 1) (ret := none) (by decide) rfl ?_
  intro p e s m args below meth c s₁ B hml hv
  obtain ⟨rfl, hv⟩ := hv
  have hsz := hv.1
  subst hsz
  have hw := pw_entry hF hv
  have hts := atoms_spec (ws := .code yX1_init cX1_init 1 none :: pq_U) B.pre
  have hU : ∀ w ∈ pq_U, w.before _ s = true := fun w h => hts w (List.mem_cons_of_mem _ h)
  have hx := B.exec
  have hb := B.bytes
  have hr := B.returns
  have hown : s.vm.findClass RX1 = some m.cls := findClass_of_methodNamed B.named
  have hlk := B.notSynchronized
  have hin : meth.name = "<init>" := (name_of_methodNamed B.named B.method).1
  have hl := lv_entry ([.ref a0]) (n := 1) (Nat.le_of_ble_eq_true rfl)
  rw [lg_entry_eq]
  generalize (lg_sl ([.ref a0]) ++ List.replicate (1 - (lg_sl ([.ref a0])).length) Slot.unset).toArray = ls at hl ⊢
  have hl : lv_has ls 1 [(0, .ref a0)] := hl
  have hE : Ext S0 S0 := Ext.rf _
  have cx : Cx p s m _ meth c cX1_init 1 RX1 none := ⟨hx, hb, hml, hown, hU, hr, hlk⟩
  have hcc : 0 + mc ≤ mc := by omega
  have hss : 0 + ms ≤ ms := by omega
  rw [wp_X1_init] at hm
  refine lv_aload_n hx hb dX1_init_0 rfl (lv_at hl 0 rfl) ?_
  refine pw_obj hx hb (by rw [hml]; exact hl.1.symm) hown (hU _ tw83) (hU _ tw_obji) (hU _ tw_objc) dX1_init_1 (Nat.le_of_ble_eq_true rfl) (Nat.le_of_ble_eq_true rfl) ?_
  refine lv_aload_n hx hb dX1_init_4 rfl (lv_at hl 0 rfl) ?_
  obtain ⟨hb3, hb4, hm⟩ := hm
  refine pn_new (k := 9) hx hb hown hU iu9 tyX9_ok (hU _ tw84) (hU _ tw85) (hU _ tw5) hw (by decide) rfl (by decide) (by show _ ≤ mc; omega) (by show _ ≤ ms; omega) dX1_init_5 (fun q1 H hf2 hw => ?_)
  replace hm := hm q1 hf2
  have Ta0 : TY (nO S0 q1 9) a0 1 := ty_ext (ext_nO hf2) Ta0
  have hE : Ext S0 (nO S0 q1 9) := Ext.tr hE (ext_nO hf2)
  have Tq1 : TY (nO S0 q1 9) q1 9 := ty_nO _ _ _
  refine W.widen (k := 1) (n := 3) (by omega) (by omega) ?_
  have hcc : 1 + (mc - (1)) ≤ mc := by omega
  have hss : 3 + (ms - (3)) ≤ ms := by omega
  refine lv_dup hx hb dX1_init_8 rfl ?_
  refine lv_bipush (v := 24) hx hb dX1_init_9 (by decide) ?_
  obtain ⟨hb7, hb8, hm⟩ := hm
  refine pn_newI (N := 24) hx hb (hU _ tw108) hw (by decide) (by decide) (by decide) (by show _ ≤ mc; omega) (by show _ ≤ ms; omega) dX1_init_11 (fun q5 H hf6 hw => ?_)
  replace hm := hm q5 hf6
  have Ta0 : TY (nA (nO S0 q1 9) q5 14 24) a0 1 := ty_ext (ext_nA (n := 24) hf6) Ta0
  have Tq1 : TY (nA (nO S0 q1 9) q5 14 24) q1 9 := ty_ext (ext_nA (n := 24) hf6) Tq1
  have hE : Ext S0 (nA (nO S0 q1 9) q5 14 24) := Ext.tr hE (ext_nA (n := 24) hf6)
  have Tq5 : TY (nA (nO S0 q1 9) q5 14 24) q5 14 := ty_nA _ _ _ _
  refine W.widen (k := 2) (n := 27) (by omega) (by omega) ?_
  have hcc : 2 + (mc - (2)) ≤ mc := by omega
  have hss : 27 + (ms - (27)) ≤ ms := by omega
  refine lv_iconst (v := 4) hx hb dX1_init_13 (by decide) ?_
  obtain ⟨c12, s13, hb14, hb15, hm⟩ := hm
  refine pw_wv (va_runIN (As := [.ref q5, .int 4]) (rest := [.ref q1, .ref a0]) ⟨hx, hb, hml, hown, hU⟩ (cw_X9_init l C X n (nA (nO S0 q1 9) q5 14 24) hw.wf _ q1 q5 4 (Tq1) (Tq5) c12 s13 _ hm) ⟨va_cnB (host := "WickNights") 2 hU (pq_g1 tc_X9_init) rfl rfl rfl (hw.nw 12 rfl) (hU _ tw5) cd_X9_init.2 ⟨Nat.le_of_ble_eq_true rfl, Nat.le_of_ble_eq_true rfl⟩, rfl, hU _ tw87⟩ (pw_preS hw) rfl rfl hl.1 rfl (lv_room (Nat.le_of_ble_eq_true rfl)) dX1_init_14 ⟨by show _ ≤ mc; omega, by show _ ≤ ms; omega⟩) hw (fun S_11 H locs hm hw hx16 => ?_)
  have Ta0 : TY S_11 a0 1 := ty_ext hx16 Ta0
  have Tq1 : TY S_11 q1 9 := ty_ext hx16 Tq1
  have hE : Ext S0 S_11 := Ext.tr hE hx16
  refine W.widen (k := 2 + c12) (n := 27 + s13) (by omega) (by omega) ?_
  have hcc : 2 + c12 + (mc - (2 + c12)) ≤ mc := by omega
  have hss : 27 + s13 + (ms - (27 + s13)) ≤ ms := by omega
  refine ppF_r (k := 1) (j := 0) (f := 100) hx hb hown hU iu1 tyX1_ok nmX1 hw Ta0 Tq1 (by decide) rfl (hU _ tw109) rfl rfl hin rfl rfl rfl rfl dX1_init_17 (fun H locs hw => ?_)
  refine lv_aload_n hx hb dX1_init_20 rfl (lv_at hl 0 rfl) ?_
  obtain ⟨hb19, hb20, hm⟩ := hm
  refine pn_new (k := 9) hx hb hown hU iu9 tyX9_ok (hU _ tw84) (hU _ tw85) (hU _ tw5) hw (by decide) rfl (by decide) (by show _ ≤ mc; omega) (by show _ ≤ ms; omega) dX1_init_21 (fun q17 H hf18 hw => ?_)
  replace hm := hm q17 hf18
  have Ta0 : TY (nO (sR S_11 100 a0 (some q1)) q17 9) a0 1 := ty_ext (ext_nO hf18) Ta0
  have hE : Ext S0 (nO (sR S_11 100 a0 (some q1)) q17 9) := Ext.tr hE (ext_nO hf18)
  have Tq17 : TY (nO (sR S_11 100 a0 (some q1)) q17 9) q17 9 := ty_nO _ _ _
  refine W.widen (k := 3 + c12) (n := 30 + s13) (by omega) (by omega) ?_
  have hcc : 3 + c12 + (mc - (3 + c12)) ≤ mc := by omega
  have hss : 30 + s13 + (ms - (30 + s13)) ≤ ms := by omega
  refine lv_dup hx hb dX1_init_24 rfl ?_
  refine lv_bipush (v := 48) hx hb dX1_init_25 (by decide) ?_
  obtain ⟨hb23, hb24, hm⟩ := hm
  refine pn_newI (N := 48) hx hb (hU _ tw108) hw (by decide) (by decide) (by decide) (by show _ ≤ mc; omega) (by show _ ≤ ms; omega) dX1_init_27 (fun q21 H hf22 hw => ?_)
  replace hm := hm q21 hf22
  have Ta0 : TY (nA (nO (sR S_11 100 a0 (some q1)) q17 9) q21 14 48) a0 1 := ty_ext (ext_nA (n := 48) hf22) Ta0
  have Tq17 : TY (nA (nO (sR S_11 100 a0 (some q1)) q17 9) q21 14 48) q17 9 := ty_ext (ext_nA (n := 48) hf22) Tq17
  have hE : Ext S0 (nA (nO (sR S_11 100 a0 (some q1)) q17 9) q21 14 48) := Ext.tr hE (ext_nA (n := 48) hf22)
  have Tq21 : TY (nA (nO (sR S_11 100 a0 (some q1)) q17 9) q21 14 48) q21 14 := ty_nA _ _ _ _
  refine W.widen (k := 4 + c12) (n := 78 + s13) (by omega) (by omega) ?_
  have hcc : 4 + c12 + (mc - (4 + c12)) ≤ mc := by omega
  have hss : 78 + s13 + (ms - (78 + s13)) ≤ ms := by omega
  refine lv_iconst (v := 4) hx hb dX1_init_29 (by decide) ?_
  obtain ⟨c28, s29, hb30, hb31, hm⟩ := hm
  refine pw_wv (va_runIN (As := [.ref q21, .int 4]) (rest := [.ref q17, .ref a0]) ⟨hx, hb, hml, hown, hU⟩ (cw_X9_init l C X n (nA (nO (sR S_11 100 a0 (some q1)) q17 9) q21 14 48) hw.wf _ q17 q21 4 (Tq17) (Tq21) c28 s29 _ hm) ⟨va_cnB (host := "WickNights") 2 hU (pq_g1 tc_X9_init) rfl rfl rfl (hw.nw 12 rfl) (hU _ tw5) cd_X9_init.2 ⟨Nat.le_of_ble_eq_true rfl, Nat.le_of_ble_eq_true rfl⟩, rfl, hU _ tw87⟩ (pw_preS hw) rfl rfl hl.1 rfl (lv_room (Nat.le_of_ble_eq_true rfl)) dX1_init_30 ⟨by show _ ≤ mc; omega, by show _ ≤ ms; omega⟩) hw (fun S_27 H locs hm hw hx32 => ?_)
  have Ta0 : TY S_27 a0 1 := ty_ext hx32 Ta0
  have Tq17 : TY S_27 q17 9 := ty_ext hx32 Tq17
  have hE : Ext S0 S_27 := Ext.tr hE hx32
  refine W.widen (k := 4 + c12 + c28) (n := 78 + s13 + s29) (by omega) (by omega) ?_
  have hcc : 4 + c12 + c28 + (mc - (4 + c12 + c28)) ≤ mc := by omega
  have hss : 78 + s13 + s29 + (ms - (78 + s13 + s29)) ≤ ms := by omega
  refine ppF_r (k := 1) (j := 1) (f := 101) hx hb hown hU iu1 tyX1_ok nmX1 hw Ta0 Tq17 (by decide) rfl (hU _ tw116) rfl rfl hin rfl rfl rfl rfl dX1_init_33 (fun H locs hw => ?_)
  refine lv_aload_n hx hb dX1_init_36 rfl (lv_at hl 0 rfl) ?_
  obtain ⟨hb35, hb36, hm⟩ := hm
  refine pn_new (k := 9) hx hb hown hU iu9 tyX9_ok (hU _ tw84) (hU _ tw85) (hU _ tw5) hw (by decide) rfl (by decide) (by show _ ≤ mc; omega) (by show _ ≤ ms; omega) dX1_init_37 (fun q33 H hf34 hw => ?_)
  replace hm := hm q33 hf34
  have Ta0 : TY (nO (sR S_27 101 a0 (some q17)) q33 9) a0 1 := ty_ext (ext_nO hf34) Ta0
  have hE : Ext S0 (nO (sR S_27 101 a0 (some q17)) q33 9) := Ext.tr hE (ext_nO hf34)
  have Tq33 : TY (nO (sR S_27 101 a0 (some q17)) q33 9) q33 9 := ty_nO _ _ _
  refine W.widen (k := 5 + c12 + c28) (n := 81 + s13 + s29) (by omega) (by omega) ?_
  have hcc : 5 + c12 + c28 + (mc - (5 + c12 + c28)) ≤ mc := by omega
  have hss : 81 + s13 + s29 + (ms - (81 + s13 + s29)) ≤ ms := by omega
  refine lv_dup hx hb dX1_init_40 rfl ?_
  refine lv_bipush (v := 9) hx hb dX1_init_41 (by decide) ?_
  obtain ⟨hb39, hb40, hm⟩ := hm
  refine pn_newI (N := 9) hx hb (hU _ tw108) hw (by decide) (by decide) (by decide) (by show _ ≤ mc; omega) (by show _ ≤ ms; omega) dX1_init_43 (fun q37 H hf38 hw => ?_)
  replace hm := hm q37 hf38
  have Ta0 : TY (nA (nO (sR S_27 101 a0 (some q17)) q33 9) q37 14 9) a0 1 := ty_ext (ext_nA (n := 9) hf38) Ta0
  have Tq33 : TY (nA (nO (sR S_27 101 a0 (some q17)) q33 9) q37 14 9) q33 9 := ty_ext (ext_nA (n := 9) hf38) Tq33
  have hE : Ext S0 (nA (nO (sR S_27 101 a0 (some q17)) q33 9) q37 14 9) := Ext.tr hE (ext_nA (n := 9) hf38)
  have Tq37 : TY (nA (nO (sR S_27 101 a0 (some q17)) q33 9) q37 14 9) q37 14 := ty_nA _ _ _ _
  refine W.widen (k := 6 + c12 + c28) (n := 90 + s13 + s29) (by omega) (by omega) ?_
  have hcc : 6 + c12 + c28 + (mc - (6 + c12 + c28)) ≤ mc := by omega
  have hss : 90 + s13 + s29 + (ms - (90 + s13 + s29)) ≤ ms := by omega
  refine lv_iconst (v := 3) hx hb dX1_init_45 (by decide) ?_
  obtain ⟨c44, s45, hb46, hb47, hm⟩ := hm
  refine pw_wv (va_runIN (As := [.ref q37, .int 3]) (rest := [.ref q33, .ref a0]) ⟨hx, hb, hml, hown, hU⟩ (cw_X9_init l C X n (nA (nO (sR S_27 101 a0 (some q17)) q33 9) q37 14 9) hw.wf _ q33 q37 3 (Tq33) (Tq37) c44 s45 _ hm) ⟨va_cnB (host := "WickNights") 2 hU (pq_g1 tc_X9_init) rfl rfl rfl (hw.nw 12 rfl) (hU _ tw5) cd_X9_init.2 ⟨Nat.le_of_ble_eq_true rfl, Nat.le_of_ble_eq_true rfl⟩, rfl, hU _ tw87⟩ (pw_preS hw) rfl rfl hl.1 rfl (lv_room (Nat.le_of_ble_eq_true rfl)) dX1_init_46 ⟨by show _ ≤ mc; omega, by show _ ≤ ms; omega⟩) hw (fun S_43 H locs hm hw hx48 => ?_)
  have Ta0 : TY S_43 a0 1 := ty_ext hx48 Ta0
  have Tq33 : TY S_43 q33 9 := ty_ext hx48 Tq33
  have hE : Ext S0 S_43 := Ext.tr hE hx48
  refine W.widen (k := 6 + c12 + c28 + c44) (n := 90 + s13 + s29 + s45) (by omega) (by omega) ?_
  have hcc : 6 + c12 + c28 + c44 + (mc - (6 + c12 + c28 + c44)) ≤ mc := by omega
  have hss : 90 + s13 + s29 + s45 + (ms - (90 + s13 + s29 + s45)) ≤ ms := by omega
  refine ppF_r (k := 1) (j := 2) (f := 102) hx hb hown hU iu1 tyX1_ok nmX1 hw Ta0 Tq33 (by decide) rfl (hU _ tw123) rfl rfl hin rfl rfl rfl rfl dX1_init_49 (fun H locs hw => ?_)
  refine lv_aload_n hx hb dX1_init_52 rfl (lv_at hl 0 rfl) ?_
  obtain ⟨hb51, hb52, hm⟩ := hm
  refine pn_new (k := 9) hx hb hown hU iu9 tyX9_ok (hU _ tw84) (hU _ tw85) (hU _ tw5) hw (by decide) rfl (by decide) (by show _ ≤ mc; omega) (by show _ ≤ ms; omega) dX1_init_53 (fun q49 H hf50 hw => ?_)
  replace hm := hm q49 hf50
  have Ta0 : TY (nO (sR S_43 102 a0 (some q33)) q49 9) a0 1 := ty_ext (ext_nO hf50) Ta0
  have hE : Ext S0 (nO (sR S_43 102 a0 (some q33)) q49 9) := Ext.tr hE (ext_nO hf50)
  have Tq49 : TY (nO (sR S_43 102 a0 (some q33)) q49 9) q49 9 := ty_nO _ _ _
  refine W.widen (k := 7 + c12 + c28 + c44) (n := 93 + s13 + s29 + s45) (by omega) (by omega) ?_
  have hcc : 7 + c12 + c28 + c44 + (mc - (7 + c12 + c28 + c44)) ≤ mc := by omega
  have hss : 93 + s13 + s29 + s45 + (ms - (93 + s13 + s29 + s45)) ≤ ms := by omega
  refine lv_dup hx hb dX1_init_56 rfl ?_
  refine lv_bipush (v := 6) hx hb dX1_init_57 (by decide) ?_
  obtain ⟨hb55, hb56, hm⟩ := hm
  refine pn_newI (N := 6) hx hb (hU _ tw108) hw (by decide) (by decide) (by decide) (by show _ ≤ mc; omega) (by show _ ≤ ms; omega) dX1_init_59 (fun q53 H hf54 hw => ?_)
  replace hm := hm q53 hf54
  have Ta0 : TY (nA (nO (sR S_43 102 a0 (some q33)) q49 9) q53 14 6) a0 1 := ty_ext (ext_nA (n := 6) hf54) Ta0
  have Tq49 : TY (nA (nO (sR S_43 102 a0 (some q33)) q49 9) q53 14 6) q49 9 := ty_ext (ext_nA (n := 6) hf54) Tq49
  have hE : Ext S0 (nA (nO (sR S_43 102 a0 (some q33)) q49 9) q53 14 6) := Ext.tr hE (ext_nA (n := 6) hf54)
  have Tq53 : TY (nA (nO (sR S_43 102 a0 (some q33)) q49 9) q53 14 6) q53 14 := ty_nA _ _ _ _
  refine W.widen (k := 8 + c12 + c28 + c44) (n := 99 + s13 + s29 + s45) (by omega) (by omega) ?_
  have hcc : 8 + c12 + c28 + c44 + (mc - (8 + c12 + c28 + c44)) ≤ mc := by omega
  have hss : 99 + s13 + s29 + s45 + (ms - (99 + s13 + s29 + s45)) ≤ ms := by omega
  refine lv_iconst (v := 2) hx hb dX1_init_61 (by decide) ?_
  obtain ⟨c60, s61, hb62, hb63, hm⟩ := hm
  refine pw_wv (va_runIN (As := [.ref q53, .int 2]) (rest := [.ref q49, .ref a0]) ⟨hx, hb, hml, hown, hU⟩ (cw_X9_init l C X n (nA (nO (sR S_43 102 a0 (some q33)) q49 9) q53 14 6) hw.wf _ q49 q53 2 (Tq49) (Tq53) c60 s61 _ hm) ⟨va_cnB (host := "WickNights") 2 hU (pq_g1 tc_X9_init) rfl rfl rfl (hw.nw 12 rfl) (hU _ tw5) cd_X9_init.2 ⟨Nat.le_of_ble_eq_true rfl, Nat.le_of_ble_eq_true rfl⟩, rfl, hU _ tw87⟩ (pw_preS hw) rfl rfl hl.1 rfl (lv_room (Nat.le_of_ble_eq_true rfl)) dX1_init_62 ⟨by show _ ≤ mc; omega, by show _ ≤ ms; omega⟩) hw (fun S_59 H locs hm hw hx64 => ?_)
  have Ta0 : TY S_59 a0 1 := ty_ext hx64 Ta0
  have Tq49 : TY S_59 q49 9 := ty_ext hx64 Tq49
  have hE : Ext S0 S_59 := Ext.tr hE hx64
  refine W.widen (k := 8 + c12 + c28 + c44 + c60) (n := 99 + s13 + s29 + s45 + s61) (by omega) (by omega) ?_
  have hcc : 8 + c12 + c28 + c44 + c60 + (mc - (8 + c12 + c28 + c44 + c60)) ≤ mc := by omega
  have hss : 99 + s13 + s29 + s45 + s61 + (ms - (99 + s13 + s29 + s45 + s61)) ≤ ms := by omega
  refine ppF_r (k := 1) (j := 3) (f := 103) hx hb hown hU iu1 tyX1_ok nmX1 hw Ta0 Tq49 (by decide) rfl (hU _ tw128) rfl rfl hin rfl rfl rfl rfl dX1_init_65 (fun H locs hw => ?_)
  refine lv_aload_n hx hb dX1_init_68 rfl (lv_at hl 0 rfl) ?_
  refine lv_iconst (v := 1) hx hb dX1_init_69 (by decide) ?_
  refine pp_i (k := 1) (j := 4) (f := 104) hx hb hown hU iu1 tyX1_ok nmX1 hw Ta0 (by decide) rfl (hU _ tw130) rfl rfl rfl dX1_init_70 (fun H locs hw => ?_)
  refine lv_aload_n hx hb dX1_init_73 rfl (lv_at hl 0 rfl) ?_
  refine lv_iconst (v := 3) hx hb dX1_init_74 (by decide) ?_
  refine pp_i (k := 1) (j := 5) (f := 105) hx hb hown hU iu1 tyX1_ok nmX1 hw Ta0 (by decide) rfl (hU _ tw132) rfl rfl rfl dX1_init_75 (fun H locs hw => ?_)
  exact pw_wvret hx hb hr hlk hw hE hm (by omega) (by omega) dX1_init_78
abbrev rw_X4_leastNight (mc ms : Nat) : Room := { frames := 4, cells := mc, slots := ms, locals := 99 }
def pb_X4_leastNight_66 (n : Nat) (k6 : Nat → Int32 → Int32 → Int32 → Int32 → pq_S → Nat → Nat → (Int32 → pq_S → Prop) → Prop) (a0 : Nat) (x1 : Int32) (x2 : Int32) (x3 : Int32) (x4 : Int32) (S : pq_S) (bc bs : Nat) (Q : (Int32 → pq_S → Prop)) : Prop := k6 a0 x1 x2 x3 (x4 + 1) S bc bs Q
set_option maxHeartbeats 4000000 in
set_option maxRecDepth 100000 in
theorem wpb_X4_leastNight_66 {p : Program} {l : Launch} {e : Env} {s : State} {m : MethodId} {args : Array Value} {below : List Frame} {meth : Method} {c : Code} (cx : Cx p s m args meth c cX4_leastNight 5 RX4 (some .int)) (C : pq_C) (X : va_W) (S0 : pq_S) (n : Nat) (Q : (Int32 → pq_S → Prop)) (mc ms : Nat) (k6 : Nat → Int32 → Int32 → Int32 → Int32 → pq_S → Nat → Nat → (Int32 → pq_S → Prop) → Prop) (hk6 : ∀ (a0 : Nat) (x1 : Int32) (x2 : Int32) (x3 : Int32) (x4 : Int32) (S : pq_S) (H : Heap) (locs : List Loc) (ls : Array Slot) (cells slots bc bs : Nat), cells + bc ≤ mc → slots + bs ≤ ms → PW C X S (pq_F C X S0 s.heap.size) H locs s → Ext S0 S → TY S a0 4 → lv_has ls 5 [(0, .ref a0), (1, .int x1), (2, .int x2), (3, .int x3), (4, .int x4)] → k6 a0 x1 x2 x3 x4 S bc bs Q → W p l e (rw_X4_leastNight mc ms) s m args below meth c H locs cells slots (MQ below (QwI C X S0 s.heap.size Q) args s mc ms (pq_F C X S0 s.heap.size)) (F0 m 9 ls [])) : ∀ (a0 : Nat) (x1 : Int32) (x2 : Int32) (x3 : Int32) (x4 : Int32) (S : pq_S) (H : Heap) (locs : List Loc) (ls : Array Slot) (cells slots bc bs : Nat), cells + bc ≤ mc → slots + bs ≤ ms → PW C X S (pq_F C X S0 s.heap.size) H locs s → Ext S0 S → TY S a0 4 → lv_has ls 5 [(0, .ref a0), (1, .int x1), (2, .int x2), (3, .int x3), (4, .int x4)] → pb_X4_leastNight_66 n k6 a0 x1 x2 x3 x4 S bc bs Q → W p l e (rw_X4_leastNight mc ms) s m args below meth c H locs cells slots (MQ below (QwI C X S0 s.heap.size Q) args s mc ms (pq_F C X S0 s.heap.size)) (F0 m 66 ls []) := by
  obtain ⟨hx, hb, hml, hown, hU, hr, hlk⟩ := id cx
  intro a0 x1 x2 x3 x4 S H locs ls cells slots bc bs hcc hss hw hE Ta0 hl hm
  rw [pb_X4_leastNight_66] at hm
  refine lv_iinc (v := (x4 + 1)) (lv' := [(4, .int (x4 + 1)), (0, .ref a0), (1, .int x1), (2, .int x2), (3, .int x3)]) hx hb dX4_leastNight_66 hl (k := 4) rfl rfl (by decide) rfl (fun ls hl => ?_)
  refine lv_goto (tgt := 9) hx hb dX4_leastNight_69 (by decide) ?_
  exact hk6 a0 x1 x2 x3 (x4 + 1) S _ _ _ (cells) (slots) bc bs hcc hss hw hE Ta0 (lv_sub hl [1, 2, 3, 4, 0] rfl) hm
def pb_X4_leastNight_9 (n : Nat) : Nat → Nat → Int32 → Int32 → Int32 → Int32 → pq_S → Nat → Nat → (Int32 → pq_S → Prop) → Prop
  | 0, _, _, _, _, _, _, _, _, _ => False
  | f + 1, a0, x1, x2, x3, x4, S, bc, bs, Q => if (pI S 406 a0) ≤ x4 then Q (-1) S else ∃ r8 S_6, m_X4_takenOf n a0 x4 S = some (r8, S_6) ∧ (if x2 < (r8 + x3) then pb_X4_leastNight_66 n (pb_X4_leastNight_9 n f) a0 x1 x2 x3 x4 S_6 bc bs Q else ∃ S_11 : pq_S, m_X4_take n a0 x4 x3 S_6 = some S_11 ∧ (∃ c15 s16 : Nat, c15 ≤ bc ∧ s16 ≤ bs ∧ wp_X4_lastNight n a0 (x1 + (1 : Int32)) x2 (pI S_11 406 a0) S_11 c15 s16 (fun r19 S_14 => if r19 = 1024 then ∃ S_22 : pq_S, m_X4_take n a0 x4 (-x3) S_14 = some S_22 ∧ (pb_X4_leastNight_66 n (pb_X4_leastNight_9 n f) a0 x1 x2 x3 x4 S_22 (bc - (c15)) (bs - (s16)) Q) else Q x4 S_14)))
set_option maxHeartbeats 4000000 in
set_option maxRecDepth 100000 in
theorem wpb_X4_leastNight_9 {p : Program} {l : Launch} {e : Env} {s : State} {m : MethodId} {args : Array Value} {below : List Frame} {meth : Method} {c : Code} (cx : Cx p s m args meth c cX4_leastNight 5 RX4 (some .int)) (C : pq_C) (X : va_W) (S0 : pq_S) (n : Nat) (Q : (Int32 → pq_S → Prop)) (mc ms : Nat) : ∀ (f : Nat) (a0 : Nat) (x1 : Int32) (x2 : Int32) (x3 : Int32) (x4 : Int32) (S : pq_S) (H : Heap) (locs : List Loc) (ls : Array Slot) (cells slots bc bs : Nat), cells + bc ≤ mc → slots + bs ≤ ms → PW C X S (pq_F C X S0 s.heap.size) H locs s → Ext S0 S → TY S a0 4 → lv_has ls 5 [(0, .ref a0), (1, .int x1), (2, .int x2), (3, .int x3), (4, .int x4)] → pb_X4_leastNight_9 n f a0 x1 x2 x3 x4 S bc bs Q → W p l e (rw_X4_leastNight mc ms) s m args below meth c H locs cells slots (MQ below (QwI C X S0 s.heap.size Q) args s mc ms (pq_F C X S0 s.heap.size)) (F0 m 9 ls []) := by
  obtain ⟨hx, hb, hml, hown, hU, hr, hlk⟩ := id cx
  intro f
  induction f with
  | zero =>
    intro a0 x1 x2 x3 x4 S H locs ls cells slots bc bs hcc hss hw hE Ta0 hl hm
    exact hm.elim
  | succ f ih =>
    intro a0 x1 x2 x3 x4 S H locs ls cells slots bc bs hcc hss hw hE Ta0 hl hm
    rw [pb_X4_leastNight_9] at hm
    refine lv_iload hx hb dX4_leastNight_9 (lv_at hl 4 rfl) ?_
    refine lv_aload_n hx hb dX4_leastNight_11 rfl (lv_at hl 0 rfl) ?_
    refine pg_i (k := 4) (j := 6) (f := 406) hx hb hown hU iu4 hw Ta0 (by decide) rfl (hU _ tw284) rfl dX4_leastNight_12 ?_
    refine lv_icmp_ge (tgt := 72) hx hb dX4_leastNight_15 (by decide) (fun h5 => ?_) (fun h5 => ?_)
    · rw [if_pos h5] at hm
      refine lv_iconst (v := (-1)) hx hb dX4_leastNight_72 (by decide) ?_
      exact pw_wiret hx hb hr rfl hlk hw hE hm (by omega) (by omega) dX4_leastNight_73
    · rw [if_neg h5] at hm
      refine lv_aload_n hx hb dX4_leastNight_18 rfl (lv_at hl 0 rfl) ?_
      refine lv_iload hx hb dX4_leastNight_19 (lv_at hl 4 rfl) ?_
      obtain ⟨r8, S_6, hq7, hm⟩ := hm
      refine pw_ci (va_runV (As := [.int x4]) (rest := []) ⟨hx, hb, hml, hown, hU⟩ (c_X4_takenOf l C X n S hw.wf _ a0 x4 (Ta0) r8 S_6 hq7) (cwV 1 hU (pq_gV tw1219 tw1221 ts93 tw9 tc_X4_takenOf) rfl rfl rfl cd_X4_takenOf ⟨Nat.le_of_ble_eq_true rfl, Nat.le_of_ble_eq_true rfl⟩) (pw_preV hw Ta0 (by decide) rfl) rfl rfl hl.1 rfl (lv_room (Nat.le_of_ble_eq_true rfl)) dX4_leastNight_21 ⟨by show _ ≤ mc; omega, by show _ ≤ ms; omega⟩) hw (fun H locs hw hx9 => ?_)
      have Ta0 : TY S_6 a0 4 := ty_ext hx9 Ta0
      have hE : Ext S0 S_6 := Ext.tr hE hx9
      refine lv_iload_n hx hb dX4_leastNight_24 rfl (lv_at hl 3 rfl) ?_
      refine lv_iadd hx hb dX4_leastNight_25 ?_
      refine lv_iload_n hx hb dX4_leastNight_26 rfl (lv_at hl 2 rfl) ?_
      refine lv_icmp_gt (tgt := 66) hx hb dX4_leastNight_27 (by decide) (fun h10 => ?_) (fun h10 => ?_)
      · rw [if_pos h10] at hm
        exact wpb_X4_leastNight_66 cx C X S0 n Q mc ms _ ih a0 x1 x2 x3 x4 S_6 _ _ _ (cells) (slots) bc bs hcc hss hw hE Ta0 (lv_sub hl [0, 1, 2, 3, 4] rfl) hm
      · rw [if_neg h10] at hm
        refine lv_aload_n hx hb dX4_leastNight_30 rfl (lv_at hl 0 rfl) ?_
        refine lv_iload hx hb dX4_leastNight_31 (lv_at hl 4 rfl) ?_
        refine lv_iload_n hx hb dX4_leastNight_33 rfl (lv_at hl 3 rfl) ?_
        obtain ⟨S_11, hq12, hm⟩ := hm
        refine pw_cv (va_runV (As := [.int x4, .int x3]) (rest := []) ⟨hx, hb, hml, hown, hU⟩ (c_X4_take l C X n S_6 hw.wf _ a0 x4 x3 (Ta0) S_11 hq12) (cwV 2 hU (pq_gV tw1240 tw1242 ts98 tw9 tc_X4_take) rfl rfl rfl cd_X4_take ⟨Nat.le_of_ble_eq_true rfl, Nat.le_of_ble_eq_true rfl⟩) (pw_preV hw Ta0 (by decide) rfl) rfl rfl hl.1 rfl (lv_room (Nat.le_of_ble_eq_true rfl)) dX4_leastNight_34 ⟨by show _ ≤ mc; omega, by show _ ≤ ms; omega⟩) hw (fun H locs hw hx13 => ?_)
        have Ta0 : TY S_11 a0 4 := ty_ext hx13 Ta0
        have hE : Ext S0 S_11 := Ext.tr hE hx13
        refine lv_aload_n hx hb dX4_leastNight_37 rfl (lv_at hl 0 rfl) ?_
        refine lv_iload_n hx hb dX4_leastNight_38 rfl (lv_at hl 1 rfl) ?_
        refine lv_iconst (v := 1) hx hb dX4_leastNight_39 (by decide) ?_
        refine lv_iadd hx hb dX4_leastNight_40 ?_
        refine lv_iload_n hx hb dX4_leastNight_41 rfl (lv_at hl 2 rfl) ?_
        refine lv_aload_n hx hb dX4_leastNight_42 rfl (lv_at hl 0 rfl) ?_
        refine pg_i (k := 4) (j := 6) (f := 406) hx hb hown hU iu4 hw Ta0 (by decide) rfl (hU _ tw284) rfl dX4_leastNight_43 ?_
        obtain ⟨c15, s16, hb17, hb18, hm⟩ := hm
        refine pw_wi (va_runV (As := [.int (x1 + (1 : Int32)), .int x2, .int (pI S_11 406 a0)]) (rest := []) ⟨hx, hb, hml, hown, hU⟩ (cw_X4_lastNight l C X n S_11 hw.wf _ a0 (x1 + (1 : Int32)) x2 (pI S_11 406 a0) (Ta0) c15 s16 _ hm) (cwV 3 hU (pq_gV tw1215 tw1217 ts92 tw9 tc_X4_lastNight) rfl rfl rfl cd_X4_lastNight ⟨Nat.le_of_ble_eq_true rfl, Nat.le_of_ble_eq_true rfl⟩) (pw_preV hw Ta0 (by decide) rfl) rfl rfl hl.1 rfl (lv_room (Nat.le_of_ble_eq_true rfl)) dX4_leastNight_46 ⟨by show _ ≤ mc; omega, by show _ ≤ ms; omega⟩) hw (fun r19 S_14 H locs hm hw hx20 => ?_)
        have Ta0 : TY S_14 a0 4 := ty_ext hx20 Ta0
        have hE : Ext S0 S_14 := Ext.tr hE hx20
        refine W.widen (k := cells + (c15)) (n := slots + (s16)) (by omega) (by omega) ?_
        have hcc : cells + (c15) + (bc - (c15)) ≤ mc := by omega
        have hss : slots + (s16) + (bs - (s16)) ≤ ms := by omega
        refine lv_sipush (v := 1024) hx hb dX4_leastNight_49 (by decide) ?_
        refine lv_icmp_eq (tgt := 58) hx hb dX4_leastNight_52 (by decide) (fun h21 => ?_) (fun h21 => ?_)
        · rw [if_pos h21] at hm
          refine lv_aload_n hx hb dX4_leastNight_58 rfl (lv_at hl 0 rfl) ?_
          refine lv_iload hx hb dX4_leastNight_59 (lv_at hl 4 rfl) ?_
          refine lv_iload_n hx hb dX4_leastNight_61 rfl (lv_at hl 3 rfl) ?_
          refine lv_ineg hx hb dX4_leastNight_62 ?_
          obtain ⟨S_22, hq23, hm⟩ := hm
          refine pw_cv (va_runV (As := [.int x4, .int (-x3)]) (rest := []) ⟨hx, hb, hml, hown, hU⟩ (c_X4_take l C X n S_14 hw.wf _ a0 x4 (-x3) (Ta0) S_22 hq23) (cwV 2 hU (pq_gV tw1240 tw1242 ts98 tw9 tc_X4_take) rfl rfl rfl cd_X4_take ⟨Nat.le_of_ble_eq_true rfl, Nat.le_of_ble_eq_true rfl⟩) (pw_preV hw Ta0 (by decide) rfl) rfl rfl hl.1 rfl (lv_room (Nat.le_of_ble_eq_true rfl)) dX4_leastNight_63 ⟨by show _ ≤ mc; omega, by show _ ≤ ms; omega⟩) hw (fun H locs hw hx24 => ?_)
          have Ta0 : TY S_22 a0 4 := ty_ext hx24 Ta0
          have hE : Ext S0 S_22 := Ext.tr hE hx24
          exact wpb_X4_leastNight_66 cx C X S0 n Q mc ms _ ih a0 x1 x2 x3 x4 S_22 _ _ _ (cells + (c15)) (slots + (s16)) (bc - (c15)) (bs - (s16)) hcc hss hw hE Ta0 (lv_sub hl [0, 1, 2, 3, 4] rfl) hm
        · rw [if_neg h21] at hm
          refine lv_iload hx hb dX4_leastNight_55 (lv_at hl 4 rfl) ?_
          exact pw_wiret hx hb hr rfl hlk hw hE hm (by omega) (by omega) dX4_leastNight_57
def wp_X4_leastNight (n : Nat) (a0 : Nat) (x1 : Int32) (x2 : Int32) (S0 : pq_S) (mc ms : Nat) (Q : (Int32 → pq_S → Prop)) : Prop := ∃ r3 S_1, m_X4_hoursOf n a0 x1 S0 = some (r3, S_1) ∧ (pb_X4_leastNight_9 n n a0 x1 x2 r3 0 S_1 mc ms Q)
theorem tc_X4_leastNight : Cond.code yX4_leastNight cX4_leastNight 5 (some .int) ∈ pq_U := tw1239
theorem cd_X4_leastNight : yX4_leastNight.cls = RX4 ∧ yX4_leastNight.cls ≠ "java/lang/invoke/MethodHandle" ∧ yX4_leastNight.cls ≠ "java/lang/invoke/VarHandle" ∧ (parseMethodDescriptor yX4_leastNight.desc).map (fun d => d.parameters.length) = some 2 := by decide +kernel
set_option maxHeartbeats 4000000 in
set_option maxRecDepth 100000 in
theorem cw_X4_leastNight (l : Launch) (C : pq_C) (X : va_W) (n : Nat) (S0 : pq_S) (hF : WF S0) (sz : Nat) (a0 : Nat) (x1 : Int32) (x2 : Int32) (Ta0 : TY S0 a0 4) (mc ms : Nat) (Q : (Int32 → pq_S → Prop)) (hm : wp_X4_leastNight n a0 x1 x2 S0 mc ms Q) : Met l yX4_leastNight (.code yX4_leastNight cX4_leastNight 5 (some .int) :: pq_U) (rw_X4_leastNight mc ms) (va_Pc [.ref a0, .int x1, .int x2] (CPre C X S0 sz)) (QwI C X S0 sz Q) mc ms (pq_F C X S0 sz) := by
  refine Met.ofW (cc := cX4_leastNight) (maxL := 5) (ret := (some .int)) (by decide) rfl ?_
  intro p e s m args below meth c s₁ B hml hv
  obtain ⟨rfl, hv⟩ := hv
  have hsz := hv.1
  subst hsz
  have hw := pw_entry hF hv
  have hts := atoms_spec (ws := .code yX4_leastNight cX4_leastNight 5 (some .int) :: pq_U) B.pre
  have hU : ∀ w ∈ pq_U, w.before _ s = true := fun w h => hts w (List.mem_cons_of_mem _ h)
  have hx := B.exec
  have hb := B.bytes
  have hr := B.returns
  have hown : s.vm.findClass RX4 = some m.cls := findClass_of_methodNamed B.named
  have hlk := B.notSynchronized
  have hl := lv_entry ([.ref a0, .int x1, .int x2]) (n := 5) (Nat.le_of_ble_eq_true rfl)
  rw [lg_entry_eq]
  generalize (lg_sl ([.ref a0, .int x1, .int x2]) ++ List.replicate (5 - (lg_sl ([.ref a0, .int x1, .int x2])).length) Slot.unset).toArray = ls at hl ⊢
  have hl : lv_has ls 5 [(0, .ref a0), (1, .int x1), (2, .int x2)] := hl
  have hE : Ext S0 S0 := Ext.rf _
  have cx : Cx p s m _ meth c cX4_leastNight 5 RX4 (some .int) := ⟨hx, hb, hml, hown, hU, hr, hlk⟩
  have hcc : 0 + mc ≤ mc := by omega
  have hss : 0 + ms ≤ ms := by omega
  rw [wp_X4_leastNight] at hm
  refine lv_aload_n hx hb dX4_leastNight_0 rfl (lv_at hl 0 rfl) ?_
  refine lv_iload_n hx hb dX4_leastNight_1 rfl (lv_at hl 1 rfl) ?_
  obtain ⟨r3, S_1, hq2, hm⟩ := hm
  refine pw_ci (va_runV (As := [.int x1]) (rest := []) ⟨hx, hb, hml, hown, hU⟩ (c_X4_hoursOf l C X n S0 hw.wf _ a0 x1 (Ta0) r3 S_1 hq2) (cwV 1 hU (pq_gV tw1228 tw1230 ts95 tw9 tc_X4_hoursOf) rfl rfl rfl cd_X4_hoursOf ⟨Nat.le_of_ble_eq_true rfl, Nat.le_of_ble_eq_true rfl⟩) (pw_preV hw Ta0 (by decide) rfl) rfl rfl hl.1 rfl (lv_room (Nat.le_of_ble_eq_true rfl)) dX4_leastNight_2 ⟨by show _ ≤ mc; omega, by show _ ≤ ms; omega⟩) hw (fun H locs hw hx4 => ?_)
  have Ta0 : TY S_1 a0 4 := ty_ext hx4 Ta0
  have hE : Ext S0 S_1 := Ext.tr hE hx4
  refine lv_istore_n (lv' := [(3, .int r3), (0, .ref a0), (1, .int x1), (2, .int x2)]) hx hb dX4_leastNight_5 rfl hl (by decide) rfl (fun ls hl => ?_)
  refine lv_iconst (v := 0) hx hb dX4_leastNight_6 (by decide) ?_
  refine lv_istore (lv' := [(4, .int 0), (3, .int r3), (0, .ref a0), (1, .int x1), (2, .int x2)]) hx hb dX4_leastNight_7 hl (by decide) rfl (fun ls hl => ?_)
  exact wpb_X4_leastNight_9 cx C X S0 n Q mc ms n a0 x1 x2 r3 0 S_1 _ _ _ (0) (0) mc ms hcc hss hw hE Ta0 (lv_sub hl [2, 3, 4, 1, 0] rfl) hm
abbrev rw_X6_init (mc ms : Nat) : Room := { frames := 2, cells := mc, slots := ms, locals := 42 }
def wp_X6_init (n : Nat) (a0 : Nat) (S0 : pq_S) (mc ms : Nat) (Q : (pq_S → Prop)) : Prop := 1 ≤ mc ∧ 3 ≤ ms ∧ ∀ q1 : Nat, q1 ∉ pL S0 → (1 ≤ (mc - (1)) ∧ 125 ≤ (ms - (3)) ∧ ∀ q5 : Nat, q5 ∉ pL (nO S0 q1 9) → (∃ c12 s13 : Nat, c12 ≤ (mc - (2)) ∧ s13 ≤ (ms - (128)) ∧ wp_X9_init n q1 q5 5 (nA (nO S0 q1 9) q5 14 125) c12 s13 (fun S_11 => Q (sR S_11 600 a0 (some q1)))))
theorem tc_X6_init : Cond.code yX6_init cX6_init 1 none ∈ pq_U := tw305
theorem cd_X6_init : yX6_init.cls = RX6 ∧ yX6_init.cls ≠ "java/lang/invoke/MethodHandle" ∧ yX6_init.cls ≠ "java/lang/invoke/VarHandle" ∧ (parseMethodDescriptor yX6_init.desc).map (fun d => d.parameters.length) = some 0 := by decide +kernel
set_option maxHeartbeats 4000000 in
set_option maxRecDepth 100000 in
theorem cw_X6_init (l : Launch) (C : pq_C) (X : va_W) (n : Nat) (S0 : pq_S) (hF : WF S0) (sz : Nat) (a0 : Nat) (Ta0 : TY S0 a0 6) (mc ms : Nat) (Q : (pq_S → Prop)) (hm : wp_X6_init n a0 S0 mc ms Q) : Met l yX6_init (.code yX6_init cX6_init 1 none :: pq_U) (rw_X6_init mc ms) (va_Pc [.ref a0] (CPre C X S0 sz)) (QwV C X S0 sz Q) mc ms (pq_F C X S0 sz) := by
  refine Met.ofW (cc := cX6_init) (maxL := 1) (ret := none) (by decide) rfl ?_
  intro p e s m args below meth c s₁ B hml hv
  obtain ⟨rfl, hv⟩ := hv
  have hsz := hv.1
  subst hsz
  have hw := pw_entry hF hv
  have hts := atoms_spec (ws := .code yX6_init cX6_init 1 none :: pq_U) B.pre
  have hU : ∀ w ∈ pq_U, w.before _ s = true := fun w h => hts w (List.mem_cons_of_mem _ h)
  have hx := B.exec
  have hb := B.bytes
  have hr := B.returns
  have hown : s.vm.findClass RX6 = some m.cls := findClass_of_methodNamed B.named
  have hlk := B.notSynchronized
  have hin : meth.name = "<init>" := (name_of_methodNamed B.named B.method).1
  have hl := lv_entry ([.ref a0]) (n := 1) (Nat.le_of_ble_eq_true rfl)
  rw [lg_entry_eq]
  generalize (lg_sl ([.ref a0]) ++ List.replicate (1 - (lg_sl ([.ref a0])).length) Slot.unset).toArray = ls at hl ⊢
  have hl : lv_has ls 1 [(0, .ref a0)] := hl
  have hE : Ext S0 S0 := Ext.rf _
  have cx : Cx p s m _ meth c cX6_init 1 RX6 none := ⟨hx, hb, hml, hown, hU, hr, hlk⟩
  have hcc : 0 + mc ≤ mc := by omega
  have hss : 0 + ms ≤ ms := by omega
  rw [wp_X6_init] at hm
  refine lv_aload_n hx hb dX6_init_0 rfl (lv_at hl 0 rfl) ?_
  refine pw_obj hx hb (by rw [hml]; exact hl.1.symm) hown (hU _ tw306) (hU _ tw_obji) (hU _ tw_objc) dX6_init_1 (Nat.le_of_ble_eq_true rfl) (Nat.le_of_ble_eq_true rfl) ?_
  refine lv_aload_n hx hb dX6_init_4 rfl (lv_at hl 0 rfl) ?_
  obtain ⟨hb3, hb4, hm⟩ := hm
  refine pn_new (k := 9) hx hb hown hU iu9 tyX9_ok (hU _ tw307) (hU _ tw85) (hU _ tw5) hw (by decide) rfl (by decide) (by show _ ≤ mc; omega) (by show _ ≤ ms; omega) dX6_init_5 (fun q1 H hf2 hw => ?_)
  replace hm := hm q1 hf2
  have Ta0 : TY (nO S0 q1 9) a0 6 := ty_ext (ext_nO hf2) Ta0
  have hE : Ext S0 (nO S0 q1 9) := Ext.tr hE (ext_nO hf2)
  have Tq1 : TY (nO S0 q1 9) q1 9 := ty_nO _ _ _
  refine W.widen (k := 1) (n := 3) (by omega) (by omega) ?_
  have hcc : 1 + (mc - (1)) ≤ mc := by omega
  have hss : 3 + (ms - (3)) ≤ ms := by omega
  refine lv_dup hx hb dX6_init_8 rfl ?_
  refine lv_bipush (v := 125) hx hb dX6_init_9 (by decide) ?_
  obtain ⟨hb7, hb8, hm⟩ := hm
  refine pn_newI (N := 125) hx hb (hU _ tw108) hw (by decide) (by decide) (by decide) (by show _ ≤ mc; omega) (by show _ ≤ ms; omega) dX6_init_11 (fun q5 H hf6 hw => ?_)
  replace hm := hm q5 hf6
  have Ta0 : TY (nA (nO S0 q1 9) q5 14 125) a0 6 := ty_ext (ext_nA (n := 125) hf6) Ta0
  have Tq1 : TY (nA (nO S0 q1 9) q5 14 125) q1 9 := ty_ext (ext_nA (n := 125) hf6) Tq1
  have hE : Ext S0 (nA (nO S0 q1 9) q5 14 125) := Ext.tr hE (ext_nA (n := 125) hf6)
  have Tq5 : TY (nA (nO S0 q1 9) q5 14 125) q5 14 := ty_nA _ _ _ _
  refine W.widen (k := 2) (n := 128) (by omega) (by omega) ?_
  have hcc : 2 + (mc - (2)) ≤ mc := by omega
  have hss : 128 + (ms - (128)) ≤ ms := by omega
  refine lv_iconst (v := 5) hx hb dX6_init_13 (by decide) ?_
  obtain ⟨c12, s13, hb14, hb15, hm⟩ := hm
  refine pw_wv (va_runIN (As := [.ref q5, .int 5]) (rest := [.ref q1, .ref a0]) ⟨hx, hb, hml, hown, hU⟩ (cw_X9_init l C X n (nA (nO S0 q1 9) q5 14 125) hw.wf _ q1 q5 5 (Tq1) (Tq5) c12 s13 _ hm) ⟨va_cnB (host := "WickNights") 2 hU (pq_g1 tc_X9_init) rfl rfl rfl (hw.nw 73 rfl) (hU _ tw5) cd_X9_init.2 ⟨Nat.le_of_ble_eq_true rfl, Nat.le_of_ble_eq_true rfl⟩, rfl, hU _ tw87⟩ (pw_preS hw) rfl rfl hl.1 rfl (lv_room (Nat.le_of_ble_eq_true rfl)) dX6_init_14 ⟨by show _ ≤ mc; omega, by show _ ≤ ms; omega⟩) hw (fun S_11 H locs hm hw hx16 => ?_)
  have Ta0 : TY S_11 a0 6 := ty_ext hx16 Ta0
  have Tq1 : TY S_11 q1 9 := ty_ext hx16 Tq1
  have hE : Ext S0 S_11 := Ext.tr hE hx16
  refine W.widen (k := 2 + c12) (n := 128 + s13) (by omega) (by omega) ?_
  have hcc : 2 + c12 + (mc - (2 + c12)) ≤ mc := by omega
  have hss : 128 + s13 + (ms - (128 + s13)) ≤ ms := by omega
  refine ppF_r (k := 6) (j := 0) (f := 600) hx hb hown hU iu6 tyX6_ok nmX6 hw Ta0 Tq1 (by decide) rfl (hU _ tw309) rfl rfl hin rfl rfl rfl rfl dX6_init_17 (fun H locs hw => ?_)
  exact pw_wvret hx hb hr hlk hw hE hm (by omega) (by omega) dX6_init_20
abbrev rw_X8_init (mc ms : Nat) : Room := { frames := 2, cells := mc, slots := ms, locals := 42 }
def wp_X8_init (n : Nat) (a0 : Nat) (S0 : pq_S) (mc ms : Nat) (Q : (pq_S → Prop)) : Prop := 1 ≤ mc ∧ 3 ≤ ms ∧ ∀ q1 : Nat, q1 ∉ pL S0 → (1 ≤ (mc - (1)) ∧ 18 ≤ (ms - (3)) ∧ ∀ q5 : Nat, q5 ∉ pL (nO S0 q1 9) → (∃ c12 s13 : Nat, c12 ≤ (mc - (2)) ∧ s13 ≤ (ms - (21)) ∧ wp_X9_init n q1 q5 3 (nA (nO S0 q1 9) q5 14 18) c12 s13 (fun S_11 => 1 ≤ (mc - (2 + c12)) ∧ 3 ≤ (ms - (21 + s13)) ∧ ∀ q17 : Nat, q17 ∉ pL (sR S_11 800 a0 (some q1)) → (1 ≤ (mc - (3 + c12)) ∧ 24 ≤ (ms - (24 + s13)) ∧ ∀ q21 : Nat, q21 ∉ pL (nO (sR S_11 800 a0 (some q1)) q17 9) → (∃ c28 s29 : Nat, c28 ≤ (mc - (4 + c12)) ∧ s29 ≤ (ms - (48 + s13)) ∧ wp_X9_init n q17 q21 2 (nA (nO (sR S_11 800 a0 (some q1)) q17 9) q21 14 24) c28 s29 (fun S_27 => 1 ≤ (mc - (4 + c12 + c28)) ∧ 3 ≤ (ms - (48 + s13 + s29)) ∧ ∀ q33 : Nat, q33 ∉ pL (sR S_27 801 a0 (some q17)) → (1 ≤ (mc - (5 + c12 + c28)) ∧ 6 ≤ (ms - (51 + s13 + s29)) ∧ ∀ q37 : Nat, q37 ∉ pL (nO (sR S_27 801 a0 (some q17)) q33 9) → (∃ c44 s45 : Nat, c44 ≤ (mc - (6 + c12 + c28)) ∧ s45 ≤ (ms - (57 + s13 + s29)) ∧ wp_X9_init n q33 q37 2 (nA (nO (sR S_27 801 a0 (some q17)) q33 9) q37 14 6) c44 s45 (fun S_43 => Q (sR S_43 802 a0 (some q33)))))))))))
theorem tc_X8_init : Cond.code yX8_init cX8_init 1 none ∈ pq_U := tw151
theorem cd_X8_init : yX8_init.cls = RX8 ∧ yX8_init.cls ≠ "java/lang/invoke/MethodHandle" ∧ yX8_init.cls ≠ "java/lang/invoke/VarHandle" ∧ (parseMethodDescriptor yX8_init.desc).map (fun d => d.parameters.length) = some 0 := by decide +kernel
set_option maxHeartbeats 4000000 in
set_option maxRecDepth 100000 in
theorem cw_X8_init (l : Launch) (C : pq_C) (X : va_W) (n : Nat) (S0 : pq_S) (hF : WF S0) (sz : Nat) (a0 : Nat) (Ta0 : TY S0 a0 8) (mc ms : Nat) (Q : (pq_S → Prop)) (hm : wp_X8_init n a0 S0 mc ms Q) : Met l yX8_init (.code yX8_init cX8_init 1 none :: pq_U) (rw_X8_init mc ms) (va_Pc [.ref a0] (CPre C X S0 sz)) (QwV C X S0 sz Q) mc ms (pq_F C X S0 sz) := by
  refine Met.ofW (cc := cX8_init) (maxL := 1) (ret := none) (by decide) rfl ?_
  intro p e s m args below meth c s₁ B hml hv
  obtain ⟨rfl, hv⟩ := hv
  have hsz := hv.1
  subst hsz
  have hw := pw_entry hF hv
  have hts := atoms_spec (ws := .code yX8_init cX8_init 1 none :: pq_U) B.pre
  have hU : ∀ w ∈ pq_U, w.before _ s = true := fun w h => hts w (List.mem_cons_of_mem _ h)
  have hx := B.exec
  have hb := B.bytes
  have hr := B.returns
  have hown : s.vm.findClass RX8 = some m.cls := findClass_of_methodNamed B.named
  have hlk := B.notSynchronized
  have hin : meth.name = "<init>" := (name_of_methodNamed B.named B.method).1
  have hl := lv_entry ([.ref a0]) (n := 1) (Nat.le_of_ble_eq_true rfl)
  rw [lg_entry_eq]
  generalize (lg_sl ([.ref a0]) ++ List.replicate (1 - (lg_sl ([.ref a0])).length) Slot.unset).toArray = ls at hl ⊢
  have hl : lv_has ls 1 [(0, .ref a0)] := hl
  have hE : Ext S0 S0 := Ext.rf _
  have cx : Cx p s m _ meth c cX8_init 1 RX8 none := ⟨hx, hb, hml, hown, hU, hr, hlk⟩
  have hcc : 0 + mc ≤ mc := by omega
  have hss : 0 + ms ≤ ms := by omega
  rw [wp_X8_init] at hm
  refine lv_aload_n hx hb dX8_init_0 rfl (lv_at hl 0 rfl) ?_
  refine pw_obj hx hb (by rw [hml]; exact hl.1.symm) hown (hU _ tw152) (hU _ tw_obji) (hU _ tw_objc) dX8_init_1 (Nat.le_of_ble_eq_true rfl) (Nat.le_of_ble_eq_true rfl) ?_
  refine lv_aload_n hx hb dX8_init_4 rfl (lv_at hl 0 rfl) ?_
  obtain ⟨hb3, hb4, hm⟩ := hm
  refine pn_new (k := 9) hx hb hown hU iu9 tyX9_ok (hU _ tw153) (hU _ tw85) (hU _ tw5) hw (by decide) rfl (by decide) (by show _ ≤ mc; omega) (by show _ ≤ ms; omega) dX8_init_5 (fun q1 H hf2 hw => ?_)
  replace hm := hm q1 hf2
  have Ta0 : TY (nO S0 q1 9) a0 8 := ty_ext (ext_nO hf2) Ta0
  have hE : Ext S0 (nO S0 q1 9) := Ext.tr hE (ext_nO hf2)
  have Tq1 : TY (nO S0 q1 9) q1 9 := ty_nO _ _ _
  refine W.widen (k := 1) (n := 3) (by omega) (by omega) ?_
  have hcc : 1 + (mc - (1)) ≤ mc := by omega
  have hss : 3 + (ms - (3)) ≤ ms := by omega
  refine lv_dup hx hb dX8_init_8 rfl ?_
  refine lv_bipush (v := 18) hx hb dX8_init_9 (by decide) ?_
  obtain ⟨hb7, hb8, hm⟩ := hm
  refine pn_newI (N := 18) hx hb (hU _ tw108) hw (by decide) (by decide) (by decide) (by show _ ≤ mc; omega) (by show _ ≤ ms; omega) dX8_init_11 (fun q5 H hf6 hw => ?_)
  replace hm := hm q5 hf6
  have Ta0 : TY (nA (nO S0 q1 9) q5 14 18) a0 8 := ty_ext (ext_nA (n := 18) hf6) Ta0
  have Tq1 : TY (nA (nO S0 q1 9) q5 14 18) q1 9 := ty_ext (ext_nA (n := 18) hf6) Tq1
  have hE : Ext S0 (nA (nO S0 q1 9) q5 14 18) := Ext.tr hE (ext_nA (n := 18) hf6)
  have Tq5 : TY (nA (nO S0 q1 9) q5 14 18) q5 14 := ty_nA _ _ _ _
  refine W.widen (k := 2) (n := 21) (by omega) (by omega) ?_
  have hcc : 2 + (mc - (2)) ≤ mc := by omega
  have hss : 21 + (ms - (21)) ≤ ms := by omega
  refine lv_iconst (v := 3) hx hb dX8_init_13 (by decide) ?_
  obtain ⟨c12, s13, hb14, hb15, hm⟩ := hm
  refine pw_wv (va_runIN (As := [.ref q5, .int 3]) (rest := [.ref q1, .ref a0]) ⟨hx, hb, hml, hown, hU⟩ (cw_X9_init l C X n (nA (nO S0 q1 9) q5 14 18) hw.wf _ q1 q5 3 (Tq1) (Tq5) c12 s13 _ hm) ⟨va_cnB (host := "WickNights") 2 hU (pq_g1 tc_X9_init) rfl rfl rfl (hw.nw 41 rfl) (hU _ tw5) cd_X9_init.2 ⟨Nat.le_of_ble_eq_true rfl, Nat.le_of_ble_eq_true rfl⟩, rfl, hU _ tw87⟩ (pw_preS hw) rfl rfl hl.1 rfl (lv_room (Nat.le_of_ble_eq_true rfl)) dX8_init_14 ⟨by show _ ≤ mc; omega, by show _ ≤ ms; omega⟩) hw (fun S_11 H locs hm hw hx16 => ?_)
  have Ta0 : TY S_11 a0 8 := ty_ext hx16 Ta0
  have Tq1 : TY S_11 q1 9 := ty_ext hx16 Tq1
  have hE : Ext S0 S_11 := Ext.tr hE hx16
  refine W.widen (k := 2 + c12) (n := 21 + s13) (by omega) (by omega) ?_
  have hcc : 2 + c12 + (mc - (2 + c12)) ≤ mc := by omega
  have hss : 21 + s13 + (ms - (21 + s13)) ≤ ms := by omega
  refine ppF_r (k := 8) (j := 0) (f := 800) hx hb hown hU iu8 tyX8_ok nmX8 hw Ta0 Tq1 (by decide) rfl (hU _ tw155) rfl rfl hin rfl rfl rfl rfl dX8_init_17 (fun H locs hw => ?_)
  refine lv_aload_n hx hb dX8_init_20 rfl (lv_at hl 0 rfl) ?_
  obtain ⟨hb19, hb20, hm⟩ := hm
  refine pn_new (k := 9) hx hb hown hU iu9 tyX9_ok (hU _ tw153) (hU _ tw85) (hU _ tw5) hw (by decide) rfl (by decide) (by show _ ≤ mc; omega) (by show _ ≤ ms; omega) dX8_init_21 (fun q17 H hf18 hw => ?_)
  replace hm := hm q17 hf18
  have Ta0 : TY (nO (sR S_11 800 a0 (some q1)) q17 9) a0 8 := ty_ext (ext_nO hf18) Ta0
  have hE : Ext S0 (nO (sR S_11 800 a0 (some q1)) q17 9) := Ext.tr hE (ext_nO hf18)
  have Tq17 : TY (nO (sR S_11 800 a0 (some q1)) q17 9) q17 9 := ty_nO _ _ _
  refine W.widen (k := 3 + c12) (n := 24 + s13) (by omega) (by omega) ?_
  have hcc : 3 + c12 + (mc - (3 + c12)) ≤ mc := by omega
  have hss : 24 + s13 + (ms - (24 + s13)) ≤ ms := by omega
  refine lv_dup hx hb dX8_init_24 rfl ?_
  refine lv_bipush (v := 24) hx hb dX8_init_25 (by decide) ?_
  obtain ⟨hb23, hb24, hm⟩ := hm
  refine pn_newI (N := 24) hx hb (hU _ tw108) hw (by decide) (by decide) (by decide) (by show _ ≤ mc; omega) (by show _ ≤ ms; omega) dX8_init_27 (fun q21 H hf22 hw => ?_)
  replace hm := hm q21 hf22
  have Ta0 : TY (nA (nO (sR S_11 800 a0 (some q1)) q17 9) q21 14 24) a0 8 := ty_ext (ext_nA (n := 24) hf22) Ta0
  have Tq17 : TY (nA (nO (sR S_11 800 a0 (some q1)) q17 9) q21 14 24) q17 9 := ty_ext (ext_nA (n := 24) hf22) Tq17
  have hE : Ext S0 (nA (nO (sR S_11 800 a0 (some q1)) q17 9) q21 14 24) := Ext.tr hE (ext_nA (n := 24) hf22)
  have Tq21 : TY (nA (nO (sR S_11 800 a0 (some q1)) q17 9) q21 14 24) q21 14 := ty_nA _ _ _ _
  refine W.widen (k := 4 + c12) (n := 48 + s13) (by omega) (by omega) ?_
  have hcc : 4 + c12 + (mc - (4 + c12)) ≤ mc := by omega
  have hss : 48 + s13 + (ms - (48 + s13)) ≤ ms := by omega
  refine lv_iconst (v := 2) hx hb dX8_init_29 (by decide) ?_
  obtain ⟨c28, s29, hb30, hb31, hm⟩ := hm
  refine pw_wv (va_runIN (As := [.ref q21, .int 2]) (rest := [.ref q17, .ref a0]) ⟨hx, hb, hml, hown, hU⟩ (cw_X9_init l C X n (nA (nO (sR S_11 800 a0 (some q1)) q17 9) q21 14 24) hw.wf _ q17 q21 2 (Tq17) (Tq21) c28 s29 _ hm) ⟨va_cnB (host := "WickNights") 2 hU (pq_g1 tc_X9_init) rfl rfl rfl (hw.nw 41 rfl) (hU _ tw5) cd_X9_init.2 ⟨Nat.le_of_ble_eq_true rfl, Nat.le_of_ble_eq_true rfl⟩, rfl, hU _ tw87⟩ (pw_preS hw) rfl rfl hl.1 rfl (lv_room (Nat.le_of_ble_eq_true rfl)) dX8_init_30 ⟨by show _ ≤ mc; omega, by show _ ≤ ms; omega⟩) hw (fun S_27 H locs hm hw hx32 => ?_)
  have Ta0 : TY S_27 a0 8 := ty_ext hx32 Ta0
  have Tq17 : TY S_27 q17 9 := ty_ext hx32 Tq17
  have hE : Ext S0 S_27 := Ext.tr hE hx32
  refine W.widen (k := 4 + c12 + c28) (n := 48 + s13 + s29) (by omega) (by omega) ?_
  have hcc : 4 + c12 + c28 + (mc - (4 + c12 + c28)) ≤ mc := by omega
  have hss : 48 + s13 + s29 + (ms - (48 + s13 + s29)) ≤ ms := by omega
  refine ppF_r (k := 8) (j := 1) (f := 801) hx hb hown hU iu8 tyX8_ok nmX8 hw Ta0 Tq17 (by decide) rfl (hU _ tw159) rfl rfl hin rfl rfl rfl rfl dX8_init_33 (fun H locs hw => ?_)
  refine lv_aload_n hx hb dX8_init_36 rfl (lv_at hl 0 rfl) ?_
  obtain ⟨hb35, hb36, hm⟩ := hm
  refine pn_new (k := 9) hx hb hown hU iu9 tyX9_ok (hU _ tw153) (hU _ tw85) (hU _ tw5) hw (by decide) rfl (by decide) (by show _ ≤ mc; omega) (by show _ ≤ ms; omega) dX8_init_37 (fun q33 H hf34 hw => ?_)
  replace hm := hm q33 hf34
  have Ta0 : TY (nO (sR S_27 801 a0 (some q17)) q33 9) a0 8 := ty_ext (ext_nO hf34) Ta0
  have hE : Ext S0 (nO (sR S_27 801 a0 (some q17)) q33 9) := Ext.tr hE (ext_nO hf34)
  have Tq33 : TY (nO (sR S_27 801 a0 (some q17)) q33 9) q33 9 := ty_nO _ _ _
  refine W.widen (k := 5 + c12 + c28) (n := 51 + s13 + s29) (by omega) (by omega) ?_
  have hcc : 5 + c12 + c28 + (mc - (5 + c12 + c28)) ≤ mc := by omega
  have hss : 51 + s13 + s29 + (ms - (51 + s13 + s29)) ≤ ms := by omega
  refine lv_dup hx hb dX8_init_40 rfl ?_
  refine lv_bipush (v := 6) hx hb dX8_init_41 (by decide) ?_
  obtain ⟨hb39, hb40, hm⟩ := hm
  refine pn_newI (N := 6) hx hb (hU _ tw108) hw (by decide) (by decide) (by decide) (by show _ ≤ mc; omega) (by show _ ≤ ms; omega) dX8_init_43 (fun q37 H hf38 hw => ?_)
  replace hm := hm q37 hf38
  have Ta0 : TY (nA (nO (sR S_27 801 a0 (some q17)) q33 9) q37 14 6) a0 8 := ty_ext (ext_nA (n := 6) hf38) Ta0
  have Tq33 : TY (nA (nO (sR S_27 801 a0 (some q17)) q33 9) q37 14 6) q33 9 := ty_ext (ext_nA (n := 6) hf38) Tq33
  have hE : Ext S0 (nA (nO (sR S_27 801 a0 (some q17)) q33 9) q37 14 6) := Ext.tr hE (ext_nA (n := 6) hf38)
  have Tq37 : TY (nA (nO (sR S_27 801 a0 (some q17)) q33 9) q37 14 6) q37 14 := ty_nA _ _ _ _
  refine W.widen (k := 6 + c12 + c28) (n := 57 + s13 + s29) (by omega) (by omega) ?_
  have hcc : 6 + c12 + c28 + (mc - (6 + c12 + c28)) ≤ mc := by omega
  have hss : 57 + s13 + s29 + (ms - (57 + s13 + s29)) ≤ ms := by omega
  refine lv_iconst (v := 2) hx hb dX8_init_45 (by decide) ?_
  obtain ⟨c44, s45, hb46, hb47, hm⟩ := hm
  refine pw_wv (va_runIN (As := [.ref q37, .int 2]) (rest := [.ref q33, .ref a0]) ⟨hx, hb, hml, hown, hU⟩ (cw_X9_init l C X n (nA (nO (sR S_27 801 a0 (some q17)) q33 9) q37 14 6) hw.wf _ q33 q37 2 (Tq33) (Tq37) c44 s45 _ hm) ⟨va_cnB (host := "WickNights") 2 hU (pq_g1 tc_X9_init) rfl rfl rfl (hw.nw 41 rfl) (hU _ tw5) cd_X9_init.2 ⟨Nat.le_of_ble_eq_true rfl, Nat.le_of_ble_eq_true rfl⟩, rfl, hU _ tw87⟩ (pw_preS hw) rfl rfl hl.1 rfl (lv_room (Nat.le_of_ble_eq_true rfl)) dX8_init_46 ⟨by show _ ≤ mc; omega, by show _ ≤ ms; omega⟩) hw (fun S_43 H locs hm hw hx48 => ?_)
  have Ta0 : TY S_43 a0 8 := ty_ext hx48 Ta0
  have Tq33 : TY S_43 q33 9 := ty_ext hx48 Tq33
  have hE : Ext S0 S_43 := Ext.tr hE hx48
  refine W.widen (k := 6 + c12 + c28 + c44) (n := 57 + s13 + s29 + s45) (by omega) (by omega) ?_
  have hcc : 6 + c12 + c28 + c44 + (mc - (6 + c12 + c28 + c44)) ≤ mc := by omega
  have hss : 57 + s13 + s29 + s45 + (ms - (57 + s13 + s29 + s45)) ≤ ms := by omega
  refine ppF_r (k := 8) (j := 2) (f := 802) hx hb hown hU iu8 tyX8_ok nmX8 hw Ta0 Tq33 (by decide) rfl (hU _ tw162) rfl rfl hin rfl rfl rfl rfl dX8_init_49 (fun H locs hw => ?_)
  exact pw_wvret hx hb hr hlk hw hE hm (by omega) (by omega) dX8_init_52
abbrev rw_X4_pack (mc ms : Nat) : Room := { frames := 5, cells := mc, slots := ms, locals := 123 }
def pb_X4_pack_52 (n : Nat) : Nat → Nat → Int32 → Int32 → pq_S → Nat → Nat → (pq_S → Prop) → Prop
  | 0, _, _, _, _, _, _, _ => False
  | f + 1, a0, x2, x4, S, bc, bs, Q => if (pI S 405 a0) ≤ x4 then Q S else ∃ q18 : Nat, (pR S 401 a0) = some q18 ∧ (if (Int32.ofNat (pN S q18)) ≤ x4 then Q S else ∃ q20 : Nat, (pR S 403 a0) = some q20 ∧ (∃ c22 s23 : Nat, c22 ≤ bc ∧ s23 ≤ bs ∧ wp_X4_leastNight n a0 x4 x2 S c22 s23 (fun r26 S_21 => (ix x4 (pN S_21 q20)) ∧ (pb_X4_pack_52 n f a0 x2 (x4 + 1) (sA S_21 q20 (Int32.toNatClampNeg x4) r26) (bc - (c22)) (bs - (s23)) Q))))
set_option maxHeartbeats 4000000 in
set_option maxRecDepth 100000 in
theorem wpb_X4_pack_52 {p : Program} {l : Launch} {e : Env} {s : State} {m : MethodId} {args : Array Value} {below : List Frame} {meth : Method} {c : Code} (cx : Cx p s m args meth c cX4_pack 5 RX4 none) (C : pq_C) (X : va_W) (S0 : pq_S) (n : Nat) (Q : (pq_S → Prop)) (mc ms : Nat) : ∀ (f : Nat) (a0 : Nat) (x2 : Int32) (x4 : Int32) (S : pq_S) (H : Heap) (locs : List Loc) (ls : Array Slot) (cells slots bc bs : Nat), cells + bc ≤ mc → slots + bs ≤ ms → PW C X S (pq_F C X S0 s.heap.size) H locs s → Ext S0 S → TY S a0 4 → lv_has ls 5 [(0, .ref a0), (2, .int x2), (4, .int x4)] → pb_X4_pack_52 n f a0 x2 x4 S bc bs Q → W p l e (rw_X4_pack mc ms) s m args below meth c H locs cells slots (MQ below (QwV C X S0 s.heap.size Q) args s mc ms (pq_F C X S0 s.heap.size)) (F0 m 52 ls []) := by
  obtain ⟨hx, hb, hml, hown, hU, hr, hlk⟩ := id cx
  intro f
  induction f with
  | zero =>
    intro a0 x2 x4 S H locs ls cells slots bc bs hcc hss hw hE Ta0 hl hm
    exact hm.elim
  | succ f ih =>
    intro a0 x2 x4 S H locs ls cells slots bc bs hcc hss hw hE Ta0 hl hm
    rw [pb_X4_pack_52] at hm
    refine lv_iload hx hb dX4_pack_52 (lv_at hl 2 rfl) ?_
    refine lv_aload_n hx hb dX4_pack_54 rfl (lv_at hl 0 rfl) ?_
    refine pg_i (k := 4) (j := 5) (f := 405) hx hb hown hU iu4 hw Ta0 (by decide) rfl (hU _ tw283) rfl dX4_pack_55 ?_
    refine lv_icmp_ge (tgt := 91) hx hb dX4_pack_58 (by decide) (fun h17 => ?_) (fun h17 => ?_)
    · rw [if_pos h17] at hm
      exact pw_wvret hx hb hr hlk hw hE hm (by omega) (by omega) dX4_pack_91
    · rw [if_neg h17] at hm
      refine lv_iload hx hb dX4_pack_61 (lv_at hl 2 rfl) ?_
      refine lv_aload_n hx hb dX4_pack_63 rfl (lv_at hl 0 rfl) ?_
      obtain ⟨q18, hq18, hm⟩ := hm
      have Tq18 : TY S q18 14 := hw.wf.ref (k := 4) (j := 1) Ta0 (by decide) (by decide) hq18
      refine pg_rb (k := 4) (j := 1) (f := 401) hx hb hown hU iu4 hw Ta0 (by decide) rfl (hU _ tw279) rfl hq18 dX4_pack_64 ?_
      refine pw_alenI (v := (Int32.ofNat (pN S q18))) hx hb hw Tq18 rfl dX4_pack_67 ?_
      refine lv_icmp_ge (tgt := 91) hx hb dX4_pack_68 (by decide) (fun h19 => ?_) (fun h19 => ?_)
      · rw [if_pos h19] at hm
        exact pw_wvret hx hb hr hlk hw hE hm (by omega) (by omega) dX4_pack_91
      · rw [if_neg h19] at hm
        refine lv_aload_n hx hb dX4_pack_71 rfl (lv_at hl 0 rfl) ?_
        obtain ⟨q20, hq20, hm⟩ := hm
        have Tq20 : TY S q20 14 := hw.wf.ref (k := 4) (j := 3) Ta0 (by decide) (by decide) hq20
        refine pg_rb (k := 4) (j := 3) (f := 403) hx hb hown hU iu4 hw Ta0 (by decide) rfl (hU _ tw281) rfl hq20 dX4_pack_72 ?_
        refine lv_iload hx hb dX4_pack_75 (lv_at hl 2 rfl) ?_
        refine lv_aload_n hx hb dX4_pack_77 rfl (lv_at hl 0 rfl) ?_
        refine lv_iload hx hb dX4_pack_78 (lv_at hl 2 rfl) ?_
        refine lv_iload_n hx hb dX4_pack_80 rfl (lv_at hl 1 rfl) ?_
        obtain ⟨c22, s23, hb24, hb25, hm⟩ := hm
        refine pw_wi (va_runV (As := [.int x4, .int x2]) (rest := [.int x4, .ref q20]) ⟨hx, hb, hml, hown, hU⟩ (cw_X4_leastNight l C X n S hw.wf _ a0 x4 x2 (Ta0) c22 s23 _ hm) (cwV 2 hU (pq_gV tw1236 tw1238 ts97 tw9 tc_X4_leastNight) rfl rfl rfl cd_X4_leastNight ⟨Nat.le_of_ble_eq_true rfl, Nat.le_of_ble_eq_true rfl⟩) (pw_preV hw Ta0 (by decide) rfl) rfl rfl hl.1 rfl (lv_room (Nat.le_of_ble_eq_true rfl)) dX4_pack_81 ⟨by show _ ≤ mc; omega, by show _ ≤ ms; omega⟩) hw (fun r26 S_21 H locs hm hw hx27 => ?_)
        have Tq20 : TY S_21 q20 14 := ty_ext hx27 Tq20
        have Ta0 : TY S_21 a0 4 := ty_ext hx27 Ta0
        have hE : Ext S0 S_21 := Ext.tr hE hx27
        refine W.widen (k := cells + (c22)) (n := slots + (s23)) (by omega) (by omega) ?_
        have hcc : cells + (c22) + (bc - (c22)) ≤ mc := by omega
        have hss : slots + (s23) + (bs - (s23)) ≤ ms := by omega
        obtain ⟨hi28, hm⟩ := hm
        refine pw_iast hx hb hw Tq20 hi28 dX4_pack_84 (fun H locs hw => ?_)
        refine lv_iinc (v := (x4 + 1)) (lv' := [(4, .int (x4 + 1)), (0, .ref a0), (2, .int x2)]) hx hb dX4_pack_85 hl (k := 2) rfl rfl (by decide) rfl (fun ls hl => ?_)
        refine lv_goto (tgt := 52) hx hb dX4_pack_88 (by decide) ?_
        exact ih a0 x2 (x4 + 1) (sA S_21 q20 (Int32.toNatClampNeg x4) r26) _ _ _ (cells + (c22)) (slots + (s23)) (bc - (c22)) (bs - (s23)) hcc hss hw hE Ta0 (lv_sub hl [1, 2, 0] rfl) hm
def pb_X4_pack_37 (n : Nat) (a0 : Nat) (x2 : Int32) (b0 : Nat) (z1 : Int32) (S : pq_S) (bc bs : Nat) (Q : (pq_S → Prop)) : Prop := if (pI (sI S 406 b0 z1) 406 a0) = (-1) then Q (sI S 406 b0 z1) else pb_X4_pack_52 n n a0 x2 0 (sI S 406 b0 z1) bc bs Q
set_option maxHeartbeats 4000000 in
set_option maxRecDepth 100000 in
theorem wpb_X4_pack_37 {p : Program} {l : Launch} {e : Env} {s : State} {m : MethodId} {args : Array Value} {below : List Frame} {meth : Method} {c : Code} (cx : Cx p s m args meth c cX4_pack 5 RX4 none) (C : pq_C) (X : va_W) (S0 : pq_S) (n : Nat) (Q : (pq_S → Prop)) (mc ms : Nat) : ∀ (a0 : Nat) (x2 : Int32) (b0 : Nat) (z1 : Int32) (S : pq_S) (H : Heap) (locs : List Loc) (ls : Array Slot) (cells slots bc bs : Nat), cells + bc ≤ mc → slots + bs ≤ ms → PW C X S (pq_F C X S0 s.heap.size) H locs s → Ext S0 S → TY S a0 4 → TY S b0 4 → lv_has ls 5 [(0, .ref a0), (2, .int x2)] → pb_X4_pack_37 n a0 x2 b0 z1 S bc bs Q → W p l e (rw_X4_pack mc ms) s m args below meth c H locs cells slots (MQ below (QwV C X S0 s.heap.size Q) args s mc ms (pq_F C X S0 s.heap.size)) (F0 m 37 ls [.int z1, .ref b0]) := by
  obtain ⟨hx, hb, hml, hown, hU, hr, hlk⟩ := id cx
  intro a0 x2 b0 z1 S H locs ls cells slots bc bs hcc hss hw hE Ta0 Tb0 hl hm
  rw [pb_X4_pack_37] at hm
  refine pp_i (k := 4) (j := 6) (f := 406) hx hb hown hU iu4 tyX4_ok nmX4 hw Tb0 (by decide) rfl (hU _ tw284) rfl rfl rfl dX4_pack_37 (fun H locs hw => ?_)
  refine lv_aload_n hx hb dX4_pack_40 rfl (lv_at hl 0 rfl) ?_
  refine pg_i (k := 4) (j := 6) (f := 406) hx hb hown hU iu4 hw Ta0 (by decide) rfl (hU _ tw284) rfl dX4_pack_41 ?_
  refine lv_iconst (v := (-1)) hx hb dX4_pack_44 (by decide) ?_
  refine lv_icmp_ne (tgt := 49) hx hb dX4_pack_45 (by decide) (fun h16 => ?_) (fun h16 => ?_)
  · rw [if_neg h16] at hm
    refine lv_iconst (v := 0) hx hb dX4_pack_49 (by decide) ?_
    refine lv_istore (lv' := [(4, .int 0), (0, .ref a0), (2, .int x2)]) hx hb dX4_pack_50 hl (by decide) rfl (fun ls hl => ?_)
    exact wpb_X4_pack_52 cx C X S0 n Q mc ms n a0 x2 0 (sI S 406 b0 z1) _ _ _ (cells) (slots) bc bs hcc hss hw hE Ta0 (lv_sub hl [1, 2, 0] rfl) hm
  · rw [if_pos h16] at hm
    exact pw_wvret hx hb hr hlk hw hE hm (by omega) (by omega) dX4_pack_48
def wp_X4_pack (n : Nat) (a0 : Nat) (x1 : Int32) (x2 : Int32) (S0 : pq_S) (mc ms : Nat) (Q : (pq_S → Prop)) : Prop := ∃ S_1 : pq_S, m_X4_gather n a0 x1 S0 = some S_1 ∧ (∃ q4 : Nat, (pR S_1 402 a0) = some q4 ∧ (∃ S_5 : pq_S, m_J7_fill_53178 n q4 0 S_1 = some S_5 ∧ (∃ c9 s10 : Nat, c9 ≤ mc ∧ s10 ≤ ms ∧ wp_X4_lastNight n a0 0 x2 (pI S_5 405 a0) S_5 c9 s10 (fun r13 S_8 => if r13 = 1024 then pb_X4_pack_37 n a0 x2 a0 (-1) S_8 (mc - (c9)) (ms - (s10)) Q else pb_X4_pack_37 n a0 x2 a0 r13 S_8 (mc - (c9)) (ms - (s10)) Q))))
theorem tc_X4_pack : Cond.code yX4_pack cX4_pack 5 none ∈ pq_U := tw1208
theorem cd_X4_pack : yX4_pack.cls = RX4 ∧ yX4_pack.cls ≠ "java/lang/invoke/MethodHandle" ∧ yX4_pack.cls ≠ "java/lang/invoke/VarHandle" ∧ (parseMethodDescriptor yX4_pack.desc).map (fun d => d.parameters.length) = some 2 := by decide +kernel
set_option maxHeartbeats 4000000 in
set_option maxRecDepth 100000 in
theorem cw_X4_pack (l : Launch) (C : pq_C) (X : va_W) (n : Nat) (S0 : pq_S) (hF : WF S0) (sz : Nat) (a0 : Nat) (x1 : Int32) (x2 : Int32) (Ta0 : TY S0 a0 4) (mc ms : Nat) (Q : (pq_S → Prop)) (hm : wp_X4_pack n a0 x1 x2 S0 mc ms Q) : Met l yX4_pack (.code yX4_pack cX4_pack 5 none :: pq_U) (rw_X4_pack mc ms) (va_Pc [.ref a0, .int x1, .int x2] (CPre C X S0 sz)) (QwV C X S0 sz Q) mc ms (pq_F C X S0 sz) := by
  refine Met.ofW (cc := cX4_pack) (maxL := 5) (ret := none) (by decide) rfl ?_
  intro p e s m args below meth c s₁ B hml hv
  obtain ⟨rfl, hv⟩ := hv
  have hsz := hv.1
  subst hsz
  have hw := pw_entry hF hv
  have hts := atoms_spec (ws := .code yX4_pack cX4_pack 5 none :: pq_U) B.pre
  have hU : ∀ w ∈ pq_U, w.before _ s = true := fun w h => hts w (List.mem_cons_of_mem _ h)
  have hx := B.exec
  have hb := B.bytes
  have hr := B.returns
  have hown : s.vm.findClass RX4 = some m.cls := findClass_of_methodNamed B.named
  have hlk := B.notSynchronized
  have hl := lv_entry ([.ref a0, .int x1, .int x2]) (n := 5) (Nat.le_of_ble_eq_true rfl)
  rw [lg_entry_eq]
  generalize (lg_sl ([.ref a0, .int x1, .int x2]) ++ List.replicate (5 - (lg_sl ([.ref a0, .int x1, .int x2])).length) Slot.unset).toArray = ls at hl ⊢
  have hl : lv_has ls 5 [(0, .ref a0), (1, .int x1), (2, .int x2)] := hl
  have hE : Ext S0 S0 := Ext.rf _
  have cx : Cx p s m _ meth c cX4_pack 5 RX4 none := ⟨hx, hb, hml, hown, hU, hr, hlk⟩
  have hcc : 0 + mc ≤ mc := by omega
  have hss : 0 + ms ≤ ms := by omega
  rw [wp_X4_pack] at hm
  refine lv_aload_n hx hb dX4_pack_0 rfl (lv_at hl 0 rfl) ?_
  refine lv_iload_n hx hb dX4_pack_1 rfl (lv_at hl 1 rfl) ?_
  obtain ⟨S_1, hq2, hm⟩ := hm
  refine pw_cv (va_runV (As := [.int x1]) (rest := []) ⟨hx, hb, hml, hown, hU⟩ (c_X4_gather l C X n S0 hw.wf _ a0 x1 (Ta0) S_1 hq2) (cwV 1 hU (pq_gV tw1209 tw1211 ts91 tw9 tc_X4_gather) rfl rfl rfl cd_X4_gather ⟨Nat.le_of_ble_eq_true rfl, Nat.le_of_ble_eq_true rfl⟩) (pw_preV hw Ta0 (by decide) rfl) rfl rfl hl.1 rfl (lv_room (Nat.le_of_ble_eq_true rfl)) dX4_pack_2 ⟨by show _ ≤ mc; omega, by show _ ≤ ms; omega⟩) hw (fun H locs hw hx3 => ?_)
  have Ta0 : TY S_1 a0 4 := ty_ext hx3 Ta0
  have hE : Ext S0 S_1 := Ext.tr hE hx3
  refine lv_aload_n hx hb dX4_pack_5 rfl (lv_at hl 0 rfl) ?_
  obtain ⟨q4, hq4, hm⟩ := hm
  have Tq4 : TY S_1 q4 14 := hw.wf.ref (k := 4) (j := 2) Ta0 (by decide) (by decide) hq4
  refine pg_rb (k := 4) (j := 2) (f := 402) hx hb hown hU iu4 hw Ta0 (by decide) rfl (hU _ tw280) rfl hq4 dX4_pack_6 ?_
  refine lv_iconst (v := 0) hx hb dX4_pack_9 (by decide) ?_
  obtain ⟨S_5, hq6, hm⟩ := hm
  refine pw_cv (va_runS (As := [.ref q4, .int 0]) (rest := []) ⟨hx, hb, hml, hown, hU⟩ (c_J7_fill_53178 l C X n S_1 hw.wf _ q4 0 (Tq4) S_5 hq6) ⟨callB_of 2 hU (pq_g1 tc_J7_fill_53178) rfl rfl rfl (hU _ tw12) (hU _ tw1214) cd_J7_fill_53178.2 ⟨Nat.le_of_ble_eq_true rfl, Nat.le_of_ble_eq_true rfl⟩, hU _ tw336⟩ (pw_preS hw) rfl rfl hl.1 rfl (lv_room (Nat.le_of_ble_eq_true rfl)) dX4_pack_10 ⟨by show _ ≤ mc; omega, by show _ ≤ ms; omega⟩) hw (fun H locs hw hx7 => ?_)
  have Ta0 : TY S_5 a0 4 := ty_ext hx7 Ta0
  have hE : Ext S0 S_5 := Ext.tr hE hx7
  refine lv_aload_n hx hb dX4_pack_13 rfl (lv_at hl 0 rfl) ?_
  refine lv_iconst (v := 0) hx hb dX4_pack_14 (by decide) ?_
  refine lv_iload_n hx hb dX4_pack_15 rfl (lv_at hl 2 rfl) ?_
  refine lv_aload_n hx hb dX4_pack_16 rfl (lv_at hl 0 rfl) ?_
  refine pg_i (k := 4) (j := 5) (f := 405) hx hb hown hU iu4 hw Ta0 (by decide) rfl (hU _ tw283) rfl dX4_pack_17 ?_
  obtain ⟨c9, s10, hb11, hb12, hm⟩ := hm
  refine pw_wi (va_runV (As := [.int 0, .int x2, .int (pI S_5 405 a0)]) (rest := []) ⟨hx, hb, hml, hown, hU⟩ (cw_X4_lastNight l C X n S_5 hw.wf _ a0 0 x2 (pI S_5 405 a0) (Ta0) c9 s10 _ hm) (cwV 3 hU (pq_gV tw1215 tw1217 ts92 tw9 tc_X4_lastNight) rfl rfl rfl cd_X4_lastNight ⟨Nat.le_of_ble_eq_true rfl, Nat.le_of_ble_eq_true rfl⟩) (pw_preV hw Ta0 (by decide) rfl) rfl rfl hl.1 rfl (lv_room (Nat.le_of_ble_eq_true rfl)) dX4_pack_20 ⟨by show _ ≤ mc; omega, by show _ ≤ ms; omega⟩) hw (fun r13 S_8 H locs hm hw hx14 => ?_)
  have Ta0 : TY S_8 a0 4 := ty_ext hx14 Ta0
  have hE : Ext S0 S_8 := Ext.tr hE hx14
  refine W.widen (k := c9) (n := s10) (by omega) (by omega) ?_
  have hcc : c9 + (mc - (c9)) ≤ mc := by omega
  have hss : s10 + (ms - (s10)) ≤ ms := by omega
  refine lv_istore_n (lv' := [(3, .int r13), (0, .ref a0), (1, .int x1), (2, .int x2)]) hx hb dX4_pack_23 rfl hl (by decide) rfl (fun ls hl => ?_)
  refine lv_aload_n hx hb dX4_pack_24 rfl (lv_at hl 1 rfl) ?_
  refine lv_iload_n hx hb dX4_pack_25 rfl (lv_at hl 0 rfl) ?_
  refine lv_sipush (v := 1024) hx hb dX4_pack_26 (by decide) ?_
  refine lv_icmp_ne (tgt := 36) hx hb dX4_pack_29 (by decide) (fun h15 => ?_) (fun h15 => ?_)
  · rw [if_neg h15] at hm
    refine lv_iload_n hx hb dX4_pack_36 rfl (lv_at hl 0 rfl) ?_
    exact wpb_X4_pack_37 cx C X S0 n Q mc ms a0 x2 a0 r13 S_8 _ _ _ (c9) (s10) (mc - (c9)) (ms - (s10)) hcc hss hw hE Ta0 Ta0 (lv_sub hl [1, 3] rfl) hm
  · rw [if_pos h15] at hm
    refine lv_iconst (v := (-1)) hx hb dX4_pack_32 (by decide) ?_
    refine lv_goto (tgt := 37) hx hb dX4_pack_33 (by decide) ?_
    exact wpb_X4_pack_37 cx C X S0 n Q mc ms a0 x2 a0 (-1) S_8 _ _ _ (c9) (s10) (mc - (c9)) (ms - (s10)) hcc hss hw hE Ta0 Ta0 (lv_sub hl [1, 3] rfl) hm
abbrev rw_X5_push (mc ms : Nat) : Room := { frames := 3, cells := mc, slots := ms, locals := 122 }
def pb_X5_push_48 (n : Nat) (a0 : Nat) (a1 : Nat) (S : pq_S) (bc bs : Nat) (Q : (pq_S → Prop)) : Prop := ∃ q20 : Nat, (pR S 500 a0) = some q20 ∧ ((ix (pI S 501 a0) (pN S q20)) ∧ (∃ q22 : Nat, (pQ S q20 (Int32.toNatClampNeg (pI S 501 a0))) = some q22 ∧ (∃ S_23 : pq_S, m_X8_copyFrom n q22 a1 S = some S_23 ∧ (Q (sI S_23 501 a0 ((pI S_23 501 a0) + (1 : Int32)))))))
set_option maxHeartbeats 4000000 in
set_option maxRecDepth 100000 in
theorem wpb_X5_push_48 {p : Program} {l : Launch} {e : Env} {s : State} {m : MethodId} {args : Array Value} {below : List Frame} {meth : Method} {c : Code} (cx : Cx p s m args meth c cX5_push 2 RX5 none) (C : pq_C) (X : va_W) (S0 : pq_S) (n : Nat) (Q : (pq_S → Prop)) (mc ms : Nat) : ∀ (a0 : Nat) (a1 : Nat) (S : pq_S) (H : Heap) (locs : List Loc) (ls : Array Slot) (cells slots bc bs : Nat), cells + bc ≤ mc → slots + bs ≤ ms → PW C X S (pq_F C X S0 s.heap.size) H locs s → Ext S0 S → TY S a0 5 → TY S a1 8 → lv_has ls 2 [(0, .ref a0), (1, .ref a1)] → pb_X5_push_48 n a0 a1 S bc bs Q → W p l e (rw_X5_push mc ms) s m args below meth c H locs cells slots (MQ below (QwV C X S0 s.heap.size Q) args s mc ms (pq_F C X S0 s.heap.size)) (F0 m 48 ls []) := by
  obtain ⟨hx, hb, hml, hown, hU, hr, hlk⟩ := id cx
  intro a0 a1 S H locs ls cells slots bc bs hcc hss hw hE Ta0 Ta1 hl hm
  rw [pb_X5_push_48] at hm
  refine lv_aload_n hx hb dX5_push_48 rfl (lv_at hl 0 rfl) ?_
  obtain ⟨q20, hq20, hm⟩ := hm
  have Tq20 : TY S q20 16 := hw.wf.ref (k := 5) (j := 0) Ta0 (by decide) (by decide) hq20
  refine pg_rb (k := 5) (j := 0) (f := 500) hx hb hown hU iu5 hw Ta0 (by decide) rfl (hU _ tw354) rfl hq20 dX5_push_49 ?_
  refine lv_aload_n hx hb dX5_push_52 rfl (lv_at hl 0 rfl) ?_
  refine pg_i (k := 5) (j := 1) (f := 501) hx hb hown hU iu5 hw Ta0 (by decide) rfl (hU _ tw355) rfl dX5_push_53 ?_
  obtain ⟨hi21, hm⟩ := hm
  obtain ⟨q22, hq22, hm⟩ := hm
  have Tq22 : TY S q22 8 := hw.wf.2.2 _ _ _ Tq20 hq22
  refine pw_aaldSb hx hb hw Tq20 hi21 hq22 dX5_push_56 ?_
  refine lv_aload_n hx hb dX5_push_57 rfl (lv_at hl 1 rfl) ?_
  obtain ⟨S_23, hq24, hm⟩ := hm
  refine pw_cv (va_runVN (As := [.ref a1]) (rest := []) ⟨hx, hb, hml, hown, hU⟩ (c_X8_copyFrom l C X n S hw.wf _ q22 a1 (Tq22) (Ta1) S_23 hq24) ⟨va_cnB (host := "WickNights") 1 hU (pq_g1 tc_X8_copyFrom) rfl rfl rfl (hw.nw 85 rfl) (hU _ tw6) cd_X8_copyFrom.2 ⟨Nat.le_of_ble_eq_true rfl, Nat.le_of_ble_eq_true rfl⟩, hU _ tw437, hU _ ts2⟩ (pw_preV hw Tq22 (by decide) rfl) rfl rfl hl.1 rfl (lv_room (Nat.le_of_ble_eq_true rfl)) dX5_push_58 ⟨by show _ ≤ mc; omega, by show _ ≤ ms; omega⟩) hw (fun H locs hw hx25 => ?_)
  have Ta0 : TY S_23 a0 5 := ty_ext hx25 Ta0
  have Ta1 : TY S_23 a1 8 := ty_ext hx25 Ta1
  have hE : Ext S0 S_23 := Ext.tr hE hx25
  refine lv_aload_n hx hb dX5_push_61 rfl (lv_at hl 0 rfl) ?_
  refine lv_dup hx hb dX5_push_62 rfl ?_
  refine pg_i (k := 5) (j := 1) (f := 501) hx hb hown hU iu5 hw Ta0 (by decide) rfl (hU _ tw355) rfl dX5_push_63 ?_
  refine lv_iconst (v := 1) hx hb dX5_push_66 (by decide) ?_
  refine lv_iadd hx hb dX5_push_67 ?_
  refine pp_i (k := 5) (j := 1) (f := 501) hx hb hown hU iu5 tyX5_ok nmX5 hw Ta0 (by decide) rfl (hU _ tw355) rfl rfl rfl dX5_push_68 (fun H locs hw => ?_)
  exact pw_wvret hx hb hr hlk hw hE hm (by omega) (by omega) dX5_push_71
def wp_X5_push (n : Nat) (a0 : Nat) (a1 : Nat) (S0 : pq_S) (mc ms : Nat) (Q : (pq_S → Prop)) : Prop := if (pI S0 501 a0) < 0 then Q S0 else ∃ q2 : Nat, (pR S0 500 a0) = some q2 ∧ (if (pI S0 501 a0) < (Int32.ofNat (pN S0 q2)) then ∃ q4 : Nat, (pR S0 500 a0) = some q4 ∧ ((ix (pI S0 501 a0) (pN S0 q4)) ∧ (if (pQ S0 q4 (Int32.toNatClampNeg (pI S0 501 a0))) = none then ∃ q8 : Nat, (pR S0 500 a0) = some q8 ∧ (1 ≤ mc ∧ 5 ≤ ms ∧ ∀ q9 : Nat, q9 ∉ pL S0 → (∃ c14 s15 : Nat, c14 ≤ (mc - (1)) ∧ s15 ≤ (ms - (5)) ∧ wp_X8_init n q9 (nO S0 q9 8) c14 s15 (fun S_13 => (ix (pI S0 501 a0) (pN S_13 q8)) ∧ (pb_X5_push_48 n a0 a1 (sQ S_13 q8 (Int32.toNatClampNeg (pI S0 501 a0)) (some q9)) (mc - (1 + c14)) (ms - (5 + s15)) Q)))) else pb_X5_push_48 n a0 a1 S0 mc ms Q)) else Q S0)
theorem tc_X5_push : Cond.code yX5_push cX5_push 2 none ∈ pq_U := tw463
theorem cd_X5_push : yX5_push.cls = RX5 ∧ yX5_push.cls ≠ "java/lang/invoke/MethodHandle" ∧ yX5_push.cls ≠ "java/lang/invoke/VarHandle" ∧ (parseMethodDescriptor yX5_push.desc).map (fun d => d.parameters.length) = some 1 := by decide +kernel
set_option maxHeartbeats 4000000 in
set_option maxRecDepth 100000 in
theorem cw_X5_push (l : Launch) (C : pq_C) (X : va_W) (n : Nat) (S0 : pq_S) (hF : WF S0) (sz : Nat) (a0 : Nat) (a1 : Nat) (Ta0 : TY S0 a0 5) (Ta1 : TY S0 a1 8) (mc ms : Nat) (Q : (pq_S → Prop)) (hm : wp_X5_push n a0 a1 S0 mc ms Q) : Met l yX5_push (.code yX5_push cX5_push 2 none :: pq_U) (rw_X5_push mc ms) (va_Pc [.ref a0, .ref a1] (CPre C X S0 sz)) (QwV C X S0 sz Q) mc ms (pq_F C X S0 sz) := by
  refine Met.ofW (cc := cX5_push) (maxL := 2) (ret := none) (by decide) rfl ?_
  intro p e s m args below meth c s₁ B hml hv
  obtain ⟨rfl, hv⟩ := hv
  have hsz := hv.1
  subst hsz
  have hw := pw_entry hF hv
  have hts := atoms_spec (ws := .code yX5_push cX5_push 2 none :: pq_U) B.pre
  have hU : ∀ w ∈ pq_U, w.before _ s = true := fun w h => hts w (List.mem_cons_of_mem _ h)
  have hx := B.exec
  have hb := B.bytes
  have hr := B.returns
  have hown : s.vm.findClass RX5 = some m.cls := findClass_of_methodNamed B.named
  have hlk := B.notSynchronized
  have hl := lv_entry ([.ref a0, .ref a1]) (n := 2) (Nat.le_of_ble_eq_true rfl)
  rw [lg_entry_eq]
  generalize (lg_sl ([.ref a0, .ref a1]) ++ List.replicate (2 - (lg_sl ([.ref a0, .ref a1])).length) Slot.unset).toArray = ls at hl ⊢
  have hl : lv_has ls 2 [(0, .ref a0), (1, .ref a1)] := hl
  have hE : Ext S0 S0 := Ext.rf _
  have cx : Cx p s m _ meth c cX5_push 2 RX5 none := ⟨hx, hb, hml, hown, hU, hr, hlk⟩
  have hcc : 0 + mc ≤ mc := by omega
  have hss : 0 + ms ≤ ms := by omega
  rw [wp_X5_push] at hm
  refine lv_aload_n hx hb dX5_push_0 rfl (lv_at hl 0 rfl) ?_
  refine pg_i (k := 5) (j := 1) (f := 501) hx hb hown hU iu5 hw Ta0 (by decide) rfl (hU _ tw355) rfl dX5_push_1 ?_
  refine lv_if_lt (tgt := 19) hx hb dX5_push_4 (by decide) (fun h1 => ?_) (fun h1 => ?_)
  · rw [if_pos h1] at hm
    exact pw_wvret hx hb hr hlk hw hE hm (by omega) (by omega) dX5_push_19
  · rw [if_neg h1] at hm
    refine lv_aload_n hx hb dX5_push_7 rfl (lv_at hl 0 rfl) ?_
    refine pg_i (k := 5) (j := 1) (f := 501) hx hb hown hU iu5 hw Ta0 (by decide) rfl (hU _ tw355) rfl dX5_push_8 ?_
    refine lv_aload_n hx hb dX5_push_11 rfl (lv_at hl 0 rfl) ?_
    obtain ⟨q2, hq2, hm⟩ := hm
    have Tq2 : TY S0 q2 16 := hw.wf.ref (k := 5) (j := 0) Ta0 (by decide) (by decide) hq2
    refine pg_rb (k := 5) (j := 0) (f := 500) hx hb hown hU iu5 hw Ta0 (by decide) rfl (hU _ tw354) rfl hq2 dX5_push_12 ?_
    refine pw_alenS (v := (Int32.ofNat (pN S0 q2))) hx hb hw Tq2 rfl dX5_push_15 ?_
    refine lv_icmp_lt (tgt := 20) hx hb dX5_push_16 (by decide) (fun h3 => ?_) (fun h3 => ?_)
    · rw [if_pos h3] at hm
      refine lv_aload_n hx hb dX5_push_20 rfl (lv_at hl 0 rfl) ?_
      obtain ⟨q4, hq4, hm⟩ := hm
      have Tq4 : TY S0 q4 16 := hw.wf.ref (k := 5) (j := 0) Ta0 (by decide) (by decide) hq4
      refine pg_rb (k := 5) (j := 0) (f := 500) hx hb hown hU iu5 hw Ta0 (by decide) rfl (hU _ tw354) rfl hq4 dX5_push_21 ?_
      refine lv_aload_n hx hb dX5_push_24 rfl (lv_at hl 0 rfl) ?_
      refine pg_i (k := 5) (j := 1) (f := 501) hx hb hown hU iu5 hw Ta0 (by decide) rfl (hU _ tw355) rfl dX5_push_25 ?_
      obtain ⟨hi5, hm⟩ := hm
      refine pw_aaldS hx hb hw Tq4 hi5 dX5_push_28 ?_
      by_cases ho6 : (pQ S0 q4 (Int32.toNatClampNeg (pI S0 501 a0))) = none
      · rw [if_pos ho6] at hm
        rw [ho6]
        refine lv_ifnonnullN hx hb dX5_push_29 ?_
        refine lv_aload_n hx hb dX5_push_32 rfl (lv_at hl 0 rfl) ?_
        obtain ⟨q8, hq8, hm⟩ := hm
        have Tq8 : TY S0 q8 16 := hw.wf.ref (k := 5) (j := 0) Ta0 (by decide) (by decide) hq8
        refine pg_rb (k := 5) (j := 0) (f := 500) hx hb hown hU iu5 hw Ta0 (by decide) rfl (hU _ tw354) rfl hq8 dX5_push_33 ?_
        refine lv_aload_n hx hb dX5_push_36 rfl (lv_at hl 0 rfl) ?_
        refine pg_i (k := 5) (j := 1) (f := 501) hx hb hown hU iu5 hw Ta0 (by decide) rfl (hU _ tw355) rfl dX5_push_37 ?_
        obtain ⟨hb11, hb12, hm⟩ := hm
        refine pn_new (k := 8) hx hb hown hU iu8 tyX8_ok (hU _ tw352) (hU _ tw148) (hU _ tw6) hw (by decide) rfl (by decide) (by show _ ≤ mc; omega) (by show _ ≤ ms; omega) dX5_push_40 (fun q9 H hf10 hw => ?_)
        replace hm := hm q9 hf10
        have Tq8 : TY (nO S0 q9 8) q8 16 := ty_ext (ext_nO hf10) Tq8
        have Ta0 : TY (nO S0 q9 8) a0 5 := ty_ext (ext_nO hf10) Ta0
        have Ta1 : TY (nO S0 q9 8) a1 8 := ty_ext (ext_nO hf10) Ta1
        have hE : Ext S0 (nO S0 q9 8) := Ext.tr hE (ext_nO hf10)
        have Tq9 : TY (nO S0 q9 8) q9 8 := ty_nO _ _ _
        refine W.widen (k := 1) (n := 5) (by omega) (by omega) ?_
        have hcc : 1 + (mc - (1)) ≤ mc := by omega
        have hss : 5 + (ms - (5)) ≤ ms := by omega
        refine lv_dup hx hb dX5_push_43 rfl ?_
        obtain ⟨c14, s15, hb16, hb17, hm⟩ := hm
        refine pw_wv (va_runIN (As := []) (rest := [.ref q9, .int (pI S0 501 a0), .ref q8]) ⟨hx, hb, hml, hown, hU⟩ (cw_X8_init l C X n (nO S0 q9 8) hw.wf _ q9 (Tq9) c14 s15 _ hm) ⟨va_cnB (host := "WickNights") 0 hU (pq_g1 tc_X8_init) rfl rfl rfl (hw.nw 88 rfl) (hU _ tw6) cd_X8_init.2 ⟨Nat.le_of_ble_eq_true rfl, Nat.le_of_ble_eq_true rfl⟩, rfl, hU _ tw150⟩ (pw_preS hw) rfl rfl hl.1 rfl (lv_room (Nat.le_of_ble_eq_true rfl)) dX5_push_44 ⟨by show _ ≤ mc; omega, by show _ ≤ ms; omega⟩) hw (fun S_13 H locs hm hw hx18 => ?_)
        have Tq8 : TY S_13 q8 16 := ty_ext hx18 Tq8
        have Tq9 : TY S_13 q9 8 := ty_ext hx18 Tq9
        have Ta0 : TY S_13 a0 5 := ty_ext hx18 Ta0
        have Ta1 : TY S_13 a1 8 := ty_ext hx18 Ta1
        have hE : Ext S0 S_13 := Ext.tr hE hx18
        refine W.widen (k := 1 + c14) (n := 5 + s15) (by omega) (by omega) ?_
        have hcc : 1 + c14 + (mc - (1 + c14)) ≤ mc := by omega
        have hss : 5 + s15 + (ms - (5 + s15)) ≤ ms := by omega
        obtain ⟨hi19, hm⟩ := hm
        refine pw_aastS hx hb hw Tq8 Tq9 hi19 dX5_push_47 (fun H locs hw => ?_)
        exact wpb_X5_push_48 cx C X S0 n Q mc ms a0 a1 (sQ S_13 q8 (Int32.toNatClampNeg (pI S0 501 a0)) (some q9)) _ _ _ (1 + c14) (5 + s15) (mc - (1 + c14)) (ms - (5 + s15)) hcc hss hw hE Ta0 Ta1 (lv_sub hl [0, 1] rfl) hm
      · rw [if_neg ho6] at hm
        obtain ⟨q7, hq7⟩ := Option.ne_none_iff_exists'.mp ho6
        rw [hq7]
        refine lv_ifnonnull (tgt := 48) hx hb dX5_push_29 (by decide) ?_
        exact wpb_X5_push_48 cx C X S0 n Q mc ms a0 a1 S0 _ _ _ (0) (0) mc ms hcc hss hw hE Ta0 Ta1 (lv_sub hl [0, 1] rfl) hm
    · rw [if_neg h3] at hm
      exact pw_wvret hx hb hr hlk hw hE hm (by omega) (by omega) dX5_push_19
abbrev rw_X5_copyFrom (mc ms : Nat) : Room := { frames := 4, cells := mc, slots := ms, locals := 143 }
def pb_X5_copyFrom_43 (n : Nat) (k5 : Nat → Nat → Int32 → pq_S → Nat → Nat → (pq_S → Prop) → Prop) (a0 : Nat) (a1 : Nat) (x2 : Int32) (S : pq_S) (bc bs : Nat) (Q : (pq_S → Prop)) : Prop := k5 a0 a1 (x2 + 1) S bc bs Q
set_option maxHeartbeats 4000000 in
set_option maxRecDepth 100000 in
theorem wpb_X5_copyFrom_43 {p : Program} {l : Launch} {e : Env} {s : State} {m : MethodId} {args : Array Value} {below : List Frame} {meth : Method} {c : Code} (cx : Cx p s m args meth c cX5_copyFrom 3 RX5 none) (C : pq_C) (X : va_W) (S0 : pq_S) (n : Nat) (Q : (pq_S → Prop)) (mc ms : Nat) (k5 : Nat → Nat → Int32 → pq_S → Nat → Nat → (pq_S → Prop) → Prop) (hk5 : ∀ (a0 : Nat) (a1 : Nat) (x2 : Int32) (S : pq_S) (H : Heap) (locs : List Loc) (ls : Array Slot) (cells slots bc bs : Nat), cells + bc ≤ mc → slots + bs ≤ ms → PW C X S (pq_F C X S0 s.heap.size) H locs s → Ext S0 S → TY S a0 5 → TY S a1 5 → lv_has ls 3 [(0, .ref a0), (1, .ref a1), (2, .int x2)] → k5 a0 a1 x2 S bc bs Q → W p l e (rw_X5_copyFrom mc ms) s m args below meth c H locs cells slots (MQ below (QwV C X S0 s.heap.size Q) args s mc ms (pq_F C X S0 s.heap.size)) (F0 m 7 ls [])) : ∀ (a0 : Nat) (a1 : Nat) (x2 : Int32) (S : pq_S) (H : Heap) (locs : List Loc) (ls : Array Slot) (cells slots bc bs : Nat), cells + bc ≤ mc → slots + bs ≤ ms → PW C X S (pq_F C X S0 s.heap.size) H locs s → Ext S0 S → TY S a0 5 → TY S a1 5 → lv_has ls 3 [(0, .ref a0), (1, .ref a1), (2, .int x2)] → pb_X5_copyFrom_43 n k5 a0 a1 x2 S bc bs Q → W p l e (rw_X5_copyFrom mc ms) s m args below meth c H locs cells slots (MQ below (QwV C X S0 s.heap.size Q) args s mc ms (pq_F C X S0 s.heap.size)) (F0 m 43 ls []) := by
  obtain ⟨hx, hb, hml, hown, hU, hr, hlk⟩ := id cx
  intro a0 a1 x2 S H locs ls cells slots bc bs hcc hss hw hE Ta0 Ta1 hl hm
  rw [pb_X5_copyFrom_43] at hm
  refine lv_iinc (v := (x2 + 1)) (lv' := [(2, .int (x2 + 1)), (0, .ref a0), (1, .ref a1)]) hx hb dX5_copyFrom_43 hl (k := 2) rfl rfl (by decide) rfl (fun ls hl => ?_)
  refine lv_goto (tgt := 7) hx hb dX5_copyFrom_46 (by decide) ?_
  exact hk5 a0 a1 (x2 + 1) S _ _ _ (cells) (slots) bc bs hcc hss hw hE Ta0 Ta1 (lv_sub hl [1, 2, 0] rfl) hm
def pb_X5_copyFrom_7 (n : Nat) : Nat → Nat → Nat → Int32 → pq_S → Nat → Nat → (pq_S → Prop) → Prop
  | 0, _, _, _, _, _, _, _ => False
  | f + 1, a0, a1, x2, S, bc, bs, Q => if (pI S 501 a1) ≤ x2 then Q S else ∃ q2 : Nat, (pR S 500 a1) = some q2 ∧ (if (Int32.ofNat (pN S q2)) ≤ x2 then Q S else ∃ q4 : Nat, (pR S 500 a1) = some q4 ∧ ((ix x2 (pN S q4)) ∧ (if (pQ S q4 (Int32.toNatClampNeg x2)) = none then pb_X5_copyFrom_43 n (pb_X5_copyFrom_7 n f) a0 a1 x2 S bc bs Q else ∃ q8 : Nat, (pR S 500 a1) = some q8 ∧ ((ix x2 (pN S q8)) ∧ (∃ q10 : Nat, (pQ S q8 (Int32.toNatClampNeg x2)) = some q10 ∧ (∃ c12 s13 : Nat, c12 ≤ bc ∧ s13 ≤ bs ∧ wp_X5_push n a0 q10 S c12 s13 (fun S_11 => pb_X5_copyFrom_43 n (pb_X5_copyFrom_7 n f) a0 a1 x2 S_11 (bc - (c12)) (bs - (s13)) Q)))))))
set_option maxHeartbeats 4000000 in
set_option maxRecDepth 100000 in
theorem wpb_X5_copyFrom_7 {p : Program} {l : Launch} {e : Env} {s : State} {m : MethodId} {args : Array Value} {below : List Frame} {meth : Method} {c : Code} (cx : Cx p s m args meth c cX5_copyFrom 3 RX5 none) (C : pq_C) (X : va_W) (S0 : pq_S) (n : Nat) (Q : (pq_S → Prop)) (mc ms : Nat) : ∀ (f : Nat) (a0 : Nat) (a1 : Nat) (x2 : Int32) (S : pq_S) (H : Heap) (locs : List Loc) (ls : Array Slot) (cells slots bc bs : Nat), cells + bc ≤ mc → slots + bs ≤ ms → PW C X S (pq_F C X S0 s.heap.size) H locs s → Ext S0 S → TY S a0 5 → TY S a1 5 → lv_has ls 3 [(0, .ref a0), (1, .ref a1), (2, .int x2)] → pb_X5_copyFrom_7 n f a0 a1 x2 S bc bs Q → W p l e (rw_X5_copyFrom mc ms) s m args below meth c H locs cells slots (MQ below (QwV C X S0 s.heap.size Q) args s mc ms (pq_F C X S0 s.heap.size)) (F0 m 7 ls []) := by
  obtain ⟨hx, hb, hml, hown, hU, hr, hlk⟩ := id cx
  intro f
  induction f with
  | zero =>
    intro a0 a1 x2 S H locs ls cells slots bc bs hcc hss hw hE Ta0 Ta1 hl hm
    exact hm.elim
  | succ f ih =>
    intro a0 a1 x2 S H locs ls cells slots bc bs hcc hss hw hE Ta0 Ta1 hl hm
    rw [pb_X5_copyFrom_7] at hm
    refine lv_iload_n hx hb dX5_copyFrom_7 rfl (lv_at hl 2 rfl) ?_
    refine lv_aload_n hx hb dX5_copyFrom_8 rfl (lv_at hl 1 rfl) ?_
    refine pg_i (k := 5) (j := 1) (f := 501) hx hb hown hU iu5 hw Ta1 (by decide) rfl (hU _ tw355) rfl dX5_copyFrom_9 ?_
    refine lv_icmp_ge (tgt := 49) hx hb dX5_copyFrom_12 (by decide) (fun h1 => ?_) (fun h1 => ?_)
    · rw [if_pos h1] at hm
      exact pw_wvret hx hb hr hlk hw hE hm (by omega) (by omega) dX5_copyFrom_49
    · rw [if_neg h1] at hm
      refine lv_iload_n hx hb dX5_copyFrom_15 rfl (lv_at hl 2 rfl) ?_
      refine lv_aload_n hx hb dX5_copyFrom_16 rfl (lv_at hl 1 rfl) ?_
      obtain ⟨q2, hq2, hm⟩ := hm
      have Tq2 : TY S q2 16 := hw.wf.ref (k := 5) (j := 0) Ta1 (by decide) (by decide) hq2
      refine pg_rb (k := 5) (j := 0) (f := 500) hx hb hown hU iu5 hw Ta1 (by decide) rfl (hU _ tw354) rfl hq2 dX5_copyFrom_17 ?_
      refine pw_alenS (v := (Int32.ofNat (pN S q2))) hx hb hw Tq2 rfl dX5_copyFrom_20 ?_
      refine lv_icmp_ge (tgt := 49) hx hb dX5_copyFrom_21 (by decide) (fun h3 => ?_) (fun h3 => ?_)
      · rw [if_pos h3] at hm
        exact pw_wvret hx hb hr hlk hw hE hm (by omega) (by omega) dX5_copyFrom_49
      · rw [if_neg h3] at hm
        refine lv_aload_n hx hb dX5_copyFrom_24 rfl (lv_at hl 1 rfl) ?_
        obtain ⟨q4, hq4, hm⟩ := hm
        have Tq4 : TY S q4 16 := hw.wf.ref (k := 5) (j := 0) Ta1 (by decide) (by decide) hq4
        refine pg_rb (k := 5) (j := 0) (f := 500) hx hb hown hU iu5 hw Ta1 (by decide) rfl (hU _ tw354) rfl hq4 dX5_copyFrom_25 ?_
        refine lv_iload_n hx hb dX5_copyFrom_28 rfl (lv_at hl 2 rfl) ?_
        obtain ⟨hi5, hm⟩ := hm
        refine pw_aaldS hx hb hw Tq4 hi5 dX5_copyFrom_29 ?_
        by_cases ho6 : (pQ S q4 (Int32.toNatClampNeg x2)) = none
        · rw [if_pos ho6] at hm
          rw [ho6]
          refine lv_ifnullN (tgt := 43) hx hb dX5_copyFrom_30 (by decide) ?_
          exact wpb_X5_copyFrom_43 cx C X S0 n Q mc ms _ ih a0 a1 x2 S _ _ _ (cells) (slots) bc bs hcc hss hw hE Ta0 Ta1 (lv_sub hl [0, 1, 2] rfl) hm
        · rw [if_neg ho6] at hm
          obtain ⟨q7, hq7⟩ := Option.ne_none_iff_exists'.mp ho6
          rw [hq7]
          refine lv_ifnull hx hb dX5_copyFrom_30 ?_
          refine lv_aload_n hx hb dX5_copyFrom_33 rfl (lv_at hl 0 rfl) ?_
          refine lv_aload_n hx hb dX5_copyFrom_34 rfl (lv_at hl 1 rfl) ?_
          obtain ⟨q8, hq8, hm⟩ := hm
          have Tq8 : TY S q8 16 := hw.wf.ref (k := 5) (j := 0) Ta1 (by decide) (by decide) hq8
          refine pg_rb (k := 5) (j := 0) (f := 500) hx hb hown hU iu5 hw Ta1 (by decide) rfl (hU _ tw354) rfl hq8 dX5_copyFrom_35 ?_
          refine lv_iload_n hx hb dX5_copyFrom_38 rfl (lv_at hl 2 rfl) ?_
          obtain ⟨hi9, hm⟩ := hm
          obtain ⟨q10, hq10, hm⟩ := hm
          have Tq10 : TY S q10 8 := hw.wf.2.2 _ _ _ Tq8 hq10
          refine pw_aaldSb hx hb hw Tq8 hi9 hq10 dX5_copyFrom_39 ?_
          obtain ⟨c12, s13, hb14, hb15, hm⟩ := hm
          refine pw_wv (va_runV (As := [.ref q10]) (rest := []) ⟨hx, hb, hml, hown, hU⟩ (cw_X5_push l C X n S hw.wf _ a0 q10 (Ta0) (Tq10) c12 s13 _ hm) (cwV 1 hU (pq_gV tw460 tw462 ts5 tw13 tc_X5_push) rfl rfl rfl cd_X5_push ⟨Nat.le_of_ble_eq_true rfl, Nat.le_of_ble_eq_true rfl⟩) (pw_preV hw Ta0 (by decide) rfl) rfl rfl hl.1 rfl (lv_room (Nat.le_of_ble_eq_true rfl)) dX5_copyFrom_40 ⟨by show _ ≤ mc; omega, by show _ ≤ ms; omega⟩) hw (fun S_11 H locs hm hw hx16 => ?_)
          have Ta0 : TY S_11 a0 5 := ty_ext hx16 Ta0
          have Ta1 : TY S_11 a1 5 := ty_ext hx16 Ta1
          have hE : Ext S0 S_11 := Ext.tr hE hx16
          refine W.widen (k := cells + (c12)) (n := slots + (s13)) (by omega) (by omega) ?_
          have hcc : cells + (c12) + (bc - (c12)) ≤ mc := by omega
          have hss : slots + (s13) + (bs - (s13)) ≤ ms := by omega
          exact wpb_X5_copyFrom_43 cx C X S0 n Q mc ms _ ih a0 a1 x2 S_11 _ _ _ (cells + (c12)) (slots + (s13)) (bc - (c12)) (bs - (s13)) hcc hss hw hE Ta0 Ta1 (lv_sub hl [0, 1, 2] rfl) hm
def wp_X5_copyFrom (n : Nat) (a0 : Nat) (a1 : Nat) (S0 : pq_S) (mc ms : Nat) (Q : (pq_S → Prop)) : Prop := pb_X5_copyFrom_7 n n a0 a1 0 (sI S0 501 a0 0) mc ms Q
theorem tc_X5_copyFrom : Cond.code yX5_copyFrom cX5_copyFrom 3 none ∈ pq_U := tw459
theorem cd_X5_copyFrom : yX5_copyFrom.cls = RX5 ∧ yX5_copyFrom.cls ≠ "java/lang/invoke/MethodHandle" ∧ yX5_copyFrom.cls ≠ "java/lang/invoke/VarHandle" ∧ (parseMethodDescriptor yX5_copyFrom.desc).map (fun d => d.parameters.length) = some 1 := by decide +kernel
set_option maxHeartbeats 4000000 in
set_option maxRecDepth 100000 in
theorem cw_X5_copyFrom (l : Launch) (C : pq_C) (X : va_W) (n : Nat) (S0 : pq_S) (hF : WF S0) (sz : Nat) (a0 : Nat) (a1 : Nat) (Ta0 : TY S0 a0 5) (Ta1 : TY S0 a1 5) (mc ms : Nat) (Q : (pq_S → Prop)) (hm : wp_X5_copyFrom n a0 a1 S0 mc ms Q) : Met l yX5_copyFrom (.code yX5_copyFrom cX5_copyFrom 3 none :: pq_U) (rw_X5_copyFrom mc ms) (va_Pc [.ref a0, .ref a1] (CPre C X S0 sz)) (QwV C X S0 sz Q) mc ms (pq_F C X S0 sz) := by
  refine Met.ofW (cc := cX5_copyFrom) (maxL := 3) (ret := none) (by decide) rfl ?_
  intro p e s m args below meth c s₁ B hml hv
  obtain ⟨rfl, hv⟩ := hv
  have hsz := hv.1
  subst hsz
  have hw := pw_entry hF hv
  have hts := atoms_spec (ws := .code yX5_copyFrom cX5_copyFrom 3 none :: pq_U) B.pre
  have hU : ∀ w ∈ pq_U, w.before _ s = true := fun w h => hts w (List.mem_cons_of_mem _ h)
  have hx := B.exec
  have hb := B.bytes
  have hr := B.returns
  have hown : s.vm.findClass RX5 = some m.cls := findClass_of_methodNamed B.named
  have hlk := B.notSynchronized
  have hl := lv_entry ([.ref a0, .ref a1]) (n := 3) (Nat.le_of_ble_eq_true rfl)
  rw [lg_entry_eq]
  generalize (lg_sl ([.ref a0, .ref a1]) ++ List.replicate (3 - (lg_sl ([.ref a0, .ref a1])).length) Slot.unset).toArray = ls at hl ⊢
  have hl : lv_has ls 3 [(0, .ref a0), (1, .ref a1)] := hl
  have hE : Ext S0 S0 := Ext.rf _
  have cx : Cx p s m _ meth c cX5_copyFrom 3 RX5 none := ⟨hx, hb, hml, hown, hU, hr, hlk⟩
  have hcc : 0 + mc ≤ mc := by omega
  have hss : 0 + ms ≤ ms := by omega
  rw [wp_X5_copyFrom] at hm
  refine lv_aload_n hx hb dX5_copyFrom_0 rfl (lv_at hl 0 rfl) ?_
  refine lv_iconst (v := 0) hx hb dX5_copyFrom_1 (by decide) ?_
  refine pp_i (k := 5) (j := 1) (f := 501) hx hb hown hU iu5 tyX5_ok nmX5 hw Ta0 (by decide) rfl (hU _ tw355) rfl rfl rfl dX5_copyFrom_2 (fun H locs hw => ?_)
  refine lv_iconst (v := 0) hx hb dX5_copyFrom_5 (by decide) ?_
  refine lv_istore_n (lv' := [(2, .int 0), (0, .ref a0), (1, .ref a1)]) hx hb dX5_copyFrom_6 rfl hl (by decide) rfl (fun ls hl => ?_)
  exact wpb_X5_copyFrom_7 cx C X S0 n Q mc ms n a0 a1 0 (sI S0 501 a0 0) _ _ _ (0) (0) mc ms hcc hss hw hE Ta0 Ta1 (lv_sub hl [1, 2, 0] rfl) hm
abbrev rw_X7_init (mc ms : Nat) : Room := { frames := 3, cells := mc, slots := ms, locals := 62 }
def wp_X7_init (n : Nat) (a0 : Nat) (S0 : pq_S) (mc ms : Nat) (Q : (pq_S → Prop)) : Prop := 1 ≤ mc ∧ 6 ≤ ms ∧ ∀ q1 : Nat, q1 ∉ pL S0 → (∃ c6 s7 : Nat, c6 ≤ (mc - (1)) ∧ s7 ≤ (ms - (6)) ∧ wp_X1_init n q1 (nO S0 q1 1) c6 s7 (fun S_5 => 1 ≤ (mc - (1 + c6)) ∧ 5 ≤ (ms - (6 + s7)) ∧ ∀ q11 : Nat, q11 ∉ pL (sR S_5 700 a0 (some q1)) → (∃ c16 s17 : Nat, c16 ≤ (mc - (2 + c6)) ∧ s17 ≤ (ms - (11 + s7)) ∧ wp_X8_init n q11 (nO (sR S_5 700 a0 (some q1)) q11 8) c16 s17 (fun S_15 => 1 ≤ (mc - (2 + c6 + c16)) ∧ 5 ≤ (ms - (11 + s7 + s17)) ∧ ∀ q21 : Nat, q21 ∉ pL (sR S_15 701 a0 (some q11)) → (∃ c26 s27 : Nat, c26 ≤ (mc - (3 + c6 + c16)) ∧ s27 ≤ (ms - (16 + s7 + s17)) ∧ wp_X2_init n q21 (nO (sR S_15 701 a0 (some q11)) q21 2) c26 s27 (fun S_25 => 1 ≤ (mc - (3 + c6 + c16 + c26)) ∧ 5 ≤ (ms - (16 + s7 + s17 + s27)) ∧ ∀ q31 : Nat, q31 ∉ pL (sR S_25 702 a0 (some q21)) → (∃ c36 s37 : Nat, c36 ≤ (mc - (4 + c6 + c16 + c26)) ∧ s37 ≤ (ms - (21 + s7 + s17 + s27)) ∧ wp_X2_init n q31 (nO (sR S_25 702 a0 (some q21)) q31 2) c36 s37 (fun S_35 => Q (sR S_35 703 a0 (some q31))))))))))
theorem tc_X7_init : Cond.code yX7_init cX7_init 1 none ∈ pq_U := tw76
theorem cd_X7_init : yX7_init.cls = RX7 ∧ yX7_init.cls ≠ "java/lang/invoke/MethodHandle" ∧ yX7_init.cls ≠ "java/lang/invoke/VarHandle" ∧ (parseMethodDescriptor yX7_init.desc).map (fun d => d.parameters.length) = some 0 := by decide +kernel
set_option maxHeartbeats 4000000 in
set_option maxRecDepth 100000 in
theorem cw_X7_init (l : Launch) (C : pq_C) (X : va_W) (n : Nat) (S0 : pq_S) (hF : WF S0) (sz : Nat) (a0 : Nat) (Ta0 : TY S0 a0 7) (mc ms : Nat) (Q : (pq_S → Prop)) (hm : wp_X7_init n a0 S0 mc ms Q) : Met l yX7_init (.code yX7_init cX7_init 1 none :: pq_U) (rw_X7_init mc ms) (va_Pc [.ref a0] (CPre C X S0 sz)) (QwV C X S0 sz Q) mc ms (pq_F C X S0 sz) := by
  refine Met.ofW (cc := cX7_init) (maxL := 1) (ret := none) (by decide) rfl ?_
  intro p e s m args below meth c s₁ B hml hv
  obtain ⟨rfl, hv⟩ := hv
  have hsz := hv.1
  subst hsz
  have hw := pw_entry hF hv
  have hts := atoms_spec (ws := .code yX7_init cX7_init 1 none :: pq_U) B.pre
  have hU : ∀ w ∈ pq_U, w.before _ s = true := fun w h => hts w (List.mem_cons_of_mem _ h)
  have hx := B.exec
  have hb := B.bytes
  have hr := B.returns
  have hown : s.vm.findClass RX7 = some m.cls := findClass_of_methodNamed B.named
  have hlk := B.notSynchronized
  have hin : meth.name = "<init>" := (name_of_methodNamed B.named B.method).1
  have hl := lv_entry ([.ref a0]) (n := 1) (Nat.le_of_ble_eq_true rfl)
  rw [lg_entry_eq]
  generalize (lg_sl ([.ref a0]) ++ List.replicate (1 - (lg_sl ([.ref a0])).length) Slot.unset).toArray = ls at hl ⊢
  have hl : lv_has ls 1 [(0, .ref a0)] := hl
  have hE : Ext S0 S0 := Ext.rf _
  have cx : Cx p s m _ meth c cX7_init 1 RX7 none := ⟨hx, hb, hml, hown, hU, hr, hlk⟩
  have hcc : 0 + mc ≤ mc := by omega
  have hss : 0 + ms ≤ ms := by omega
  rw [wp_X7_init] at hm
  refine lv_aload_n hx hb dX7_init_0 rfl (lv_at hl 0 rfl) ?_
  refine pw_obj hx hb (by rw [hml]; exact hl.1.symm) hown (hU _ tw77) (hU _ tw_obji) (hU _ tw_objc) dX7_init_1 (Nat.le_of_ble_eq_true rfl) (Nat.le_of_ble_eq_true rfl) ?_
  refine lv_aload_n hx hb dX7_init_4 rfl (lv_at hl 0 rfl) ?_
  obtain ⟨hb3, hb4, hm⟩ := hm
  refine pn_new (k := 1) hx hb hown hU iu1 tyX1_ok (hU _ tw78) (hU _ tw79) (hU _ tw4) hw (by decide) rfl (by decide) (by show _ ≤ mc; omega) (by show _ ≤ ms; omega) dX7_init_5 (fun q1 H hf2 hw => ?_)
  replace hm := hm q1 hf2
  have Ta0 : TY (nO S0 q1 1) a0 7 := ty_ext (ext_nO hf2) Ta0
  have hE : Ext S0 (nO S0 q1 1) := Ext.tr hE (ext_nO hf2)
  have Tq1 : TY (nO S0 q1 1) q1 1 := ty_nO _ _ _
  refine W.widen (k := 1) (n := 6) (by omega) (by omega) ?_
  have hcc : 1 + (mc - (1)) ≤ mc := by omega
  have hss : 6 + (ms - (6)) ≤ ms := by omega
  refine lv_dup hx hb dX7_init_8 rfl ?_
  obtain ⟨c6, s7, hb8, hb9, hm⟩ := hm
  refine pw_wv (va_runIN (As := []) (rest := [.ref q1, .ref a0]) ⟨hx, hb, hml, hown, hU⟩ (cw_X1_init l C X n (nO S0 q1 1) hw.wf _ q1 (Tq1) c6 s7 _ hm) ⟨va_cnB (host := "WickNights") 0 hU (pq_g1 tc_X1_init) rfl rfl rfl (hw.nw 11 rfl) (hU _ tw4) cd_X1_init.2 ⟨Nat.le_of_ble_eq_true rfl, Nat.le_of_ble_eq_true rfl⟩, rfl, hU _ tw81⟩ (pw_preS hw) rfl rfl hl.1 rfl (lv_room (Nat.le_of_ble_eq_true rfl)) dX7_init_9 ⟨by show _ ≤ mc; omega, by show _ ≤ ms; omega⟩) hw (fun S_5 H locs hm hw hx10 => ?_)
  have Ta0 : TY S_5 a0 7 := ty_ext hx10 Ta0
  have Tq1 : TY S_5 q1 1 := ty_ext hx10 Tq1
  have hE : Ext S0 S_5 := Ext.tr hE hx10
  refine W.widen (k := 1 + c6) (n := 6 + s7) (by omega) (by omega) ?_
  have hcc : 1 + c6 + (mc - (1 + c6)) ≤ mc := by omega
  have hss : 6 + s7 + (ms - (6 + s7)) ≤ ms := by omega
  refine ppF_r (k := 7) (j := 0) (f := 700) hx hb hown hU iu7 tyX7_ok nmX7 hw Ta0 Tq1 (by decide) rfl (hU _ tw205) rfl rfl hin rfl rfl rfl rfl dX7_init_12 (fun H locs hw => ?_)
  refine lv_aload_n hx hb dX7_init_15 rfl (lv_at hl 0 rfl) ?_
  obtain ⟨hb13, hb14, hm⟩ := hm
  refine pn_new (k := 8) hx hb hown hU iu8 tyX8_ok (hU _ tw147) (hU _ tw148) (hU _ tw6) hw (by decide) rfl (by decide) (by show _ ≤ mc; omega) (by show _ ≤ ms; omega) dX7_init_16 (fun q11 H hf12 hw => ?_)
  replace hm := hm q11 hf12
  have Ta0 : TY (nO (sR S_5 700 a0 (some q1)) q11 8) a0 7 := ty_ext (ext_nO hf12) Ta0
  have hE : Ext S0 (nO (sR S_5 700 a0 (some q1)) q11 8) := Ext.tr hE (ext_nO hf12)
  have Tq11 : TY (nO (sR S_5 700 a0 (some q1)) q11 8) q11 8 := ty_nO _ _ _
  refine W.widen (k := 2 + c6) (n := 11 + s7) (by omega) (by omega) ?_
  have hcc : 2 + c6 + (mc - (2 + c6)) ≤ mc := by omega
  have hss : 11 + s7 + (ms - (11 + s7)) ≤ ms := by omega
  refine lv_dup hx hb dX7_init_19 rfl ?_
  obtain ⟨c16, s17, hb18, hb19, hm⟩ := hm
  refine pw_wv (va_runIN (As := []) (rest := [.ref q11, .ref a0]) ⟨hx, hb, hml, hown, hU⟩ (cw_X8_init l C X n (nO (sR S_5 700 a0 (some q1)) q11 8) hw.wf _ q11 (Tq11) c16 s17 _ hm) ⟨va_cnB (host := "WickNights") 0 hU (pq_g1 tc_X8_init) rfl rfl rfl (hw.nw 40 rfl) (hU _ tw6) cd_X8_init.2 ⟨Nat.le_of_ble_eq_true rfl, Nat.le_of_ble_eq_true rfl⟩, rfl, hU _ tw150⟩ (pw_preS hw) rfl rfl hl.1 rfl (lv_room (Nat.le_of_ble_eq_true rfl)) dX7_init_20 ⟨by show _ ≤ mc; omega, by show _ ≤ ms; omega⟩) hw (fun S_15 H locs hm hw hx20 => ?_)
  have Ta0 : TY S_15 a0 7 := ty_ext hx20 Ta0
  have Tq11 : TY S_15 q11 8 := ty_ext hx20 Tq11
  have hE : Ext S0 S_15 := Ext.tr hE hx20
  refine W.widen (k := 2 + c6 + c16) (n := 11 + s7 + s17) (by omega) (by omega) ?_
  have hcc : 2 + c6 + c16 + (mc - (2 + c6 + c16)) ≤ mc := by omega
  have hss : 11 + s7 + s17 + (ms - (11 + s7 + s17)) ≤ ms := by omega
  refine ppF_r (k := 7) (j := 1) (f := 701) hx hb hown hU iu7 tyX7_ok nmX7 hw Ta0 Tq11 (by decide) rfl (hU _ tw209) rfl rfl hin rfl rfl rfl rfl dX7_init_23 (fun H locs hw => ?_)
  refine lv_aload_n hx hb dX7_init_26 rfl (lv_at hl 0 rfl) ?_
  obtain ⟨hb23, hb24, hm⟩ := hm
  refine pn_new (k := 2) hx hb hown hU iu2 tyX2_ok (hU _ tw182) (hU _ tw183) (hU _ tw7) hw (by decide) rfl (by decide) (by show _ ≤ mc; omega) (by show _ ≤ ms; omega) dX7_init_27 (fun q21 H hf22 hw => ?_)
  replace hm := hm q21 hf22
  have Ta0 : TY (nO (sR S_15 701 a0 (some q11)) q21 2) a0 7 := ty_ext (ext_nO hf22) Ta0
  have hE : Ext S0 (nO (sR S_15 701 a0 (some q11)) q21 2) := Ext.tr hE (ext_nO hf22)
  have Tq21 : TY (nO (sR S_15 701 a0 (some q11)) q21 2) q21 2 := ty_nO _ _ _
  refine W.widen (k := 3 + c6 + c16) (n := 16 + s7 + s17) (by omega) (by omega) ?_
  have hcc : 3 + c6 + c16 + (mc - (3 + c6 + c16)) ≤ mc := by omega
  have hss : 16 + s7 + s17 + (ms - (16 + s7 + s17)) ≤ ms := by omega
  refine lv_dup hx hb dX7_init_30 rfl ?_
  obtain ⟨c26, s27, hb28, hb29, hm⟩ := hm
  refine pw_wv (va_runIN (As := []) (rest := [.ref q21, .ref a0]) ⟨hx, hb, hml, hown, hU⟩ (cw_X2_init l C X n (nO (sR S_15 701 a0 (some q11)) q21 2) hw.wf _ q21 (Tq21) c26 s27 _ hm) ⟨va_cnB (host := "WickNights") 0 hU (pq_g1 tc_X2_init) rfl rfl rfl (hw.nw 53 rfl) (hU _ tw7) cd_X2_init.2 ⟨Nat.le_of_ble_eq_true rfl, Nat.le_of_ble_eq_true rfl⟩, rfl, hU _ tw185⟩ (pw_preS hw) rfl rfl hl.1 rfl (lv_room (Nat.le_of_ble_eq_true rfl)) dX7_init_31 ⟨by show _ ≤ mc; omega, by show _ ≤ ms; omega⟩) hw (fun S_25 H locs hm hw hx30 => ?_)
  have Ta0 : TY S_25 a0 7 := ty_ext hx30 Ta0
  have Tq21 : TY S_25 q21 2 := ty_ext hx30 Tq21
  have hE : Ext S0 S_25 := Ext.tr hE hx30
  refine W.widen (k := 3 + c6 + c16 + c26) (n := 16 + s7 + s17 + s27) (by omega) (by omega) ?_
  have hcc : 3 + c6 + c16 + c26 + (mc - (3 + c6 + c16 + c26)) ≤ mc := by omega
  have hss : 16 + s7 + s17 + s27 + (ms - (16 + s7 + s17 + s27)) ≤ ms := by omega
  refine ppF_r (k := 7) (j := 2) (f := 702) hx hb hown hU iu7 tyX7_ok nmX7 hw Ta0 Tq21 (by decide) rfl (hU _ tw212) rfl rfl hin rfl rfl rfl rfl dX7_init_34 (fun H locs hw => ?_)
  refine lv_aload_n hx hb dX7_init_37 rfl (lv_at hl 0 rfl) ?_
  obtain ⟨hb33, hb34, hm⟩ := hm
  refine pn_new (k := 2) hx hb hown hU iu2 tyX2_ok (hU _ tw182) (hU _ tw183) (hU _ tw7) hw (by decide) rfl (by decide) (by show _ ≤ mc; omega) (by show _ ≤ ms; omega) dX7_init_38 (fun q31 H hf32 hw => ?_)
  replace hm := hm q31 hf32
  have Ta0 : TY (nO (sR S_25 702 a0 (some q21)) q31 2) a0 7 := ty_ext (ext_nO hf32) Ta0
  have hE : Ext S0 (nO (sR S_25 702 a0 (some q21)) q31 2) := Ext.tr hE (ext_nO hf32)
  have Tq31 : TY (nO (sR S_25 702 a0 (some q21)) q31 2) q31 2 := ty_nO _ _ _
  refine W.widen (k := 4 + c6 + c16 + c26) (n := 21 + s7 + s17 + s27) (by omega) (by omega) ?_
  have hcc : 4 + c6 + c16 + c26 + (mc - (4 + c6 + c16 + c26)) ≤ mc := by omega
  have hss : 21 + s7 + s17 + s27 + (ms - (21 + s7 + s17 + s27)) ≤ ms := by omega
  refine lv_dup hx hb dX7_init_41 rfl ?_
  obtain ⟨c36, s37, hb38, hb39, hm⟩ := hm
  refine pw_wv (va_runIN (As := []) (rest := [.ref q31, .ref a0]) ⟨hx, hb, hml, hown, hU⟩ (cw_X2_init l C X n (nO (sR S_25 702 a0 (some q21)) q31 2) hw.wf _ q31 (Tq31) c36 s37 _ hm) ⟨va_cnB (host := "WickNights") 0 hU (pq_g1 tc_X2_init) rfl rfl rfl (hw.nw 53 rfl) (hU _ tw7) cd_X2_init.2 ⟨Nat.le_of_ble_eq_true rfl, Nat.le_of_ble_eq_true rfl⟩, rfl, hU _ tw185⟩ (pw_preS hw) rfl rfl hl.1 rfl (lv_room (Nat.le_of_ble_eq_true rfl)) dX7_init_42 ⟨by show _ ≤ mc; omega, by show _ ≤ ms; omega⟩) hw (fun S_35 H locs hm hw hx40 => ?_)
  have Ta0 : TY S_35 a0 7 := ty_ext hx40 Ta0
  have Tq31 : TY S_35 q31 2 := ty_ext hx40 Tq31
  have hE : Ext S0 S_35 := Ext.tr hE hx40
  refine W.widen (k := 4 + c6 + c16 + c26 + c36) (n := 21 + s7 + s17 + s27 + s37) (by omega) (by omega) ?_
  have hcc : 4 + c6 + c16 + c26 + c36 + (mc - (4 + c6 + c16 + c26 + c36)) ≤ mc := by omega
  have hss : 21 + s7 + s17 + s27 + s37 + (ms - (21 + s7 + s17 + s27 + s37)) ≤ ms := by omega
  refine ppF_r (k := 7) (j := 3) (f := 703) hx hb hown hU iu7 tyX7_ok nmX7 hw Ta0 Tq31 (by decide) rfl (hU _ tw214) rfl rfl hin rfl rfl rfl rfl dX7_init_45 (fun H locs hw => ?_)
  exact pw_wvret hx hb hr hlk hw hE hm (by omega) (by omega) dX7_init_48
abbrev rw_X11_init (mc ms : Nat) : Room := { frames := 4, cells := mc, slots := ms, locals := 82 }
def wp_X11_init (n : Nat) (a0 : Nat) (S0 : pq_S) (mc ms : Nat) (Q : (pq_S → Prop)) : Prop := 1 ≤ mc ∧ 7 ≤ ms ∧ ∀ q1 : Nat, q1 ∉ pL S0 → (∃ c6 s7 : Nat, c6 ≤ (mc - (1)) ∧ s7 ≤ (ms - (7)) ∧ wp_X10_init n q1 (nO S0 q1 10) c6 s7 (fun S_5 => 1 ≤ (mc - (1 + c6)) ∧ 6 ≤ (ms - (7 + s7)) ∧ ∀ q11 : Nat, q11 ∉ pL (sR S_5 1100 a0 (some q1)) → (∃ c16 s17 : Nat, c16 ≤ (mc - (2 + c6)) ∧ s17 ≤ (ms - (13 + s7)) ∧ wp_X7_init n q11 (nO (sR S_5 1100 a0 (some q1)) q11 7) c16 s17 (fun S_15 => 1 ≤ (mc - (2 + c6 + c16)) ∧ 9 ≤ (ms - (13 + s7 + s17)) ∧ ∀ q21 : Nat, q21 ∉ pL (sR S_15 1101 a0 (some q11)) → (∃ q25 : Nat, (pR (nO (sR S_15 1101 a0 (some q11)) q21 3) 1101 a0) = some q25 ∧ (∃ c27 s28 : Nat, c27 ≤ (mc - (3 + c6 + c16)) ∧ s28 ≤ (ms - (22 + s7 + s17)) ∧ wp_X3_init n q21 q25 (nO (sR S_15 1101 a0 (some q11)) q21 3) c27 s28 (fun S_26 => 1 ≤ (mc - (3 + c6 + c16 + c27)) ∧ 7 ≤ (ms - (22 + s7 + s17 + s28)) ∧ ∀ q32 : Nat, q32 ∉ pL (sR S_26 1102 a0 (some q21)) → (∃ q36 : Nat, (pR (nO (sR S_26 1102 a0 (some q21)) q32 4) 1101 a0) = some q36 ∧ (∃ c38 s39 : Nat, c38 ≤ (mc - (4 + c6 + c16 + c27)) ∧ s39 ≤ (ms - (29 + s7 + s17 + s28)) ∧ wp_X4_init n q32 q36 (nO (sR S_26 1102 a0 (some q21)) q32 4) c38 s39 (fun S_37 => 1 ≤ (mc - (4 + c6 + c16 + c27 + c38)) ∧ 4 ≤ (ms - (29 + s7 + s17 + s28 + s39)) ∧ ∀ q43 : Nat, q43 ∉ pL (sR S_37 1103 a0 (some q32)) → (∃ c48 s49 : Nat, c48 ≤ (mc - (5 + c6 + c16 + c27 + c38)) ∧ s49 ≤ (ms - (33 + s7 + s17 + s28 + s39)) ∧ wp_X6_init n q43 (nO (sR S_37 1103 a0 (some q32)) q43 6) c48 s49 (fun S_47 => 1 ≤ (mc - (5 + c6 + c16 + c27 + c38 + c48)) ∧ 6 ≤ (ms - (33 + s7 + s17 + s28 + s39 + s49)) ∧ ∀ q53 : Nat, q53 ∉ pL (sR S_47 1104 a0 (some q43)) → (∃ c58 s59 : Nat, c58 ≤ (mc - (6 + c6 + c16 + c27 + c38 + c48)) ∧ s59 ≤ (ms - (39 + s7 + s17 + s28 + s39 + s49)) ∧ wp_X1_init n q53 (nO (sR S_47 1104 a0 (some q43)) q53 1) c58 s59 (fun S_57 => 1 ≤ (mc - (6 + c6 + c16 + c27 + c38 + c48 + c58)) ∧ 5 ≤ (ms - (39 + s7 + s17 + s28 + s39 + s49 + s59)) ∧ ∀ q63 : Nat, q63 ∉ pL (sR S_57 1105 a0 (some q53)) → (∃ c68 s69 : Nat, c68 ≤ (mc - (7 + c6 + c16 + c27 + c38 + c48 + c58)) ∧ s69 ≤ (ms - (44 + s7 + s17 + s28 + s39 + s49 + s59)) ∧ wp_X2_init n q63 (nO (sR S_57 1105 a0 (some q53)) q63 2) c68 s69 (fun S_67 => 1 ≤ (mc - (7 + c6 + c16 + c27 + c38 + c48 + c58 + c68)) ∧ 2 ≤ (ms - (44 + s7 + s17 + s28 + s39 + s49 + s59 + s69)) ∧ ∀ q73 : Nat, q73 ∉ pL (sR S_67 1106 a0 (some q63)) → (∃ c78 s79 : Nat, c78 ≤ (mc - (8 + c6 + c16 + c27 + c38 + c48 + c58 + c68)) ∧ s79 ≤ (ms - (46 + s7 + s17 + s28 + s39 + s49 + s59 + s69)) ∧ wp_X0_init n q73 (nO (sR S_67 1106 a0 (some q63)) q73 0) c78 s79 (fun S_77 => 1 ≤ (mc - (8 + c6 + c16 + c27 + c38 + c48 + c58 + c68 + c78)) ∧ 2 ≤ (ms - (46 + s7 + s17 + s28 + s39 + s49 + s59 + s69 + s79)) ∧ ∀ q83 : Nat, q83 ∉ pL (sR S_77 1107 a0 (some q73)) → (∃ c88 s89 : Nat, c88 ≤ (mc - (9 + c6 + c16 + c27 + c38 + c48 + c58 + c68 + c78)) ∧ s89 ≤ (ms - (48 + s7 + s17 + s28 + s39 + s49 + s59 + s69 + s79)) ∧ wp_X0_init n q83 (nO (sR S_77 1107 a0 (some q73)) q83 0) c88 s89 (fun S_87 => 1 ≤ (mc - (9 + c6 + c16 + c27 + c38 + c48 + c58 + c68 + c78 + c88)) ∧ 2 ≤ (ms - (48 + s7 + s17 + s28 + s39 + s49 + s59 + s69 + s79 + s89)) ∧ ∀ q93 : Nat, q93 ∉ pL (sR S_87 1108 a0 (some q83)) → (∃ c98 s99 : Nat, c98 ≤ (mc - (10 + c6 + c16 + c27 + c38 + c48 + c58 + c68 + c78 + c88)) ∧ s99 ≤ (ms - (50 + s7 + s17 + s28 + s39 + s49 + s59 + s69 + s79 + s89)) ∧ wp_X5_init n q93 (nO (sR S_87 1108 a0 (some q83)) q93 5) c98 s99 (fun S_97 => 1 ≤ (mc - (10 + c6 + c16 + c27 + c38 + c48 + c58 + c68 + c78 + c88 + c98)) ∧ 3 ≤ (ms - (50 + s7 + s17 + s28 + s39 + s49 + s59 + s69 + s79 + s89 + s99)) ∧ ∀ q103 : Nat, q103 ∉ pL (sR S_97 1109 a0 (some q93)) → (1 ≤ (mc - (11 + c6 + c16 + c27 + c38 + c48 + c58 + c68 + c78 + c88 + c98)) ∧ 41 ≤ (ms - (53 + s7 + s17 + s28 + s39 + s49 + s59 + s69 + s79 + s89 + s99)) ∧ ∀ q109 : Nat, q109 ∉ pL (sR (nA (sR S_97 1109 a0 (some q93)) q103 15 3) 1110 a0 (some q103)) → (lt_ (nA (sR (nA (sR S_97 1109 a0 (some q93)) q103 15 3) 1110 a0 (some q103)) q109 14 41) fun S_115 => Q (sI (sR S_115 1111 a0 (some q109)) 1113 a0 (-1))))))))))))))))))))))))))
theorem tc_X11_init : Cond.code yX11_init cX11_init 1 none ∈ pq_U := tw30
theorem cd_X11_init : yX11_init.cls = RX11 ∧ yX11_init.cls ≠ "java/lang/invoke/MethodHandle" ∧ yX11_init.cls ≠ "java/lang/invoke/VarHandle" ∧ (parseMethodDescriptor yX11_init.desc).map (fun d => d.parameters.length) = some 0 := by decide +kernel
set_option maxHeartbeats 4000000 in
set_option maxRecDepth 100000 in
theorem cw_X11_init (l : Launch) (C : pq_C) (X : va_W) (n : Nat) (S0 : pq_S) (hF : WF S0) (sz : Nat) (a0 : Nat) (Ta0 : TY S0 a0 11) (mc ms : Nat) (Q : (pq_S → Prop)) (hm : wp_X11_init n a0 S0 mc ms Q) : Met l yX11_init (.code yX11_init cX11_init 1 none :: pq_U) (rw_X11_init mc ms) (va_Pc [.ref a0] (CPre C X S0 sz)) (QwV C X S0 sz Q) mc ms (pq_F C X S0 sz) := by
  refine Met.ofW (cc := cX11_init) (maxL := 1) (ret := none) (by decide) rfl ?_
  intro p e s m args below meth c s₁ B hml hv
  obtain ⟨rfl, hv⟩ := hv
  have hsz := hv.1
  subst hsz
  have hw := pw_entry hF hv
  have hts := atoms_spec (ws := .code yX11_init cX11_init 1 none :: pq_U) B.pre
  have hU : ∀ w ∈ pq_U, w.before _ s = true := fun w h => hts w (List.mem_cons_of_mem _ h)
  have hx := B.exec
  have hb := B.bytes
  have hr := B.returns
  have hown : s.vm.findClass RX11 = some m.cls := findClass_of_methodNamed B.named
  have hlk := B.notSynchronized
  have hin : meth.name = "<init>" := (name_of_methodNamed B.named B.method).1
  have hl := lv_entry ([.ref a0]) (n := 1) (Nat.le_of_ble_eq_true rfl)
  rw [lg_entry_eq]
  generalize (lg_sl ([.ref a0]) ++ List.replicate (1 - (lg_sl ([.ref a0])).length) Slot.unset).toArray = ls at hl ⊢
  have hl : lv_has ls 1 [(0, .ref a0)] := hl
  have hE : Ext S0 S0 := Ext.rf _
  have cx : Cx p s m _ meth c cX11_init 1 RX11 none := ⟨hx, hb, hml, hown, hU, hr, hlk⟩
  have hcc : 0 + mc ≤ mc := by omega
  have hss : 0 + ms ≤ ms := by omega
  rw [wp_X11_init] at hm
  refine lv_aload_n hx hb dX11_init_0 rfl (lv_at hl 0 rfl) ?_
  refine pw_obj hx hb (by rw [hml]; exact hl.1.symm) hown (hU _ tw31) (hU _ tw_obji) (hU _ tw_objc) dX11_init_1 (Nat.le_of_ble_eq_true rfl) (Nat.le_of_ble_eq_true rfl) ?_
  refine lv_aload_n hx hb dX11_init_4 rfl (lv_at hl 0 rfl) ?_
  obtain ⟨hb3, hb4, hm⟩ := hm
  refine pn_new (k := 10) hx hb hown hU iu10 tyX10_ok (hU _ tw34) (hU _ tw35) (hU _ tw2) hw (by decide) rfl (by decide) (by show _ ≤ mc; omega) (by show _ ≤ ms; omega) dX11_init_5 (fun q1 H hf2 hw => ?_)
  replace hm := hm q1 hf2
  have Ta0 : TY (nO S0 q1 10) a0 11 := ty_ext (ext_nO hf2) Ta0
  have hE : Ext S0 (nO S0 q1 10) := Ext.tr hE (ext_nO hf2)
  have Tq1 : TY (nO S0 q1 10) q1 10 := ty_nO _ _ _
  refine W.widen (k := 1) (n := 7) (by omega) (by omega) ?_
  have hcc : 1 + (mc - (1)) ≤ mc := by omega
  have hss : 7 + (ms - (7)) ≤ ms := by omega
  refine lv_dup hx hb dX11_init_8 rfl ?_
  obtain ⟨c6, s7, hb8, hb9, hm⟩ := hm
  refine pw_wv (va_runIN (As := []) (rest := [.ref q1, .ref a0]) ⟨hx, hb, hml, hown, hU⟩ (cw_X10_init l C X n (nO S0 q1 10) hw.wf _ q1 (Tq1) c6 s7 _ hm) ⟨va_cnB (host := "WickNights") 0 hU (pq_g1 tc_X10_init) rfl rfl rfl (hw.nw 0 rfl) (hU _ tw2) cd_X10_init.2 ⟨Nat.le_of_ble_eq_true rfl, Nat.le_of_ble_eq_true rfl⟩, rfl, hU _ tw37⟩ (pw_preS hw) rfl rfl hl.1 rfl (lv_room (Nat.le_of_ble_eq_true rfl)) dX11_init_9 ⟨by show _ ≤ mc; omega, by show _ ≤ ms; omega⟩) hw (fun S_5 H locs hm hw hx10 => ?_)
  have Ta0 : TY S_5 a0 11 := ty_ext hx10 Ta0
  have Tq1 : TY S_5 q1 10 := ty_ext hx10 Tq1
  have hE : Ext S0 S_5 := Ext.tr hE hx10
  refine W.widen (k := 1 + c6) (n := 7 + s7) (by omega) (by omega) ?_
  have hcc : 1 + c6 + (mc - (1 + c6)) ≤ mc := by omega
  have hss : 7 + s7 + (ms - (7 + s7)) ≤ ms := by omega
  refine ppF_r (k := 11) (j := 0) (f := 1100) hx hb hown hU iu11 tyX11_ok nmX11 hw Ta0 Tq1 (by decide) rfl (hU _ tw363) rfl rfl hin rfl rfl rfl rfl dX11_init_12 (fun H locs hw => ?_)
  refine lv_aload_n hx hb dX11_init_15 rfl (lv_at hl 0 rfl) ?_
  obtain ⟨hb13, hb14, hm⟩ := hm
  refine pn_new (k := 7) hx hb hown hU iu7 tyX7_ok (hU _ tw72) (hU _ tw73) (hU _ tw3) hw (by decide) rfl (by decide) (by show _ ≤ mc; omega) (by show _ ≤ ms; omega) dX11_init_16 (fun q11 H hf12 hw => ?_)
  replace hm := hm q11 hf12
  have Ta0 : TY (nO (sR S_5 1100 a0 (some q1)) q11 7) a0 11 := ty_ext (ext_nO hf12) Ta0
  have hE : Ext S0 (nO (sR S_5 1100 a0 (some q1)) q11 7) := Ext.tr hE (ext_nO hf12)
  have Tq11 : TY (nO (sR S_5 1100 a0 (some q1)) q11 7) q11 7 := ty_nO _ _ _
  refine W.widen (k := 2 + c6) (n := 13 + s7) (by omega) (by omega) ?_
  have hcc : 2 + c6 + (mc - (2 + c6)) ≤ mc := by omega
  have hss : 13 + s7 + (ms - (13 + s7)) ≤ ms := by omega
  refine lv_dup hx hb dX11_init_19 rfl ?_
  obtain ⟨c16, s17, hb18, hb19, hm⟩ := hm
  refine pw_wv (va_runIN (As := []) (rest := [.ref q11, .ref a0]) ⟨hx, hb, hml, hown, hU⟩ (cw_X7_init l C X n (nO (sR S_5 1100 a0 (some q1)) q11 7) hw.wf _ q11 (Tq11) c16 s17 _ hm) ⟨va_cnB (host := "WickNights") 0 hU (pq_g1 tc_X7_init) rfl rfl rfl (hw.nw 10 rfl) (hU _ tw3) cd_X7_init.2 ⟨Nat.le_of_ble_eq_true rfl, Nat.le_of_ble_eq_true rfl⟩, rfl, hU _ tw75⟩ (pw_preS hw) rfl rfl hl.1 rfl (lv_room (Nat.le_of_ble_eq_true rfl)) dX11_init_20 ⟨by show _ ≤ mc; omega, by show _ ≤ ms; omega⟩) hw (fun S_15 H locs hm hw hx20 => ?_)
  have Ta0 : TY S_15 a0 11 := ty_ext hx20 Ta0
  have Tq11 : TY S_15 q11 7 := ty_ext hx20 Tq11
  have hE : Ext S0 S_15 := Ext.tr hE hx20
  refine W.widen (k := 2 + c6 + c16) (n := 13 + s7 + s17) (by omega) (by omega) ?_
  have hcc : 2 + c6 + c16 + (mc - (2 + c6 + c16)) ≤ mc := by omega
  have hss : 13 + s7 + s17 + (ms - (13 + s7 + s17)) ≤ ms := by omega
  refine ppF_r (k := 11) (j := 1) (f := 1101) hx hb hown hU iu11 tyX11_ok nmX11 hw Ta0 Tq11 (by decide) rfl (hU _ tw364) rfl rfl hin rfl rfl rfl rfl dX11_init_23 (fun H locs hw => ?_)
  refine lv_aload_n hx hb dX11_init_26 rfl (lv_at hl 0 rfl) ?_
  obtain ⟨hb23, hb24, hm⟩ := hm
  refine pn_new (k := 3) hx hb hown hU iu3 tyX3_ok (hU _ tw233) (hU _ tw234) (hU _ tw8) hw (by decide) rfl (by decide) (by show _ ≤ mc; omega) (by show _ ≤ ms; omega) dX11_init_27 (fun q21 H hf22 hw => ?_)
  replace hm := hm q21 hf22
  have Ta0 : TY (nO (sR S_15 1101 a0 (some q11)) q21 3) a0 11 := ty_ext (ext_nO hf22) Ta0
  have hE : Ext S0 (nO (sR S_15 1101 a0 (some q11)) q21 3) := Ext.tr hE (ext_nO hf22)
  have Tq21 : TY (nO (sR S_15 1101 a0 (some q11)) q21 3) q21 3 := ty_nO _ _ _
  refine W.widen (k := 3 + c6 + c16) (n := 22 + s7 + s17) (by omega) (by omega) ?_
  have hcc : 3 + c6 + c16 + (mc - (3 + c6 + c16)) ≤ mc := by omega
  have hss : 22 + s7 + s17 + (ms - (22 + s7 + s17)) ≤ ms := by omega
  refine lv_dup hx hb dX11_init_30 rfl ?_
  refine lv_aload_n hx hb dX11_init_31 rfl (lv_at hl 0 rfl) ?_
  obtain ⟨q25, hq25, hm⟩ := hm
  have Tq25 : TY (nO (sR S_15 1101 a0 (some q11)) q21 3) q25 7 := hw.wf.ref (k := 11) (j := 1) Ta0 (by decide) (by decide) hq25
  refine pg_rb (k := 11) (j := 1) (f := 1101) hx hb hown hU iu11 hw Ta0 (by decide) rfl (hU _ tw364) rfl hq25 dX11_init_32 ?_
  obtain ⟨c27, s28, hb29, hb30, hm⟩ := hm
  refine pw_wv (va_runIN (As := [.ref q25]) (rest := [.ref q21, .ref a0]) ⟨hx, hb, hml, hown, hU⟩ (cw_X3_init l C X n (nO (sR S_15 1101 a0 (some q11)) q21 3) hw.wf _ q21 q25 (Tq21) (Tq25) c27 s28 _ hm) ⟨va_cnB (host := "WickNights") 1 hU (pq_g1 tc_X3_init) rfl rfl rfl (hw.nw 64 rfl) (hU _ tw8) cd_X3_init.2 ⟨Nat.le_of_ble_eq_true rfl, Nat.le_of_ble_eq_true rfl⟩, rfl, hU _ tw236⟩ (pw_preS hw) rfl rfl hl.1 rfl (lv_room (Nat.le_of_ble_eq_true rfl)) dX11_init_35 ⟨by show _ ≤ mc; omega, by show _ ≤ ms; omega⟩) hw (fun S_26 H locs hm hw hx31 => ?_)
  have Ta0 : TY S_26 a0 11 := ty_ext hx31 Ta0
  have Tq21 : TY S_26 q21 3 := ty_ext hx31 Tq21
  have hE : Ext S0 S_26 := Ext.tr hE hx31
  refine W.widen (k := 3 + c6 + c16 + c27) (n := 22 + s7 + s17 + s28) (by omega) (by omega) ?_
  have hcc : 3 + c6 + c16 + c27 + (mc - (3 + c6 + c16 + c27)) ≤ mc := by omega
  have hss : 22 + s7 + s17 + s28 + (ms - (22 + s7 + s17 + s28)) ≤ ms := by omega
  refine ppF_r (k := 11) (j := 2) (f := 1102) hx hb hown hU iu11 tyX11_ok nmX11 hw Ta0 Tq21 (by decide) rfl (hU _ tw365) rfl rfl hin rfl rfl rfl rfl dX11_init_38 (fun H locs hw => ?_)
  refine lv_aload_n hx hb dX11_init_41 rfl (lv_at hl 0 rfl) ?_
  obtain ⟨hb34, hb35, hm⟩ := hm
  refine pn_new (k := 4) hx hb hown hU iu4 tyX4_ok (hU _ tw272) (hU _ tw273) (hU _ tw9) hw (by decide) rfl (by decide) (by show _ ≤ mc; omega) (by show _ ≤ ms; omega) dX11_init_42 (fun q32 H hf33 hw => ?_)
  replace hm := hm q32 hf33
  have Ta0 : TY (nO (sR S_26 1102 a0 (some q21)) q32 4) a0 11 := ty_ext (ext_nO hf33) Ta0
  have hE : Ext S0 (nO (sR S_26 1102 a0 (some q21)) q32 4) := Ext.tr hE (ext_nO hf33)
  have Tq32 : TY (nO (sR S_26 1102 a0 (some q21)) q32 4) q32 4 := ty_nO _ _ _
  refine W.widen (k := 4 + c6 + c16 + c27) (n := 29 + s7 + s17 + s28) (by omega) (by omega) ?_
  have hcc : 4 + c6 + c16 + c27 + (mc - (4 + c6 + c16 + c27)) ≤ mc := by omega
  have hss : 29 + s7 + s17 + s28 + (ms - (29 + s7 + s17 + s28)) ≤ ms := by omega
  refine lv_dup hx hb dX11_init_45 rfl ?_
  refine lv_aload_n hx hb dX11_init_46 rfl (lv_at hl 0 rfl) ?_
  obtain ⟨q36, hq36, hm⟩ := hm
  have Tq36 : TY (nO (sR S_26 1102 a0 (some q21)) q32 4) q36 7 := hw.wf.ref (k := 11) (j := 1) Ta0 (by decide) (by decide) hq36
  refine pg_rb (k := 11) (j := 1) (f := 1101) hx hb hown hU iu11 hw Ta0 (by decide) rfl (hU _ tw364) rfl hq36 dX11_init_47 ?_
  obtain ⟨c38, s39, hb40, hb41, hm⟩ := hm
  refine pw_wv (va_runIN (As := [.ref q36]) (rest := [.ref q32, .ref a0]) ⟨hx, hb, hml, hown, hU⟩ (cw_X4_init l C X n (nO (sR S_26 1102 a0 (some q21)) q32 4) hw.wf _ q32 q36 (Tq32) (Tq36) c38 s39 _ hm) ⟨va_cnB (host := "WickNights") 1 hU (pq_g1 tc_X4_init) rfl rfl rfl (hw.nw 70 rfl) (hU _ tw9) cd_X4_init.2 ⟨Nat.le_of_ble_eq_true rfl, Nat.le_of_ble_eq_true rfl⟩, rfl, hU _ tw275⟩ (pw_preS hw) rfl rfl hl.1 rfl (lv_room (Nat.le_of_ble_eq_true rfl)) dX11_init_50 ⟨by show _ ≤ mc; omega, by show _ ≤ ms; omega⟩) hw (fun S_37 H locs hm hw hx42 => ?_)
  have Ta0 : TY S_37 a0 11 := ty_ext hx42 Ta0
  have Tq32 : TY S_37 q32 4 := ty_ext hx42 Tq32
  have hE : Ext S0 S_37 := Ext.tr hE hx42
  refine W.widen (k := 4 + c6 + c16 + c27 + c38) (n := 29 + s7 + s17 + s28 + s39) (by omega) (by omega) ?_
  have hcc : 4 + c6 + c16 + c27 + c38 + (mc - (4 + c6 + c16 + c27 + c38)) ≤ mc := by omega
  have hss : 29 + s7 + s17 + s28 + s39 + (ms - (29 + s7 + s17 + s28 + s39)) ≤ ms := by omega
  refine ppF_r (k := 11) (j := 3) (f := 1103) hx hb hown hU iu11 tyX11_ok nmX11 hw Ta0 Tq32 (by decide) rfl (hU _ tw366) rfl rfl hin rfl rfl rfl rfl dX11_init_53 (fun H locs hw => ?_)
  refine lv_aload_n hx hb dX11_init_56 rfl (lv_at hl 0 rfl) ?_
  obtain ⟨hb45, hb46, hm⟩ := hm
  refine pn_new (k := 6) hx hb hown hU iu6 tyX6_ok (hU _ tw301) (hU _ tw302) (hU _ tw10) hw (by decide) rfl (by decide) (by show _ ≤ mc; omega) (by show _ ≤ ms; omega) dX11_init_57 (fun q43 H hf44 hw => ?_)
  replace hm := hm q43 hf44
  have Ta0 : TY (nO (sR S_37 1103 a0 (some q32)) q43 6) a0 11 := ty_ext (ext_nO hf44) Ta0
  have hE : Ext S0 (nO (sR S_37 1103 a0 (some q32)) q43 6) := Ext.tr hE (ext_nO hf44)
  have Tq43 : TY (nO (sR S_37 1103 a0 (some q32)) q43 6) q43 6 := ty_nO _ _ _
  refine W.widen (k := 5 + c6 + c16 + c27 + c38) (n := 33 + s7 + s17 + s28 + s39) (by omega) (by omega) ?_
  have hcc : 5 + c6 + c16 + c27 + c38 + (mc - (5 + c6 + c16 + c27 + c38)) ≤ mc := by omega
  have hss : 33 + s7 + s17 + s28 + s39 + (ms - (33 + s7 + s17 + s28 + s39)) ≤ ms := by omega
  refine lv_dup hx hb dX11_init_60 rfl ?_
  obtain ⟨c48, s49, hb50, hb51, hm⟩ := hm
  refine pw_wv (va_runIN (As := []) (rest := [.ref q43, .ref a0]) ⟨hx, hb, hml, hown, hU⟩ (cw_X6_init l C X n (nO (sR S_37 1103 a0 (some q32)) q43 6) hw.wf _ q43 (Tq43) c48 s49 _ hm) ⟨va_cnB (host := "WickNights") 0 hU (pq_g1 tc_X6_init) rfl rfl rfl (hw.nw 72 rfl) (hU _ tw10) cd_X6_init.2 ⟨Nat.le_of_ble_eq_true rfl, Nat.le_of_ble_eq_true rfl⟩, rfl, hU _ tw304⟩ (pw_preS hw) rfl rfl hl.1 rfl (lv_room (Nat.le_of_ble_eq_true rfl)) dX11_init_61 ⟨by show _ ≤ mc; omega, by show _ ≤ ms; omega⟩) hw (fun S_47 H locs hm hw hx52 => ?_)
  have Ta0 : TY S_47 a0 11 := ty_ext hx52 Ta0
  have Tq43 : TY S_47 q43 6 := ty_ext hx52 Tq43
  have hE : Ext S0 S_47 := Ext.tr hE hx52
  refine W.widen (k := 5 + c6 + c16 + c27 + c38 + c48) (n := 33 + s7 + s17 + s28 + s39 + s49) (by omega) (by omega) ?_
  have hcc : 5 + c6 + c16 + c27 + c38 + c48 + (mc - (5 + c6 + c16 + c27 + c38 + c48)) ≤ mc := by omega
  have hss : 33 + s7 + s17 + s28 + s39 + s49 + (ms - (33 + s7 + s17 + s28 + s39 + s49)) ≤ ms := by omega
  refine ppF_r (k := 11) (j := 4) (f := 1104) hx hb hown hU iu11 tyX11_ok nmX11 hw Ta0 Tq43 (by decide) rfl (hU _ tw367) rfl rfl hin rfl rfl rfl rfl dX11_init_64 (fun H locs hw => ?_)
  refine lv_aload_n hx hb dX11_init_67 rfl (lv_at hl 0 rfl) ?_
  obtain ⟨hb55, hb56, hm⟩ := hm
  refine pn_new (k := 1) hx hb hown hU iu1 tyX1_ok (hU _ tw325) (hU _ tw79) (hU _ tw4) hw (by decide) rfl (by decide) (by show _ ≤ mc; omega) (by show _ ≤ ms; omega) dX11_init_68 (fun q53 H hf54 hw => ?_)
  replace hm := hm q53 hf54
  have Ta0 : TY (nO (sR S_47 1104 a0 (some q43)) q53 1) a0 11 := ty_ext (ext_nO hf54) Ta0
  have hE : Ext S0 (nO (sR S_47 1104 a0 (some q43)) q53 1) := Ext.tr hE (ext_nO hf54)
  have Tq53 : TY (nO (sR S_47 1104 a0 (some q43)) q53 1) q53 1 := ty_nO _ _ _
  refine W.widen (k := 6 + c6 + c16 + c27 + c38 + c48) (n := 39 + s7 + s17 + s28 + s39 + s49) (by omega) (by omega) ?_
  have hcc : 6 + c6 + c16 + c27 + c38 + c48 + (mc - (6 + c6 + c16 + c27 + c38 + c48)) ≤ mc := by omega
  have hss : 39 + s7 + s17 + s28 + s39 + s49 + (ms - (39 + s7 + s17 + s28 + s39 + s49)) ≤ ms := by omega
  refine lv_dup hx hb dX11_init_71 rfl ?_
  obtain ⟨c58, s59, hb60, hb61, hm⟩ := hm
  refine pw_wv (va_runIN (As := []) (rest := [.ref q53, .ref a0]) ⟨hx, hb, hml, hown, hU⟩ (cw_X1_init l C X n (nO (sR S_47 1104 a0 (some q43)) q53 1) hw.wf _ q53 (Tq53) c58 s59 _ hm) ⟨va_cnB (host := "WickNights") 0 hU (pq_g1 tc_X1_init) rfl rfl rfl (hw.nw 77 rfl) (hU _ tw4) cd_X1_init.2 ⟨Nat.le_of_ble_eq_true rfl, Nat.le_of_ble_eq_true rfl⟩, rfl, hU _ tw81⟩ (pw_preS hw) rfl rfl hl.1 rfl (lv_room (Nat.le_of_ble_eq_true rfl)) dX11_init_72 ⟨by show _ ≤ mc; omega, by show _ ≤ ms; omega⟩) hw (fun S_57 H locs hm hw hx62 => ?_)
  have Ta0 : TY S_57 a0 11 := ty_ext hx62 Ta0
  have Tq53 : TY S_57 q53 1 := ty_ext hx62 Tq53
  have hE : Ext S0 S_57 := Ext.tr hE hx62
  refine W.widen (k := 6 + c6 + c16 + c27 + c38 + c48 + c58) (n := 39 + s7 + s17 + s28 + s39 + s49 + s59) (by omega) (by omega) ?_
  have hcc : 6 + c6 + c16 + c27 + c38 + c48 + c58 + (mc - (6 + c6 + c16 + c27 + c38 + c48 + c58)) ≤ mc := by omega
  have hss : 39 + s7 + s17 + s28 + s39 + s49 + s59 + (ms - (39 + s7 + s17 + s28 + s39 + s49 + s59)) ≤ ms := by omega
  refine ppF_r (k := 11) (j := 5) (f := 1105) hx hb hown hU iu11 tyX11_ok nmX11 hw Ta0 Tq53 (by decide) rfl (hU _ tw368) rfl rfl hin rfl rfl rfl rfl dX11_init_75 (fun H locs hw => ?_)
  refine lv_aload_n hx hb dX11_init_78 rfl (lv_at hl 0 rfl) ?_
  obtain ⟨hb65, hb66, hm⟩ := hm
  refine pn_new (k := 2) hx hb hown hU iu2 tyX2_ok (hU _ tw327) (hU _ tw183) (hU _ tw7) hw (by decide) rfl (by decide) (by show _ ≤ mc; omega) (by show _ ≤ ms; omega) dX11_init_79 (fun q63 H hf64 hw => ?_)
  replace hm := hm q63 hf64
  have Ta0 : TY (nO (sR S_57 1105 a0 (some q53)) q63 2) a0 11 := ty_ext (ext_nO hf64) Ta0
  have hE : Ext S0 (nO (sR S_57 1105 a0 (some q53)) q63 2) := Ext.tr hE (ext_nO hf64)
  have Tq63 : TY (nO (sR S_57 1105 a0 (some q53)) q63 2) q63 2 := ty_nO _ _ _
  refine W.widen (k := 7 + c6 + c16 + c27 + c38 + c48 + c58) (n := 44 + s7 + s17 + s28 + s39 + s49 + s59) (by omega) (by omega) ?_
  have hcc : 7 + c6 + c16 + c27 + c38 + c48 + c58 + (mc - (7 + c6 + c16 + c27 + c38 + c48 + c58)) ≤ mc := by omega
  have hss : 44 + s7 + s17 + s28 + s39 + s49 + s59 + (ms - (44 + s7 + s17 + s28 + s39 + s49 + s59)) ≤ ms := by omega
  refine lv_dup hx hb dX11_init_82 rfl ?_
  obtain ⟨c68, s69, hb70, hb71, hm⟩ := hm
  refine pw_wv (va_runIN (As := []) (rest := [.ref q63, .ref a0]) ⟨hx, hb, hml, hown, hU⟩ (cw_X2_init l C X n (nO (sR S_57 1105 a0 (some q53)) q63 2) hw.wf _ q63 (Tq63) c68 s69 _ hm) ⟨va_cnB (host := "WickNights") 0 hU (pq_g1 tc_X2_init) rfl rfl rfl (hw.nw 78 rfl) (hU _ tw7) cd_X2_init.2 ⟨Nat.le_of_ble_eq_true rfl, Nat.le_of_ble_eq_true rfl⟩, rfl, hU _ tw185⟩ (pw_preS hw) rfl rfl hl.1 rfl (lv_room (Nat.le_of_ble_eq_true rfl)) dX11_init_83 ⟨by show _ ≤ mc; omega, by show _ ≤ ms; omega⟩) hw (fun S_67 H locs hm hw hx72 => ?_)
  have Ta0 : TY S_67 a0 11 := ty_ext hx72 Ta0
  have Tq63 : TY S_67 q63 2 := ty_ext hx72 Tq63
  have hE : Ext S0 S_67 := Ext.tr hE hx72
  refine W.widen (k := 7 + c6 + c16 + c27 + c38 + c48 + c58 + c68) (n := 44 + s7 + s17 + s28 + s39 + s49 + s59 + s69) (by omega) (by omega) ?_
  have hcc : 7 + c6 + c16 + c27 + c38 + c48 + c58 + c68 + (mc - (7 + c6 + c16 + c27 + c38 + c48 + c58 + c68)) ≤ mc := by omega
  have hss : 44 + s7 + s17 + s28 + s39 + s49 + s59 + s69 + (ms - (44 + s7 + s17 + s28 + s39 + s49 + s59 + s69)) ≤ ms := by omega
  refine ppF_r (k := 11) (j := 6) (f := 1106) hx hb hown hU iu11 tyX11_ok nmX11 hw Ta0 Tq63 (by decide) rfl (hU _ tw369) rfl rfl hin rfl rfl rfl rfl dX11_init_86 (fun H locs hw => ?_)
  refine lv_aload_n hx hb dX11_init_89 rfl (lv_at hl 0 rfl) ?_
  obtain ⟨hb75, hb76, hm⟩ := hm
  refine pn_new (k := 0) hx hb hown hU iu0 tyX0_ok (hU _ tw329) (hU _ tw330) (hU _ tw11) hw (by decide) rfl (by decide) (by show _ ≤ mc; omega) (by show _ ≤ ms; omega) dX11_init_90 (fun q73 H hf74 hw => ?_)
  replace hm := hm q73 hf74
  have Ta0 : TY (nO (sR S_67 1106 a0 (some q63)) q73 0) a0 11 := ty_ext (ext_nO hf74) Ta0
  have hE : Ext S0 (nO (sR S_67 1106 a0 (some q63)) q73 0) := Ext.tr hE (ext_nO hf74)
  have Tq73 : TY (nO (sR S_67 1106 a0 (some q63)) q73 0) q73 0 := ty_nO _ _ _
  refine W.widen (k := 8 + c6 + c16 + c27 + c38 + c48 + c58 + c68) (n := 46 + s7 + s17 + s28 + s39 + s49 + s59 + s69) (by omega) (by omega) ?_
  have hcc : 8 + c6 + c16 + c27 + c38 + c48 + c58 + c68 + (mc - (8 + c6 + c16 + c27 + c38 + c48 + c58 + c68)) ≤ mc := by omega
  have hss : 46 + s7 + s17 + s28 + s39 + s49 + s59 + s69 + (ms - (46 + s7 + s17 + s28 + s39 + s49 + s59 + s69)) ≤ ms := by omega
  refine lv_dup hx hb dX11_init_93 rfl ?_
  obtain ⟨c78, s79, hb80, hb81, hm⟩ := hm
  refine pw_wv (va_runIN (As := []) (rest := [.ref q73, .ref a0]) ⟨hx, hb, hml, hown, hU⟩ (cw_X0_init l C X n (nO (sR S_67 1106 a0 (some q63)) q73 0) hw.wf _ q73 (Tq73) c78 s79 _ hm) ⟨va_cnB (host := "WickNights") 0 hU (pq_g1 tc_X0_init) rfl rfl rfl (hw.nw 79 rfl) (hU _ tw11) cd_X0_init.2 ⟨Nat.le_of_ble_eq_true rfl, Nat.le_of_ble_eq_true rfl⟩, rfl, hU _ tw332⟩ (pw_preS hw) rfl rfl hl.1 rfl (lv_room (Nat.le_of_ble_eq_true rfl)) dX11_init_94 ⟨by show _ ≤ mc; omega, by show _ ≤ ms; omega⟩) hw (fun S_77 H locs hm hw hx82 => ?_)
  have Ta0 : TY S_77 a0 11 := ty_ext hx82 Ta0
  have Tq73 : TY S_77 q73 0 := ty_ext hx82 Tq73
  have hE : Ext S0 S_77 := Ext.tr hE hx82
  refine W.widen (k := 8 + c6 + c16 + c27 + c38 + c48 + c58 + c68 + c78) (n := 46 + s7 + s17 + s28 + s39 + s49 + s59 + s69 + s79) (by omega) (by omega) ?_
  have hcc : 8 + c6 + c16 + c27 + c38 + c48 + c58 + c68 + c78 + (mc - (8 + c6 + c16 + c27 + c38 + c48 + c58 + c68 + c78)) ≤ mc := by omega
  have hss : 46 + s7 + s17 + s28 + s39 + s49 + s59 + s69 + s79 + (ms - (46 + s7 + s17 + s28 + s39 + s49 + s59 + s69 + s79)) ≤ ms := by omega
  refine ppF_r (k := 11) (j := 7) (f := 1107) hx hb hown hU iu11 tyX11_ok nmX11 hw Ta0 Tq73 (by decide) rfl (hU _ tw370) rfl rfl hin rfl rfl rfl rfl dX11_init_97 (fun H locs hw => ?_)
  refine lv_aload_n hx hb dX11_init_100 rfl (lv_at hl 0 rfl) ?_
  obtain ⟨hb85, hb86, hm⟩ := hm
  refine pn_new (k := 0) hx hb hown hU iu0 tyX0_ok (hU _ tw329) (hU _ tw330) (hU _ tw11) hw (by decide) rfl (by decide) (by show _ ≤ mc; omega) (by show _ ≤ ms; omega) dX11_init_101 (fun q83 H hf84 hw => ?_)
  replace hm := hm q83 hf84
  have Ta0 : TY (nO (sR S_77 1107 a0 (some q73)) q83 0) a0 11 := ty_ext (ext_nO hf84) Ta0
  have hE : Ext S0 (nO (sR S_77 1107 a0 (some q73)) q83 0) := Ext.tr hE (ext_nO hf84)
  have Tq83 : TY (nO (sR S_77 1107 a0 (some q73)) q83 0) q83 0 := ty_nO _ _ _
  refine W.widen (k := 9 + c6 + c16 + c27 + c38 + c48 + c58 + c68 + c78) (n := 48 + s7 + s17 + s28 + s39 + s49 + s59 + s69 + s79) (by omega) (by omega) ?_
  have hcc : 9 + c6 + c16 + c27 + c38 + c48 + c58 + c68 + c78 + (mc - (9 + c6 + c16 + c27 + c38 + c48 + c58 + c68 + c78)) ≤ mc := by omega
  have hss : 48 + s7 + s17 + s28 + s39 + s49 + s59 + s69 + s79 + (ms - (48 + s7 + s17 + s28 + s39 + s49 + s59 + s69 + s79)) ≤ ms := by omega
  refine lv_dup hx hb dX11_init_104 rfl ?_
  obtain ⟨c88, s89, hb90, hb91, hm⟩ := hm
  refine pw_wv (va_runIN (As := []) (rest := [.ref q83, .ref a0]) ⟨hx, hb, hml, hown, hU⟩ (cw_X0_init l C X n (nO (sR S_77 1107 a0 (some q73)) q83 0) hw.wf _ q83 (Tq83) c88 s89 _ hm) ⟨va_cnB (host := "WickNights") 0 hU (pq_g1 tc_X0_init) rfl rfl rfl (hw.nw 79 rfl) (hU _ tw11) cd_X0_init.2 ⟨Nat.le_of_ble_eq_true rfl, Nat.le_of_ble_eq_true rfl⟩, rfl, hU _ tw332⟩ (pw_preS hw) rfl rfl hl.1 rfl (lv_room (Nat.le_of_ble_eq_true rfl)) dX11_init_105 ⟨by show _ ≤ mc; omega, by show _ ≤ ms; omega⟩) hw (fun S_87 H locs hm hw hx92 => ?_)
  have Ta0 : TY S_87 a0 11 := ty_ext hx92 Ta0
  have Tq83 : TY S_87 q83 0 := ty_ext hx92 Tq83
  have hE : Ext S0 S_87 := Ext.tr hE hx92
  refine W.widen (k := 9 + c6 + c16 + c27 + c38 + c48 + c58 + c68 + c78 + c88) (n := 48 + s7 + s17 + s28 + s39 + s49 + s59 + s69 + s79 + s89) (by omega) (by omega) ?_
  have hcc : 9 + c6 + c16 + c27 + c38 + c48 + c58 + c68 + c78 + c88 + (mc - (9 + c6 + c16 + c27 + c38 + c48 + c58 + c68 + c78 + c88)) ≤ mc := by omega
  have hss : 48 + s7 + s17 + s28 + s39 + s49 + s59 + s69 + s79 + s89 + (ms - (48 + s7 + s17 + s28 + s39 + s49 + s59 + s69 + s79 + s89)) ≤ ms := by omega
  refine ppF_r (k := 11) (j := 8) (f := 1108) hx hb hown hU iu11 tyX11_ok nmX11 hw Ta0 Tq83 (by decide) rfl (hU _ tw371) rfl rfl hin rfl rfl rfl rfl dX11_init_108 (fun H locs hw => ?_)
  refine lv_aload_n hx hb dX11_init_111 rfl (lv_at hl 0 rfl) ?_
  obtain ⟨hb95, hb96, hm⟩ := hm
  refine pn_new (k := 5) hx hb hown hU iu5 tyX5_ok (hU _ tw346) (hU _ tw347) (hU _ tw13) hw (by decide) rfl (by decide) (by show _ ≤ mc; omega) (by show _ ≤ ms; omega) dX11_init_112 (fun q93 H hf94 hw => ?_)
  replace hm := hm q93 hf94
  have Ta0 : TY (nO (sR S_87 1108 a0 (some q83)) q93 5) a0 11 := ty_ext (ext_nO hf94) Ta0
  have hE : Ext S0 (nO (sR S_87 1108 a0 (some q83)) q93 5) := Ext.tr hE (ext_nO hf94)
  have Tq93 : TY (nO (sR S_87 1108 a0 (some q83)) q93 5) q93 5 := ty_nO _ _ _
  refine W.widen (k := 10 + c6 + c16 + c27 + c38 + c48 + c58 + c68 + c78 + c88) (n := 50 + s7 + s17 + s28 + s39 + s49 + s59 + s69 + s79 + s89) (by omega) (by omega) ?_
  have hcc : 10 + c6 + c16 + c27 + c38 + c48 + c58 + c68 + c78 + c88 + (mc - (10 + c6 + c16 + c27 + c38 + c48 + c58 + c68 + c78 + c88)) ≤ mc := by omega
  have hss : 50 + s7 + s17 + s28 + s39 + s49 + s59 + s69 + s79 + s89 + (ms - (50 + s7 + s17 + s28 + s39 + s49 + s59 + s69 + s79 + s89)) ≤ ms := by omega
  refine lv_dup hx hb dX11_init_115 rfl ?_
  obtain ⟨c98, s99, hb100, hb101, hm⟩ := hm
  refine pw_wv (va_runIN (As := []) (rest := [.ref q93, .ref a0]) ⟨hx, hb, hml, hown, hU⟩ (cw_X5_init l C X n (nO (sR S_87 1108 a0 (some q83)) q93 5) hw.wf _ q93 (Tq93) c98 s99 _ hm) ⟨va_cnB (host := "WickNights") 0 hU (pq_g1 tc_X5_init) rfl rfl rfl (hw.nw 81 rfl) (hU _ tw13) cd_X5_init.2 ⟨Nat.le_of_ble_eq_true rfl, Nat.le_of_ble_eq_true rfl⟩, rfl, hU _ tw349⟩ (pw_preS hw) rfl rfl hl.1 rfl (lv_room (Nat.le_of_ble_eq_true rfl)) dX11_init_116 ⟨by show _ ≤ mc; omega, by show _ ≤ ms; omega⟩) hw (fun S_97 H locs hm hw hx102 => ?_)
  have Ta0 : TY S_97 a0 11 := ty_ext hx102 Ta0
  have Tq93 : TY S_97 q93 5 := ty_ext hx102 Tq93
  have hE : Ext S0 S_97 := Ext.tr hE hx102
  refine W.widen (k := 10 + c6 + c16 + c27 + c38 + c48 + c58 + c68 + c78 + c88 + c98) (n := 50 + s7 + s17 + s28 + s39 + s49 + s59 + s69 + s79 + s89 + s99) (by omega) (by omega) ?_
  have hcc : 10 + c6 + c16 + c27 + c38 + c48 + c58 + c68 + c78 + c88 + c98 + (mc - (10 + c6 + c16 + c27 + c38 + c48 + c58 + c68 + c78 + c88 + c98)) ≤ mc := by omega
  have hss : 50 + s7 + s17 + s28 + s39 + s49 + s59 + s69 + s79 + s89 + s99 + (ms - (50 + s7 + s17 + s28 + s39 + s49 + s59 + s69 + s79 + s89 + s99)) ≤ ms := by omega
  refine ppF_r (k := 11) (j := 9) (f := 1109) hx hb hown hU iu11 tyX11_ok nmX11 hw Ta0 Tq93 (by decide) rfl (hU _ tw372) rfl rfl hin rfl rfl rfl rfl dX11_init_119 (fun H locs hw => ?_)
  refine lv_aload_n hx hb dX11_init_122 rfl (lv_at hl 0 rfl) ?_
  refine lv_iconst (v := 3) hx hb dX11_init_123 (by decide) ?_
  obtain ⟨hb105, hb106, hm⟩ := hm
  refine pn_newP (N := 3) hx hb hown (hU _ tw346) hw (by decide) (by decide) (by decide) (by show _ ≤ mc; omega) (by show _ ≤ ms; omega) dX11_init_124 (fun q103 H hf104 hw => ?_)
  replace hm := hm q103 hf104
  have Ta0 : TY (nA (sR S_97 1109 a0 (some q93)) q103 15 3) a0 11 := ty_ext (ext_nA (n := 3) hf104) Ta0
  have hE : Ext S0 (nA (sR S_97 1109 a0 (some q93)) q103 15 3) := Ext.tr hE (ext_nA (n := 3) hf104)
  have Tq103 : TY (nA (sR S_97 1109 a0 (some q93)) q103 15 3) q103 15 := ty_nA _ _ _ _
  refine W.widen (k := 11 + c6 + c16 + c27 + c38 + c48 + c58 + c68 + c78 + c88 + c98) (n := 53 + s7 + s17 + s28 + s39 + s49 + s59 + s69 + s79 + s89 + s99) (by omega) (by omega) ?_
  have hcc : 11 + c6 + c16 + c27 + c38 + c48 + c58 + c68 + c78 + c88 + c98 + (mc - (11 + c6 + c16 + c27 + c38 + c48 + c58 + c68 + c78 + c88 + c98)) ≤ mc := by omega
  have hss : 53 + s7 + s17 + s28 + s39 + s49 + s59 + s69 + s79 + s89 + s99 + (ms - (53 + s7 + s17 + s28 + s39 + s49 + s59 + s69 + s79 + s89 + s99)) ≤ ms := by omega
  refine ppF_r (k := 11) (j := 10) (f := 1110) hx hb hown hU iu11 tyX11_ok nmX11 hw Ta0 Tq103 (by decide) rfl (hU _ tw373) rfl rfl hin rfl rfl rfl rfl dX11_init_127 (fun H locs hw => ?_)
  refine lv_aload_n hx hb dX11_init_130 rfl (lv_at hl 0 rfl) ?_
  refine lv_bipush (v := 41) hx hb dX11_init_131 (by decide) ?_
  obtain ⟨hb111, hb112, hm⟩ := hm
  refine pn_newI (N := 41) hx hb (hU _ tw108) hw (by decide) (by decide) (by decide) (by show _ ≤ mc; omega) (by show _ ≤ ms; omega) dX11_init_133 (fun q109 H hf110 hw => ?_)
  replace hm := hm q109 hf110
  have Ta0 : TY (nA (sR (nA (sR S_97 1109 a0 (some q93)) q103 15 3) 1110 a0 (some q103)) q109 14 41) a0 11 := ty_ext (ext_nA (n := 41) hf110) Ta0
  have hE : Ext S0 (nA (sR (nA (sR S_97 1109 a0 (some q93)) q103 15 3) 1110 a0 (some q103)) q109 14 41) := Ext.tr hE (ext_nA (n := 41) hf110)
  have Tq109 : TY (nA (sR (nA (sR S_97 1109 a0 (some q93)) q103 15 3) 1110 a0 (some q103)) q109 14 41) q109 14 := ty_nA _ _ _ _
  refine W.widen (k := 12 + c6 + c16 + c27 + c38 + c48 + c58 + c68 + c78 + c88 + c98) (n := 94 + s7 + s17 + s28 + s39 + s49 + s59 + s69 + s79 + s89 + s99) (by omega) (by omega) ?_
  have hcc : 12 + c6 + c16 + c27 + c38 + c48 + c58 + c68 + c78 + c88 + c98 + (mc - (12 + c6 + c16 + c27 + c38 + c48 + c58 + c68 + c78 + c88 + c98)) ≤ mc := by omega
  have hss : 94 + s7 + s17 + s28 + s39 + s49 + s59 + s69 + s79 + s89 + s99 + (ms - (94 + s7 + s17 + s28 + s39 + s49 + s59 + s69 + s79 + s89 + s99)) ≤ ms := by omega
  obtain ⟨S_115, eS_115, hm⟩ := lt_prop hm
  rw [← eS_115] at hw
  have Ta0 : TY S_115 a0 11 := by rw [eS_115]; exact Ta0
  have Tq109 : TY S_115 q109 14 := by rw [eS_115]; exact Tq109
  have hE : Ext S0 S_115 := by rw [eS_115]; exact hE
  refine ppF_r (k := 11) (j := 11) (f := 1111) hx hb hown hU iu11 tyX11_ok nmX11 hw Ta0 Tq109 (by decide) rfl (hU _ tw374) rfl rfl hin rfl rfl rfl rfl dX11_init_135 (fun H locs hw => ?_)
  refine lv_aload_n hx hb dX11_init_138 rfl (lv_at hl 0 rfl) ?_
  refine lv_iconst (v := (-1)) hx hb dX11_init_139 (by decide) ?_
  refine pp_i (k := 11) (j := 13) (f := 1113) hx hb hown hU iu11 tyX11_ok nmX11 hw Ta0 (by decide) rfl (hU _ tw376) rfl rfl rfl dX11_init_140 (fun H locs hw => ?_)
  exact pw_wvret hx hb hr hlk hw hE hm (by omega) (by omega) dX11_init_143
abbrev rw_X11_work (mc ms : Nat) : Room := { frames := 71, cells := mc, slots := ms, locals := 1920 }
def wp_X11_work (n : Nat) (a0 : Nat) (x1 : Int32) (S0 : pq_S) (mc ms : Nat) (E : (Nat → pq_S → Prop)) (Q : (Int32 → pq_S → Prop)) : Prop := ∃ r3 S_1, m_X11_isText n a0 x1 150 S0 = some (r3, S_1) ∧ (∃ c7 s8 : Nat, c7 ≤ mc ∧ s8 ≤ ms ∧ wp_X11_need n a0 r3 S_1 c7 s8 E (fun S_6 => ∃ q12 : Nat, (pR S_6 1100 a0) = some q12 ∧ (∃ S_13 : pq_S, m_X10_begin n q12 x1 S_6 = some S_13 ∧ (∃ q16 : Nat, (pR S_13 1109 a0) = some q16 ∧ (if (pI S_13 501 q16) < 16 then ∃ q18 : Nat, (pR S_13 1104 a0) = some q18 ∧ (∃ q19 : Nat, (pR S_13 1100 a0) = some q19 ∧ (∃ q20 : Nat, (pR S_13 1101 a0) = some q20 ∧ (∃ q21 : Nat, (pR S_13 700 q20) = some q21 ∧ (∃ S_22 : pq_S, m_X6_read n q18 q19 q21 S_13 = some S_22 ∧ (∃ r27 S_25, m_X11_endText n a0 S_22 = some (r27, S_25) ∧ (if r27 = 0 then ∃ q30 : Nat, (pR S_25 1109 a0) = some q30 ∧ (∃ q31 : Nat, (pR S_25 1101 a0) = some q31 ∧ (∃ q32 : Nat, (pR S_25 701 q31) = some q32 ∧ (∃ c34 s35 : Nat, c34 ≤ (mc - (c7)) ∧ s35 ≤ (ms - (s8)) ∧ wp_X5_push n q30 q32 S_25 c34 s35 (fun S_33 => ∃ q39 : Nat, (pR S_33 1104 a0) = some q39 ∧ (∃ q40 : Nat, (pR S_33 1101 a0) = some q40 ∧ (∃ q41 : Nat, (pR S_33 1104 a0) = some q41 ∧ (∃ q42 : Nat, (pR S_33 600 q41) = some q42 ∧ (∃ S_43 : pq_S, m_X6_runSteps n q39 q40 0 (pI S_33 902 q42) 0 S_33 = some S_43 ∧ (∃ q46 : Nat, (pR S_43 1104 a0) = some q46 ∧ (∃ q47 : Nat, (pR (sI S_43 1114 a0 (pI S_43 603 q46)) 1104 a0) = some q47 ∧ (Q (pI (sI S_43 1114 a0 (pI S_43 603 q46)) 602 q47) (sI S_43 1114 a0 (pI S_43 603 q46))))))))))))) else Q r27 S_25)))))) else ∃ r50 S_48, m_X11_endText n a0 S_13 = some (r50, S_48) ∧ (Q (-20) S_48))))))
theorem tc_X11_work : Cond.code yX11_work cX11_work 3 (some .int) ∈ pq_U := tw800
theorem cd_X11_work : yX11_work.cls = RX11 ∧ yX11_work.cls ≠ "java/lang/invoke/MethodHandle" ∧ yX11_work.cls ≠ "java/lang/invoke/VarHandle" ∧ (parseMethodDescriptor yX11_work.desc).map (fun d => d.parameters.length) = some 1 := by decide +kernel
set_option maxHeartbeats 4000000 in
set_option maxRecDepth 100000 in
theorem cw_X11_work (l : Launch) (C : pq_C) (X : va_W) (n : Nat) (S0 : pq_S) (hF : WF S0) (sz : Nat) (a0 : Nat) (x1 : Int32) (Ta0 : TY S0 a0 11) (mc ms : Nat) (hst : l.stackTraces = false) (E : (Nat → pq_S → Prop)) (Q : (Int32 → pq_S → Prop)) (hm : wp_X11_work n a0 x1 S0 mc ms E Q) : vx_Met l yX11_work (.code yX11_work cX11_work 3 (some .int) :: pq_U) (rw_X11_work mc ms) (va_Pc [.ref a0, .int x1] (CPre C X S0 sz)) (QwI C X S0 sz Q) (XcP C X S0 sz E) mc ms (pq_F C X S0 sz) := by
  refine vx_ofW (cc := cX11_work) (maxL := 3) (ret := (some .int)) (by decide) rfl ?_
  intro p e s m args below meth c s₁ B hml hno hv
  obtain ⟨rfl, hv⟩ := hv
  have hsz := hv.1
  subst hsz
  have hw := pw_entry hF hv
  have hts := atoms_spec (ws := .code yX11_work cX11_work 3 (some .int) :: pq_U) B.pre
  have hU : ∀ w ∈ pq_U, w.before _ s = true := fun w h => hts w (List.mem_cons_of_mem _ h)
  have hx := B.exec
  have hb := B.bytes
  have hr := B.returns
  have hown : s.vm.findClass RX11 = some m.cls := findClass_of_methodNamed B.named
  have hlk := B.notSynchronized
  have hl := lv_entry ([.ref a0, .int x1]) (n := 3) (Nat.le_of_ble_eq_true rfl)
  rw [lg_entry_eq]
  generalize (lg_sl ([.ref a0, .int x1]) ++ List.replicate (3 - (lg_sl ([.ref a0, .int x1])).length) Slot.unset).toArray = ls at hl ⊢
  have hl : lv_has ls 3 [(0, .ref a0), (1, .int x1)] := hl
  have hE : Ext S0 S0 := Ext.rf _
  have cx : Cx p s m _ meth c cX11_work 3 RX11 (some .int) := ⟨hx, hb, hml, hown, hU, hr, hlk⟩
  have hcc : 0 + mc ≤ mc := by omega
  have hss : 0 + ms ≤ ms := by omega
  rw [wp_X11_work] at hm
  refine lv_aload_n hx hb dX11_work_0 rfl (lv_at hl 0 rfl) ?_
  refine lv_aload_n hx hb dX11_work_1 rfl (lv_at hl 0 rfl) ?_
  refine lv_iload_n hx hb dX11_work_2 rfl (lv_at hl 1 rfl) ?_
  refine lv_sipush (v := 150) hx hb dX11_work_3 (by decide) ?_
  obtain ⟨r3, S_1, hq2, hm⟩ := hm
  refine pw_cz (va_runV (As := [.int x1, .int 150]) (rest := [.ref a0]) ⟨hx, hb, hml, hown, hU⟩ (c_X11_isText l C X n S0 hw.wf _ a0 x1 150 (Ta0) r3 S_1 hq2) (cwV 2 hU (pq_gV tw486 tw488 ts6 tw1 tc_X11_isText) rfl rfl rfl cd_X11_isText ⟨Nat.le_of_ble_eq_true rfl, Nat.le_of_ble_eq_true rfl⟩) (pw_preV hw Ta0 (by decide) rfl) rfl rfl hl.1 rfl (lv_room (Nat.le_of_ble_eq_true rfl)) dX11_work_6 ⟨by show _ ≤ mc; omega, by show _ ≤ ms; omega⟩) hw (fun H locs hw hx4 hz5 => ?_)
  have Ta0 : TY S_1 a0 11 := ty_ext hx4 Ta0
  have hE : Ext S0 S_1 := Ext.tr hE hx4
  obtain ⟨c7, s8, hb9, hb10, hm⟩ := hm
  refine px_v (vx_runV (As := [.int r3]) (rest := []) ⟨hx, hb, hml, hown, hU⟩ (cw_X11_need l C X n S_1 hw.wf _ a0 r3 (Ta0) c7 s8 hst E _ hm) (cwV 1 hU (pq_gV tw490 tw492 ts7 tw1 tc_X11_need) rfl rfl rfl cd_X11_need ⟨Nat.le_of_ble_eq_true rfl, Nat.le_of_ble_eq_true rfl⟩) (pw_preV hw Ta0 (by decide) rfl) rfl rfl hl.1 rfl (lv_room (Nat.le_of_ble_eq_true rfl)) dX11_work_9 ⟨by show _ ≤ mc; omega, by show _ ≤ ms; omega⟩) hw hE hno hlk (by omega) (by omega) (fun S_6 H locs hm hw hx11 => ?_)
  have Ta0 : TY S_6 a0 11 := ty_ext hx11 Ta0
  have hE : Ext S0 S_6 := Ext.tr hE hx11
  refine W.widen (k := c7) (n := s8) (by omega) (by omega) ?_
  have hcc : c7 + (mc - (c7)) ≤ mc := by omega
  have hss : s8 + (ms - (s8)) ≤ ms := by omega
  refine lv_aload_n hx hb dX11_work_12 rfl (lv_at hl 0 rfl) ?_
  obtain ⟨q12, hq12, hm⟩ := hm
  have Tq12 : TY S_6 q12 10 := hw.wf.ref (k := 11) (j := 0) Ta0 (by decide) (by decide) hq12
  refine pg_rb (k := 11) (j := 0) (f := 1100) hx hb hown hU iu11 hw Ta0 (by decide) rfl (hU _ tw363) rfl hq12 dX11_work_13 ?_
  refine lv_iload_n hx hb dX11_work_16 rfl (lv_at hl 1 rfl) ?_
  obtain ⟨S_13, hq14, hm⟩ := hm
  refine pw_cv (va_runVN (As := [.int x1]) (rest := []) ⟨hx, hb, hml, hown, hU⟩ (c_X10_begin l C X n S_6 hw.wf _ q12 x1 (Tq12) S_13 hq14) ⟨va_cnB (host := "WickNights") 1 hU (pq_g1 tc_X10_begin) rfl rfl rfl (hw.nw 90 rfl) (hU _ tw2) cd_X10_begin.2 ⟨Nat.le_of_ble_eq_true rfl, Nat.le_of_ble_eq_true rfl⟩, hU _ tw558, hU _ ts9⟩ (pw_preV hw Tq12 (by decide) rfl) rfl rfl hl.1 rfl (lv_room (Nat.le_of_ble_eq_true rfl)) dX11_work_17 ⟨by show _ ≤ mc; omega, by show _ ≤ ms; omega⟩) hw (fun H locs hw hx15 => ?_)
  have Ta0 : TY S_13 a0 11 := ty_ext hx15 Ta0
  have hE : Ext S0 S_13 := Ext.tr hE hx15
  refine lv_aload_n hx hb dX11_work_20 rfl (lv_at hl 0 rfl) ?_
  obtain ⟨q16, hq16, hm⟩ := hm
  have Tq16 : TY S_13 q16 5 := hw.wf.ref (k := 11) (j := 9) Ta0 (by decide) (by decide) hq16
  refine pg_rb (k := 11) (j := 9) (f := 1109) hx hb hown hU iu11 hw Ta0 (by decide) rfl (hU _ tw372) rfl hq16 dX11_work_21 ?_
  refine pgN_i (k := 5) (j := 1) (f := 501) hx hb hown hU iu5 hw Tq16 (by decide) rfl 82 rfl rfl dX11_work_24 ?_
  refine lv_bipush (v := 16) hx hb dX11_work_27 (by decide) ?_
  refine lv_icmp_lt (tgt := 40) hx hb dX11_work_29 (by decide) (fun h17 => ?_) (fun h17 => ?_)
  · rw [if_pos h17] at hm
    refine lv_aload_n hx hb dX11_work_40 rfl (lv_at hl 0 rfl) ?_
    obtain ⟨q18, hq18, hm⟩ := hm
    have Tq18 : TY S_13 q18 6 := hw.wf.ref (k := 11) (j := 4) Ta0 (by decide) (by decide) hq18
    refine pg_rb (k := 11) (j := 4) (f := 1104) hx hb hown hU iu11 hw Ta0 (by decide) rfl (hU _ tw367) rfl hq18 dX11_work_41 ?_
    refine lv_aload_n hx hb dX11_work_44 rfl (lv_at hl 0 rfl) ?_
    obtain ⟨q19, hq19, hm⟩ := hm
    have Tq19 : TY S_13 q19 10 := hw.wf.ref (k := 11) (j := 0) Ta0 (by decide) (by decide) hq19
    refine pg_rb (k := 11) (j := 0) (f := 1100) hx hb hown hU iu11 hw Ta0 (by decide) rfl (hU _ tw363) rfl hq19 dX11_work_45 ?_
    refine lv_aload_n hx hb dX11_work_48 rfl (lv_at hl 0 rfl) ?_
    obtain ⟨q20, hq20, hm⟩ := hm
    have Tq20 : TY S_13 q20 7 := hw.wf.ref (k := 11) (j := 1) Ta0 (by decide) (by decide) hq20
    refine pg_rb (k := 11) (j := 1) (f := 1101) hx hb hown hU iu11 hw Ta0 (by decide) rfl (hU _ tw364) rfl hq20 dX11_work_49 ?_
    obtain ⟨q21, hq21, hm⟩ := hm
    have Tq21 : TY S_13 q21 1 := hw.wf.ref (k := 7) (j := 0) Tq20 (by decide) (by decide) hq21
    refine pgN_rb (k := 7) (j := 0) (f := 700) hx hb hown hU iu7 hw Tq20 (by decide) rfl 55 rfl rfl hq21 dX11_work_52 ?_
    obtain ⟨S_22, hq23, hm⟩ := hm
    refine pw_cv (va_runVN (As := [.ref q19, .ref q21]) (rest := []) ⟨hx, hb, hml, hown, hU⟩ (c_X6_read l C X n S_13 hw.wf _ q18 q19 q21 (Tq18) (Tq19) (Tq21) S_22 hq23) ⟨va_cnB (host := "WickNights") 2 hU (pq_g1 tc_X6_read) rfl rfl rfl (hw.nw 121 rfl) (hU _ tw10) cd_X6_read.2 ⟨Nat.le_of_ble_eq_true rfl, Nat.le_of_ble_eq_true rfl⟩, hU _ tw803, hU _ ts44⟩ (pw_preV hw Tq18 (by decide) rfl) rfl rfl hl.1 rfl (lv_room (Nat.le_of_ble_eq_true rfl)) dX11_work_55 ⟨by show _ ≤ mc; omega, by show _ ≤ ms; omega⟩) hw (fun H locs hw hx24 => ?_)
    have Ta0 : TY S_22 a0 11 := ty_ext hx24 Ta0
    have hE : Ext S0 S_22 := Ext.tr hE hx24
    refine lv_aload_n hx hb dX11_work_58 rfl (lv_at hl 0 rfl) ?_
    obtain ⟨r27, S_25, hq26, hm⟩ := hm
    refine pw_ci (va_runV (As := []) (rest := []) ⟨hx, hb, hml, hown, hU⟩ (c_X11_endText l C X n S_22 hw.wf _ a0 (Ta0) r27 S_25 hq26) (cwV 0 hU (pq_gV tw699 tw701 ts28 tw1 tc_X11_endText) rfl rfl rfl cd_X11_endText ⟨Nat.le_of_ble_eq_true rfl, Nat.le_of_ble_eq_true rfl⟩) (pw_preV hw Ta0 (by decide) rfl) rfl rfl hl.1 rfl (lv_room (Nat.le_of_ble_eq_true rfl)) dX11_work_59 ⟨by show _ ≤ mc; omega, by show _ ≤ ms; omega⟩) hw (fun H locs hw hx28 => ?_)
    have Ta0 : TY S_25 a0 11 := ty_ext hx28 Ta0
    have hE : Ext S0 S_25 := Ext.tr hE hx28
    refine lv_istore_n (lv' := [(2, .int r27), (0, .ref a0), (1, .int x1)]) hx hb dX11_work_62 rfl hl (by decide) rfl (fun ls hl => ?_)
    refine lv_iload_n hx hb dX11_work_63 rfl (lv_at hl 0 rfl) ?_
    refine lv_if_eq (tgt := 69) hx hb dX11_work_64 (by decide) (fun h29 => ?_) (fun h29 => ?_)
    · rw [if_pos h29] at hm
      refine lv_aload_n hx hb dX11_work_69 rfl (lv_at hl 1 rfl) ?_
      obtain ⟨q30, hq30, hm⟩ := hm
      have Tq30 : TY S_25 q30 5 := hw.wf.ref (k := 11) (j := 9) Ta0 (by decide) (by decide) hq30
      refine pg_rb (k := 11) (j := 9) (f := 1109) hx hb hown hU iu11 hw Ta0 (by decide) rfl (hU _ tw372) rfl hq30 dX11_work_70 ?_
      refine lv_aload_n hx hb dX11_work_73 rfl (lv_at hl 1 rfl) ?_
      obtain ⟨q31, hq31, hm⟩ := hm
      have Tq31 : TY S_25 q31 7 := hw.wf.ref (k := 11) (j := 1) Ta0 (by decide) (by decide) hq31
      refine pg_rb (k := 11) (j := 1) (f := 1101) hx hb hown hU iu11 hw Ta0 (by decide) rfl (hU _ tw364) rfl hq31 dX11_work_74 ?_
      obtain ⟨q32, hq32, hm⟩ := hm
      have Tq32 : TY S_25 q32 8 := hw.wf.ref (k := 7) (j := 1) Tq31 (by decide) (by decide) hq32
      refine pgN_rb (k := 7) (j := 1) (f := 701) hx hb hown hU iu7 hw Tq31 (by decide) rfl 59 rfl rfl hq32 dX11_work_77 ?_
      obtain ⟨c34, s35, hb36, hb37, hm⟩ := hm
      refine pw_wv (va_runVN (As := [.ref q32]) (rest := []) ⟨hx, hb, hml, hown, hU⟩ (cw_X5_push l C X n S_25 hw.wf _ q30 q32 (Tq30) (Tq32) c34 s35 _ hm) ⟨va_cnB (host := "WickNights") 1 hU (pq_g1 tc_X5_push) rfl rfl rfl (hw.nw 89 rfl) (hU _ tw13) cd_X5_push.2 ⟨Nat.le_of_ble_eq_true rfl, Nat.le_of_ble_eq_true rfl⟩, hU _ tw462, hU _ ts5⟩ (pw_preV hw Tq30 (by decide) rfl) rfl rfl hl.1 rfl (lv_room (Nat.le_of_ble_eq_true rfl)) dX11_work_80 ⟨by show _ ≤ mc; omega, by show _ ≤ ms; omega⟩) hw (fun S_33 H locs hm hw hx38 => ?_)
      have Ta0 : TY S_33 a0 11 := ty_ext hx38 Ta0
      have hE : Ext S0 S_33 := Ext.tr hE hx38
      refine W.widen (k := c7 + c34) (n := s8 + s35) (by omega) (by omega) ?_
      have hcc : c7 + c34 + (mc - (c7 + c34)) ≤ mc := by omega
      have hss : s8 + s35 + (ms - (s8 + s35)) ≤ ms := by omega
      refine lv_aload_n hx hb dX11_work_83 rfl (lv_at hl 1 rfl) ?_
      obtain ⟨q39, hq39, hm⟩ := hm
      have Tq39 : TY S_33 q39 6 := hw.wf.ref (k := 11) (j := 4) Ta0 (by decide) (by decide) hq39
      refine pg_rb (k := 11) (j := 4) (f := 1104) hx hb hown hU iu11 hw Ta0 (by decide) rfl (hU _ tw367) rfl hq39 dX11_work_84 ?_
      refine lv_aload_n hx hb dX11_work_87 rfl (lv_at hl 1 rfl) ?_
      obtain ⟨q40, hq40, hm⟩ := hm
      have Tq40 : TY S_33 q40 7 := hw.wf.ref (k := 11) (j := 1) Ta0 (by decide) (by decide) hq40
      refine pg_rb (k := 11) (j := 1) (f := 1101) hx hb hown hU iu11 hw Ta0 (by decide) rfl (hU _ tw364) rfl hq40 dX11_work_88 ?_
      refine lv_iconst (v := 0) hx hb dX11_work_91 (by decide) ?_
      refine lv_aload_n hx hb dX11_work_92 rfl (lv_at hl 1 rfl) ?_
      obtain ⟨q41, hq41, hm⟩ := hm
      have Tq41 : TY S_33 q41 6 := hw.wf.ref (k := 11) (j := 4) Ta0 (by decide) (by decide) hq41
      refine pg_rb (k := 11) (j := 4) (f := 1104) hx hb hown hU iu11 hw Ta0 (by decide) rfl (hU _ tw367) rfl hq41 dX11_work_93 ?_
      obtain ⟨q42, hq42, hm⟩ := hm
      have Tq42 : TY S_33 q42 9 := hw.wf.ref (k := 6) (j := 0) Tq41 (by decide) (by decide) hq42
      refine pgN_rb (k := 6) (j := 0) (f := 600) hx hb hown hU iu6 hw Tq41 (by decide) rfl 74 rfl rfl hq42 dX11_work_96 ?_
      refine pgN_i (k := 9) (j := 2) (f := 902) hx hb hown hU iu9 hw Tq42 (by decide) rfl 14 rfl rfl dX11_work_99 ?_
      refine lv_iconst (v := 0) hx hb dX11_work_102 (by decide) ?_
      obtain ⟨S_43, hq44, hm⟩ := hm
      refine pw_cv (va_runVN (As := [.ref q40, .int 0, .int (pI S_33 902 q42), .int 0]) (rest := []) ⟨hx, hb, hml, hown, hU⟩ (c_X6_runSteps l C X n S_33 hw.wf _ q39 q40 0 (pI S_33 902 q42) 0 (Tq39) (Tq40) S_43 hq44) ⟨va_cnB (host := "WickNights") 4 hU (pq_g1 tc_X6_runSteps) rfl rfl rfl (hw.nw 132 rfl) (hU _ tw10) cd_X6_runSteps.2 ⟨Nat.le_of_ble_eq_true rfl, Nat.le_of_ble_eq_true rfl⟩, hU _ tw839, hU _ ts49⟩ (pw_preV hw Tq39 (by decide) rfl) rfl rfl hl.1 rfl (lv_room (Nat.le_of_ble_eq_true rfl)) dX11_work_103 ⟨by show _ ≤ mc; omega, by show _ ≤ ms; omega⟩) hw (fun H locs hw hx45 => ?_)
      have Ta0 : TY S_43 a0 11 := ty_ext hx45 Ta0
      have hE : Ext S0 S_43 := Ext.tr hE hx45
      refine lv_aload_n hx hb dX11_work_106 rfl (lv_at hl 1 rfl) ?_
      refine lv_aload_n hx hb dX11_work_107 rfl (lv_at hl 1 rfl) ?_
      obtain ⟨q46, hq46, hm⟩ := hm
      have Tq46 : TY S_43 q46 6 := hw.wf.ref (k := 11) (j := 4) Ta0 (by decide) (by decide) hq46
      refine pg_rb (k := 11) (j := 4) (f := 1104) hx hb hown hU iu11 hw Ta0 (by decide) rfl (hU _ tw367) rfl hq46 dX11_work_108 ?_
      refine pgN_i (k := 6) (j := 3) (f := 603) hx hb hown hU iu6 hw Tq46 (by decide) rfl 76 rfl rfl dX11_work_111 ?_
      refine pp_i (k := 11) (j := 14) (f := 1114) hx hb hown hU iu11 tyX11_ok nmX11 hw Ta0 (by decide) rfl (hU _ tw377) rfl rfl rfl dX11_work_114 (fun H locs hw => ?_)
      refine lv_aload_n hx hb dX11_work_117 rfl (lv_at hl 1 rfl) ?_
      obtain ⟨q47, hq47, hm⟩ := hm
      have Tq47 : TY (sI S_43 1114 a0 (pI S_43 603 q46)) q47 6 := hw.wf.ref (k := 11) (j := 4) Ta0 (by decide) (by decide) hq47
      refine pg_rb (k := 11) (j := 4) (f := 1104) hx hb hown hU iu11 hw Ta0 (by decide) rfl (hU _ tw367) rfl hq47 dX11_work_118 ?_
      refine pgN_i (k := 6) (j := 2) (f := 602) hx hb hown hU iu6 hw Tq47 (by decide) rfl 75 rfl rfl dX11_work_121 ?_
      refine vx_ret ?_
      exact pw_wiret hx hb hr rfl hlk hw hE hm (by omega) (by omega) dX11_work_124
    · rw [if_neg h29] at hm
      refine lv_iload_n hx hb dX11_work_67 rfl (lv_at hl 0 rfl) ?_
      refine vx_ret ?_
      exact pw_wiret hx hb hr rfl hlk hw hE hm (by omega) (by omega) dX11_work_68
  · rw [if_neg h17] at hm
    refine lv_aload_n hx hb dX11_work_32 rfl (lv_at hl 0 rfl) ?_
    obtain ⟨r50, S_48, hq49, hm⟩ := hm
    refine pw_ci (va_runV (As := []) (rest := []) ⟨hx, hb, hml, hown, hU⟩ (c_X11_endText l C X n S_13 hw.wf _ a0 (Ta0) r50 S_48 hq49) (cwV 0 hU (pq_gV tw699 tw701 ts28 tw1 tc_X11_endText) rfl rfl rfl cd_X11_endText ⟨Nat.le_of_ble_eq_true rfl, Nat.le_of_ble_eq_true rfl⟩) (pw_preV hw Ta0 (by decide) rfl) rfl rfl hl.1 rfl (lv_room (Nat.le_of_ble_eq_true rfl)) dX11_work_33 ⟨by show _ ≤ mc; omega, by show _ ≤ ms; omega⟩) hw (fun H locs hw hx51 => ?_)
    have Ta0 : TY S_48 a0 11 := ty_ext hx51 Ta0
    have hE : Ext S0 S_48 := Ext.tr hE hx51
    refine lv_pop hx hb dX11_work_36 rfl ?_
    refine lv_bipush (v := (-20)) hx hb dX11_work_37 (by decide) ?_
    refine vx_ret ?_
    exact pw_wiret hx hb hr rfl hlk hw hE hm (by omega) (by omega) dX11_work_39
abbrev rw_X11_nights (mc ms : Nat) : Room := { frames := 8, cells := mc, slots := ms, locals := 147 }
def wp_X11_nights (n : Nat) (a0 : Nat) (x1 : Int32) (x2 : Int32) (S0 : pq_S) (mc ms : Nat) (E : (Nat → pq_S → Prop)) (Q : (Int32 → pq_S → Prop)) : Prop := ∃ c2 s3 : Nat, c2 ≤ mc ∧ s3 ≤ ms ∧ wp_X11_needPlace n a0 x1 S0 c2 s3 E (fun S_1 => ∃ r9 S_7, m_X11_isWithin n x2 1 24 S_1 = some (r9, S_7) ∧ (∃ c13 s14 : Nat, c13 ≤ (mc - (c2)) ∧ s14 ≤ (ms - (s3)) ∧ wp_X11_need n a0 r9 S_7 c13 s14 E (fun S_12 => ∃ q18 : Nat, (pR S_12 1103 a0) = some q18 ∧ (∃ c20 s21 : Nat, c20 ≤ (mc - (c2 + c13)) ∧ s21 ≤ (ms - (s3 + s14)) ∧ wp_X4_pack n q18 x1 x2 S_12 c20 s21 (fun S_19 => ∃ q25 : Nat, (pR S_19 1103 a0) = some q25 ∧ (Q (pI S_19 406 q25) S_19))))))
theorem tc_X11_nights : Cond.code yX11_nights cX11_nights 3 (some .int) ∈ pq_U := tw1204
theorem cd_X11_nights : yX11_nights.cls = RX11 ∧ yX11_nights.cls ≠ "java/lang/invoke/MethodHandle" ∧ yX11_nights.cls ≠ "java/lang/invoke/VarHandle" ∧ (parseMethodDescriptor yX11_nights.desc).map (fun d => d.parameters.length) = some 2 := by decide +kernel
set_option maxHeartbeats 4000000 in
set_option maxRecDepth 100000 in
theorem cw_X11_nights (l : Launch) (C : pq_C) (X : va_W) (n : Nat) (S0 : pq_S) (hF : WF S0) (sz : Nat) (a0 : Nat) (x1 : Int32) (x2 : Int32) (Ta0 : TY S0 a0 11) (mc ms : Nat) (hst : l.stackTraces = false) (E : (Nat → pq_S → Prop)) (Q : (Int32 → pq_S → Prop)) (hm : wp_X11_nights n a0 x1 x2 S0 mc ms E Q) : vx_Met l yX11_nights (.code yX11_nights cX11_nights 3 (some .int) :: pq_U) (rw_X11_nights mc ms) (va_Pc [.ref a0, .int x1, .int x2] (CPre C X S0 sz)) (QwI C X S0 sz Q) (XcP C X S0 sz E) mc ms (pq_F C X S0 sz) := by
  refine vx_ofW (cc := cX11_nights) (maxL := 3) (ret := (some .int)) (by decide) rfl ?_
  intro p e s m args below meth c s₁ B hml hno hv
  obtain ⟨rfl, hv⟩ := hv
  have hsz := hv.1
  subst hsz
  have hw := pw_entry hF hv
  have hts := atoms_spec (ws := .code yX11_nights cX11_nights 3 (some .int) :: pq_U) B.pre
  have hU : ∀ w ∈ pq_U, w.before _ s = true := fun w h => hts w (List.mem_cons_of_mem _ h)
  have hx := B.exec
  have hb := B.bytes
  have hr := B.returns
  have hown : s.vm.findClass RX11 = some m.cls := findClass_of_methodNamed B.named
  have hlk := B.notSynchronized
  have hl := lv_entry ([.ref a0, .int x1, .int x2]) (n := 3) (Nat.le_of_ble_eq_true rfl)
  rw [lg_entry_eq]
  generalize (lg_sl ([.ref a0, .int x1, .int x2]) ++ List.replicate (3 - (lg_sl ([.ref a0, .int x1, .int x2])).length) Slot.unset).toArray = ls at hl ⊢
  have hl : lv_has ls 3 [(0, .ref a0), (1, .int x1), (2, .int x2)] := hl
  have hE : Ext S0 S0 := Ext.rf _
  have cx : Cx p s m _ meth c cX11_nights 3 RX11 (some .int) := ⟨hx, hb, hml, hown, hU, hr, hlk⟩
  have hcc : 0 + mc ≤ mc := by omega
  have hss : 0 + ms ≤ ms := by omega
  rw [wp_X11_nights] at hm
  refine lv_aload_n hx hb dX11_nights_0 rfl (lv_at hl 0 rfl) ?_
  refine lv_iload_n hx hb dX11_nights_1 rfl (lv_at hl 1 rfl) ?_
  obtain ⟨c2, s3, hb4, hb5, hm⟩ := hm
  refine px_v (vx_runV (As := [.int x1]) (rest := []) ⟨hx, hb, hml, hown, hU⟩ (cw_X11_needPlace l C X n S0 hw.wf _ a0 x1 (Ta0) c2 s3 hst E _ hm) (cwV 1 hU (pq_gV tw996 tw998 ts76 tw1 tc_X11_needPlace) rfl rfl rfl cd_X11_needPlace ⟨Nat.le_of_ble_eq_true rfl, Nat.le_of_ble_eq_true rfl⟩) (pw_preV hw Ta0 (by decide) rfl) rfl rfl hl.1 rfl (lv_room (Nat.le_of_ble_eq_true rfl)) dX11_nights_2 ⟨by show _ ≤ mc; omega, by show _ ≤ ms; omega⟩) hw hE hno hlk (by omega) (by omega) (fun S_1 H locs hm hw hx6 => ?_)
  have Ta0 : TY S_1 a0 11 := ty_ext hx6 Ta0
  have hE : Ext S0 S_1 := Ext.tr hE hx6
  refine W.widen (k := c2) (n := s3) (by omega) (by omega) ?_
  have hcc : c2 + (mc - (c2)) ≤ mc := by omega
  have hss : s3 + (ms - (s3)) ≤ ms := by omega
  refine lv_aload_n hx hb dX11_nights_5 rfl (lv_at hl 0 rfl) ?_
  refine lv_iload_n hx hb dX11_nights_6 rfl (lv_at hl 2 rfl) ?_
  refine lv_iconst (v := 1) hx hb dX11_nights_7 (by decide) ?_
  refine lv_bipush (v := 24) hx hb dX11_nights_8 (by decide) ?_
  obtain ⟨r9, S_7, hq8, hm⟩ := hm
  refine pw_cz (va_runS (As := [.int x2, .int 1, .int 24]) (rest := [.ref a0]) ⟨hx, hb, hml, hown, hU⟩ (c_X11_isWithin l C X n S_1 hw.wf _ x2 1 24  r9 S_7 hq8) ⟨callB_of 3 hU (pq_g1 tc_X11_isWithin) rfl rfl rfl (hU _ tw1) (hU _ tw453) cd_X11_isWithin.2 ⟨Nat.le_of_ble_eq_true rfl, Nat.le_of_ble_eq_true rfl⟩, hU _ tw454⟩ (pw_preS hw) rfl rfl hl.1 rfl (lv_room (Nat.le_of_ble_eq_true rfl)) dX11_nights_10 ⟨by show _ ≤ mc; omega, by show _ ≤ ms; omega⟩) hw (fun H locs hw hx10 hz11 => ?_)
  have Ta0 : TY S_7 a0 11 := ty_ext hx10 Ta0
  have hE : Ext S0 S_7 := Ext.tr hE hx10
  obtain ⟨c13, s14, hb15, hb16, hm⟩ := hm
  refine px_v (vx_runV (As := [.int r9]) (rest := []) ⟨hx, hb, hml, hown, hU⟩ (cw_X11_need l C X n S_7 hw.wf _ a0 r9 (Ta0) c13 s14 hst E _ hm) (cwV 1 hU (pq_gV tw490 tw492 ts7 tw1 tc_X11_need) rfl rfl rfl cd_X11_need ⟨Nat.le_of_ble_eq_true rfl, Nat.le_of_ble_eq_true rfl⟩) (pw_preV hw Ta0 (by decide) rfl) rfl rfl hl.1 rfl (lv_room (Nat.le_of_ble_eq_true rfl)) dX11_nights_13 ⟨by show _ ≤ mc; omega, by show _ ≤ ms; omega⟩) hw hE hno hlk (by omega) (by omega) (fun S_12 H locs hm hw hx17 => ?_)
  have Ta0 : TY S_12 a0 11 := ty_ext hx17 Ta0
  have hE : Ext S0 S_12 := Ext.tr hE hx17
  refine W.widen (k := c2 + c13) (n := s3 + s14) (by omega) (by omega) ?_
  have hcc : c2 + c13 + (mc - (c2 + c13)) ≤ mc := by omega
  have hss : s3 + s14 + (ms - (s3 + s14)) ≤ ms := by omega
  refine lv_aload_n hx hb dX11_nights_16 rfl (lv_at hl 0 rfl) ?_
  obtain ⟨q18, hq18, hm⟩ := hm
  have Tq18 : TY S_12 q18 4 := hw.wf.ref (k := 11) (j := 3) Ta0 (by decide) (by decide) hq18
  refine pg_rb (k := 11) (j := 3) (f := 1103) hx hb hown hU iu11 hw Ta0 (by decide) rfl (hU _ tw366) rfl hq18 dX11_nights_17 ?_
  refine lv_iload_n hx hb dX11_nights_20 rfl (lv_at hl 1 rfl) ?_
  refine lv_iload_n hx hb dX11_nights_21 rfl (lv_at hl 2 rfl) ?_
  obtain ⟨c20, s21, hb22, hb23, hm⟩ := hm
  refine pw_wv (va_runVN (As := [.int x1, .int x2]) (rest := []) ⟨hx, hb, hml, hown, hU⟩ (cw_X4_pack l C X n S_12 hw.wf _ q18 x1 x2 (Tq18) c20 s21 _ hm) ⟨va_cnB (host := "WickNights") 2 hU (pq_g1 tc_X4_pack) rfl rfl rfl (hw.nw 173 rfl) (hU _ tw9) cd_X4_pack.2 ⟨Nat.le_of_ble_eq_true rfl, Nat.le_of_ble_eq_true rfl⟩, hU _ tw1207, hU _ ts90⟩ (pw_preV hw Tq18 (by decide) rfl) rfl rfl hl.1 rfl (lv_room (Nat.le_of_ble_eq_true rfl)) dX11_nights_22 ⟨by show _ ≤ mc; omega, by show _ ≤ ms; omega⟩) hw (fun S_19 H locs hm hw hx24 => ?_)
  have Ta0 : TY S_19 a0 11 := ty_ext hx24 Ta0
  have hE : Ext S0 S_19 := Ext.tr hE hx24
  refine W.widen (k := c2 + c13 + c20) (n := s3 + s14 + s21) (by omega) (by omega) ?_
  have hcc : c2 + c13 + c20 + (mc - (c2 + c13 + c20)) ≤ mc := by omega
  have hss : s3 + s14 + s21 + (ms - (s3 + s14 + s21)) ≤ ms := by omega
  refine lv_aload_n hx hb dX11_nights_25 rfl (lv_at hl 0 rfl) ?_
  obtain ⟨q25, hq25, hm⟩ := hm
  have Tq25 : TY S_19 q25 4 := hw.wf.ref (k := 11) (j := 3) Ta0 (by decide) (by decide) hq25
  refine pg_rb (k := 11) (j := 3) (f := 1103) hx hb hown hU iu11 hw Ta0 (by decide) rfl (hU _ tw366) rfl hq25 dX11_nights_26 ?_
  refine pgN_i (k := 4) (j := 6) (f := 406) hx hb hown hU iu4 hw Tq25 (by decide) rfl 71 rfl rfl dX11_nights_29 ?_
  refine vx_ret ?_
  exact pw_wiret hx hb hr rfl hlk hw hE hm (by omega) (by omega) dX11_nights_32
abbrev rw_X11_night (mc ms : Nat) : Room := { frames := 8, cells := mc, slots := ms, locals := 147 }
def wp_X11_night (n : Nat) (a0 : Nat) (x1 : Int32) (x2 : Int32) (S0 : pq_S) (mc ms : Nat) (E : (Nat → pq_S → Prop)) (Q : (Int32 → pq_S → Prop)) : Prop := ∃ c2 s3 : Nat, c2 ≤ mc ∧ s3 ≤ ms ∧ wp_X11_needWant n a0 x1 S0 c2 s3 E (fun S_1 => ∃ r9 S_7, m_X11_isWithin n x2 1 24 S_1 = some (r9, S_7) ∧ (∃ c13 s14 : Nat, c13 ≤ (mc - (c2)) ∧ s14 ≤ (ms - (s3)) ∧ wp_X11_need n a0 r9 S_7 c13 s14 E (fun S_12 => ∃ q18 : Nat, (pR S_12 1103 a0) = some q18 ∧ (∃ q19 : Nat, (pR S_12 1101 a0) = some q19 ∧ (∃ q20 : Nat, (pR S_12 700 q19) = some q20 ∧ (∃ q21 : Nat, (pR S_12 101 q20) = some q21 ∧ (∃ r24 S_22, m_X9_at n q21 x1 0 S_12 = some (r24, S_22) ∧ (∃ c27 s28 : Nat, c27 ≤ (mc - (c2 + c13)) ∧ s28 ≤ (ms - (s3 + s14)) ∧ wp_X4_pack n q18 r24 x2 S_22 c27 s28 (fun S_26 => ∃ q32 : Nat, (pR S_26 1103 a0) = some q32 ∧ (∃ r35 S_33, m_X4_nightOf n q32 x1 S_26 = some (r35, S_33) ∧ (Q r35 S_33)))))))))))
theorem tc_X11_night : Cond.code yX11_night cX11_night 3 (some .int) ∈ pq_U := tw1250
theorem cd_X11_night : yX11_night.cls = RX11 ∧ yX11_night.cls ≠ "java/lang/invoke/MethodHandle" ∧ yX11_night.cls ≠ "java/lang/invoke/VarHandle" ∧ (parseMethodDescriptor yX11_night.desc).map (fun d => d.parameters.length) = some 2 := by decide +kernel
set_option maxHeartbeats 4000000 in
set_option maxRecDepth 100000 in
theorem cw_X11_night (l : Launch) (C : pq_C) (X : va_W) (n : Nat) (S0 : pq_S) (hF : WF S0) (sz : Nat) (a0 : Nat) (x1 : Int32) (x2 : Int32) (Ta0 : TY S0 a0 11) (mc ms : Nat) (hst : l.stackTraces = false) (E : (Nat → pq_S → Prop)) (Q : (Int32 → pq_S → Prop)) (hm : wp_X11_night n a0 x1 x2 S0 mc ms E Q) : vx_Met l yX11_night (.code yX11_night cX11_night 3 (some .int) :: pq_U) (rw_X11_night mc ms) (va_Pc [.ref a0, .int x1, .int x2] (CPre C X S0 sz)) (QwI C X S0 sz Q) (XcP C X S0 sz E) mc ms (pq_F C X S0 sz) := by
  refine vx_ofW (cc := cX11_night) (maxL := 3) (ret := (some .int)) (by decide) rfl ?_
  intro p e s m args below meth c s₁ B hml hno hv
  obtain ⟨rfl, hv⟩ := hv
  have hsz := hv.1
  subst hsz
  have hw := pw_entry hF hv
  have hts := atoms_spec (ws := .code yX11_night cX11_night 3 (some .int) :: pq_U) B.pre
  have hU : ∀ w ∈ pq_U, w.before _ s = true := fun w h => hts w (List.mem_cons_of_mem _ h)
  have hx := B.exec
  have hb := B.bytes
  have hr := B.returns
  have hown : s.vm.findClass RX11 = some m.cls := findClass_of_methodNamed B.named
  have hlk := B.notSynchronized
  have hl := lv_entry ([.ref a0, .int x1, .int x2]) (n := 3) (Nat.le_of_ble_eq_true rfl)
  rw [lg_entry_eq]
  generalize (lg_sl ([.ref a0, .int x1, .int x2]) ++ List.replicate (3 - (lg_sl ([.ref a0, .int x1, .int x2])).length) Slot.unset).toArray = ls at hl ⊢
  have hl : lv_has ls 3 [(0, .ref a0), (1, .int x1), (2, .int x2)] := hl
  have hE : Ext S0 S0 := Ext.rf _
  have cx : Cx p s m _ meth c cX11_night 3 RX11 (some .int) := ⟨hx, hb, hml, hown, hU, hr, hlk⟩
  have hcc : 0 + mc ≤ mc := by omega
  have hss : 0 + ms ≤ ms := by omega
  rw [wp_X11_night] at hm
  refine lv_aload_n hx hb dX11_night_0 rfl (lv_at hl 0 rfl) ?_
  refine lv_iload_n hx hb dX11_night_1 rfl (lv_at hl 1 rfl) ?_
  obtain ⟨c2, s3, hb4, hb5, hm⟩ := hm
  refine px_v (vx_runV (As := [.int x1]) (rest := []) ⟨hx, hb, hml, hown, hU⟩ (cw_X11_needWant l C X n S0 hw.wf _ a0 x1 (Ta0) c2 s3 hst E _ hm) (cwV 1 hU (pq_gV tw1039 tw1041 ts81 tw1 tc_X11_needWant) rfl rfl rfl cd_X11_needWant ⟨Nat.le_of_ble_eq_true rfl, Nat.le_of_ble_eq_true rfl⟩) (pw_preV hw Ta0 (by decide) rfl) rfl rfl hl.1 rfl (lv_room (Nat.le_of_ble_eq_true rfl)) dX11_night_2 ⟨by show _ ≤ mc; omega, by show _ ≤ ms; omega⟩) hw hE hno hlk (by omega) (by omega) (fun S_1 H locs hm hw hx6 => ?_)
  have Ta0 : TY S_1 a0 11 := ty_ext hx6 Ta0
  have hE : Ext S0 S_1 := Ext.tr hE hx6
  refine W.widen (k := c2) (n := s3) (by omega) (by omega) ?_
  have hcc : c2 + (mc - (c2)) ≤ mc := by omega
  have hss : s3 + (ms - (s3)) ≤ ms := by omega
  refine lv_aload_n hx hb dX11_night_5 rfl (lv_at hl 0 rfl) ?_
  refine lv_iload_n hx hb dX11_night_6 rfl (lv_at hl 2 rfl) ?_
  refine lv_iconst (v := 1) hx hb dX11_night_7 (by decide) ?_
  refine lv_bipush (v := 24) hx hb dX11_night_8 (by decide) ?_
  obtain ⟨r9, S_7, hq8, hm⟩ := hm
  refine pw_cz (va_runS (As := [.int x2, .int 1, .int 24]) (rest := [.ref a0]) ⟨hx, hb, hml, hown, hU⟩ (c_X11_isWithin l C X n S_1 hw.wf _ x2 1 24  r9 S_7 hq8) ⟨callB_of 3 hU (pq_g1 tc_X11_isWithin) rfl rfl rfl (hU _ tw1) (hU _ tw453) cd_X11_isWithin.2 ⟨Nat.le_of_ble_eq_true rfl, Nat.le_of_ble_eq_true rfl⟩, hU _ tw454⟩ (pw_preS hw) rfl rfl hl.1 rfl (lv_room (Nat.le_of_ble_eq_true rfl)) dX11_night_10 ⟨by show _ ≤ mc; omega, by show _ ≤ ms; omega⟩) hw (fun H locs hw hx10 hz11 => ?_)
  have Ta0 : TY S_7 a0 11 := ty_ext hx10 Ta0
  have hE : Ext S0 S_7 := Ext.tr hE hx10
  obtain ⟨c13, s14, hb15, hb16, hm⟩ := hm
  refine px_v (vx_runV (As := [.int r9]) (rest := []) ⟨hx, hb, hml, hown, hU⟩ (cw_X11_need l C X n S_7 hw.wf _ a0 r9 (Ta0) c13 s14 hst E _ hm) (cwV 1 hU (pq_gV tw490 tw492 ts7 tw1 tc_X11_need) rfl rfl rfl cd_X11_need ⟨Nat.le_of_ble_eq_true rfl, Nat.le_of_ble_eq_true rfl⟩) (pw_preV hw Ta0 (by decide) rfl) rfl rfl hl.1 rfl (lv_room (Nat.le_of_ble_eq_true rfl)) dX11_night_13 ⟨by show _ ≤ mc; omega, by show _ ≤ ms; omega⟩) hw hE hno hlk (by omega) (by omega) (fun S_12 H locs hm hw hx17 => ?_)
  have Ta0 : TY S_12 a0 11 := ty_ext hx17 Ta0
  have hE : Ext S0 S_12 := Ext.tr hE hx17
  refine W.widen (k := c2 + c13) (n := s3 + s14) (by omega) (by omega) ?_
  have hcc : c2 + c13 + (mc - (c2 + c13)) ≤ mc := by omega
  have hss : s3 + s14 + (ms - (s3 + s14)) ≤ ms := by omega
  refine lv_aload_n hx hb dX11_night_16 rfl (lv_at hl 0 rfl) ?_
  obtain ⟨q18, hq18, hm⟩ := hm
  have Tq18 : TY S_12 q18 4 := hw.wf.ref (k := 11) (j := 3) Ta0 (by decide) (by decide) hq18
  refine pg_rb (k := 11) (j := 3) (f := 1103) hx hb hown hU iu11 hw Ta0 (by decide) rfl (hU _ tw366) rfl hq18 dX11_night_17 ?_
  refine lv_aload_n hx hb dX11_night_20 rfl (lv_at hl 0 rfl) ?_
  obtain ⟨q19, hq19, hm⟩ := hm
  have Tq19 : TY S_12 q19 7 := hw.wf.ref (k := 11) (j := 1) Ta0 (by decide) (by decide) hq19
  refine pg_rb (k := 11) (j := 1) (f := 1101) hx hb hown hU iu11 hw Ta0 (by decide) rfl (hU _ tw364) rfl hq19 dX11_night_21 ?_
  obtain ⟨q20, hq20, hm⟩ := hm
  have Tq20 : TY S_12 q20 1 := hw.wf.ref (k := 7) (j := 0) Tq19 (by decide) (by decide) hq20
  refine pgN_rb (k := 7) (j := 0) (f := 700) hx hb hown hU iu7 hw Tq19 (by decide) rfl 55 rfl rfl hq20 dX11_night_24 ?_
  obtain ⟨q21, hq21, hm⟩ := hm
  have Tq21 : TY S_12 q21 9 := hw.wf.ref (k := 1) (j := 1) Tq20 (by decide) (by decide) hq21
  refine pgN_rb (k := 1) (j := 1) (f := 101) hx hb hown hU iu1 hw Tq20 (by decide) rfl 32 rfl rfl hq21 dX11_night_27 ?_
  refine lv_iload_n hx hb dX11_night_30 rfl (lv_at hl 1 rfl) ?_
  refine lv_iconst (v := 0) hx hb dX11_night_31 (by decide) ?_
  obtain ⟨r24, S_22, hq23, hm⟩ := hm
  refine pw_ci (va_runVN (As := [.int x1, .int 0]) (rest := [.ref q18]) ⟨hx, hb, hml, hown, hU⟩ (c_X9_at l C X n S_12 hw.wf _ q21 x1 0 (Tq21) r24 S_22 hq23) ⟨va_cnB (host := "WickNights") 2 hU (pq_g1 tc_X9_at) rfl rfl rfl (hw.nw 157 rfl) (hU _ tw5) cd_X9_at.2 ⟨Nat.le_of_ble_eq_true rfl, Nat.le_of_ble_eq_true rfl⟩, hU _ tw719, hU _ ts32⟩ (pw_preV hw Tq21 (by decide) rfl) rfl rfl hl.1 rfl (lv_room (Nat.le_of_ble_eq_true rfl)) dX11_night_32 ⟨by show _ ≤ mc; omega, by show _ ≤ ms; omega⟩) hw (fun H locs hw hx25 => ?_)
  have Tq18 : TY S_22 q18 4 := ty_ext hx25 Tq18
  have Ta0 : TY S_22 a0 11 := ty_ext hx25 Ta0
  have hE : Ext S0 S_22 := Ext.tr hE hx25
  refine lv_iload_n hx hb dX11_night_35 rfl (lv_at hl 2 rfl) ?_
  obtain ⟨c27, s28, hb29, hb30, hm⟩ := hm
  refine pw_wv (va_runVN (As := [.int r24, .int x2]) (rest := []) ⟨hx, hb, hml, hown, hU⟩ (cw_X4_pack l C X n S_22 hw.wf _ q18 r24 x2 (Tq18) c27 s28 _ hm) ⟨va_cnB (host := "WickNights") 2 hU (pq_g1 tc_X4_pack) rfl rfl rfl (hw.nw 173 rfl) (hU _ tw9) cd_X4_pack.2 ⟨Nat.le_of_ble_eq_true rfl, Nat.le_of_ble_eq_true rfl⟩, hU _ tw1207, hU _ ts90⟩ (pw_preV hw Tq18 (by decide) rfl) rfl rfl hl.1 rfl (lv_room (Nat.le_of_ble_eq_true rfl)) dX11_night_36 ⟨by show _ ≤ mc; omega, by show _ ≤ ms; omega⟩) hw (fun S_26 H locs hm hw hx31 => ?_)
  have Ta0 : TY S_26 a0 11 := ty_ext hx31 Ta0
  have hE : Ext S0 S_26 := Ext.tr hE hx31
  refine W.widen (k := c2 + c13 + c27) (n := s3 + s14 + s28) (by omega) (by omega) ?_
  have hcc : c2 + c13 + c27 + (mc - (c2 + c13 + c27)) ≤ mc := by omega
  have hss : s3 + s14 + s28 + (ms - (s3 + s14 + s28)) ≤ ms := by omega
  refine lv_aload_n hx hb dX11_night_39 rfl (lv_at hl 0 rfl) ?_
  obtain ⟨q32, hq32, hm⟩ := hm
  have Tq32 : TY S_26 q32 4 := hw.wf.ref (k := 11) (j := 3) Ta0 (by decide) (by decide) hq32
  refine pg_rb (k := 11) (j := 3) (f := 1103) hx hb hown hU iu11 hw Ta0 (by decide) rfl (hU _ tw366) rfl hq32 dX11_night_40 ?_
  refine lv_iload_n hx hb dX11_night_43 rfl (lv_at hl 1 rfl) ?_
  obtain ⟨r35, S_33, hq34, hm⟩ := hm
  refine pw_ci (va_runVN (As := [.int x1]) (rest := []) ⟨hx, hb, hml, hown, hU⟩ (c_X4_nightOf l C X n S_26 hw.wf _ q32 x1 (Tq32) r35 S_33 hq34) ⟨va_cnB (host := "WickNights") 1 hU (pq_g1 tc_X4_nightOf) rfl rfl rfl (hw.nw 175 rfl) (hU _ tw9) cd_X4_nightOf.2 ⟨Nat.le_of_ble_eq_true rfl, Nat.le_of_ble_eq_true rfl⟩, hU _ tw1253, hU _ ts99⟩ (pw_preV hw Tq32 (by decide) rfl) rfl rfl hl.1 rfl (lv_room (Nat.le_of_ble_eq_true rfl)) dX11_night_44 ⟨by show _ ≤ mc; omega, by show _ ≤ ms; omega⟩) hw (fun H locs hw hx36 => ?_)
  have Ta0 : TY S_33 a0 11 := ty_ext hx36 Ta0
  have hE : Ext S0 S_33 := Ext.tr hE hx36
  refine vx_ret ?_
  exact pw_wiret hx hb hr rfl hlk hw hE hm (by omega) (by omega) dX11_night_47
abbrev rw_X11_image (mc ms : Nat) : Room := { frames := 5, cells := mc, slots := ms, locals := 165 }
def pb_X11_image_42 (n : Nat) (a0 : Nat) (S : pq_S) (bc bs : Nat) (Q : (Int32 → pq_S → Prop)) : Prop := ∃ q23 : Nat, (pR S 1110 a0) = some q23 ∧ ((ix (pI S 1112 a0) (pN S q23)) ∧ (∃ q25 : Nat, (pQ S q23 (Int32.toNatClampNeg (pI S 1112 a0))) = some q25 ∧ (∃ q26 : Nat, (pR S 1109 a0) = some q26 ∧ (∃ c28 s29 : Nat, c28 ≤ bc ∧ s29 ≤ bs ∧ wp_X5_copyFrom n q25 q26 S c28 s29 (fun S_27 => ∃ q33 : Nat, (pR S_27 1110 a0) = some q33 ∧ ((ix (pI S_27 1112 a0) (pN S_27 q33)) ∧ (∃ q35 : Nat, (pQ S_27 q33 (Int32.toNatClampNeg (pI S_27 1112 a0))) = some q35 ∧ (∃ q36 : Nat, (pR S_27 1101 a0) = some q36 ∧ (∃ q37 : Nat, (pR S_27 701 q36) = some q37 ∧ (∃ c39 s40 : Nat, c39 ≤ (bc - (c28)) ∧ s40 ≤ (bs - (s29)) ∧ wp_X5_push n q35 q37 S_27 c39 s40 (fun S_38 => Q (pI (sI S_38 1112 a0 ((pI S_38 1112 a0) + (1 : Int32))) 1112 a0) (sI S_38 1112 a0 ((pI S_38 1112 a0) + (1 : Int32))))))))))))))
set_option maxHeartbeats 4000000 in
set_option maxRecDepth 100000 in
theorem wpb_X11_image_42 {p : Program} {l : Launch} {e : Env} {s : State} {m : MethodId} {args : Array Value} {below : List Frame} {meth : Method} {c : Code} (cx : Cx p s m args meth c cX11_image 1 RX11 (some .int)) (C : pq_C) (X : va_W) (S0 : pq_S) (n : Nat) (Q : (Int32 → pq_S → Prop)) (mc ms : Nat) : ∀ (a0 : Nat) (S : pq_S) (H : Heap) (locs : List Loc) (ls : Array Slot) (cells slots bc bs : Nat), cells + bc ≤ mc → slots + bs ≤ ms → PW C X S (pq_F C X S0 s.heap.size) H locs s → Ext S0 S → TY S a0 11 → lv_has ls 1 [(0, .ref a0)] → pb_X11_image_42 n a0 S bc bs Q → W p l e (rw_X11_image mc ms) s m args below meth c H locs cells slots (MQ below (QwI C X S0 s.heap.size Q) args s mc ms (pq_F C X S0 s.heap.size)) (F0 m 42 ls []) := by
  obtain ⟨hx, hb, hml, hown, hU, hr, hlk⟩ := id cx
  intro a0 S H locs ls cells slots bc bs hcc hss hw hE Ta0 hl hm
  rw [pb_X11_image_42] at hm
  refine lv_aload_n hx hb dX11_image_42 rfl (lv_at hl 0 rfl) ?_
  obtain ⟨q23, hq23, hm⟩ := hm
  have Tq23 : TY S q23 15 := hw.wf.ref (k := 11) (j := 10) Ta0 (by decide) (by decide) hq23
  refine pg_rb (k := 11) (j := 10) (f := 1110) hx hb hown hU iu11 hw Ta0 (by decide) rfl (hU _ tw373) rfl hq23 dX11_image_43 ?_
  refine lv_aload_n hx hb dX11_image_46 rfl (lv_at hl 0 rfl) ?_
  refine pg_i (k := 11) (j := 12) (f := 1112) hx hb hown hU iu11 hw Ta0 (by decide) rfl (hU _ tw375) rfl dX11_image_47 ?_
  obtain ⟨hi24, hm⟩ := hm
  obtain ⟨q25, hq25, hm⟩ := hm
  have Tq25 : TY S q25 5 := hw.wf.2.1 _ _ _ Tq23 hq25
  refine pw_aaldPb hx hb hw Tq23 hi24 hq25 dX11_image_50 ?_
  refine lv_aload_n hx hb dX11_image_51 rfl (lv_at hl 0 rfl) ?_
  obtain ⟨q26, hq26, hm⟩ := hm
  have Tq26 : TY S q26 5 := hw.wf.ref (k := 11) (j := 9) Ta0 (by decide) (by decide) hq26
  refine pg_rb (k := 11) (j := 9) (f := 1109) hx hb hown hU iu11 hw Ta0 (by decide) rfl (hU _ tw372) rfl hq26 dX11_image_52 ?_
  obtain ⟨c28, s29, hb30, hb31, hm⟩ := hm
  refine pw_wv (va_runVN (As := [.ref q26]) (rest := []) ⟨hx, hb, hml, hown, hU⟩ (cw_X5_copyFrom l C X n S hw.wf _ q25 q26 (Tq25) (Tq26) c28 s29 _ hm) ⟨va_cnB (host := "WickNights") 1 hU (pq_g1 tc_X5_copyFrom) rfl rfl rfl (hw.nw 87 rfl) (hU _ tw13) cd_X5_copyFrom.2 ⟨Nat.le_of_ble_eq_true rfl, Nat.le_of_ble_eq_true rfl⟩, hU _ tw458, hU _ ts4⟩ (pw_preV hw Tq25 (by decide) rfl) rfl rfl hl.1 rfl (lv_room (Nat.le_of_ble_eq_true rfl)) dX11_image_55 ⟨by show _ ≤ mc; omega, by show _ ≤ ms; omega⟩) hw (fun S_27 H locs hm hw hx32 => ?_)
  have Ta0 : TY S_27 a0 11 := ty_ext hx32 Ta0
  have hE : Ext S0 S_27 := Ext.tr hE hx32
  refine W.widen (k := cells + (c28)) (n := slots + (s29)) (by omega) (by omega) ?_
  have hcc : cells + (c28) + (bc - (c28)) ≤ mc := by omega
  have hss : slots + (s29) + (bs - (s29)) ≤ ms := by omega
  refine lv_aload_n hx hb dX11_image_58 rfl (lv_at hl 0 rfl) ?_
  obtain ⟨q33, hq33, hm⟩ := hm
  have Tq33 : TY S_27 q33 15 := hw.wf.ref (k := 11) (j := 10) Ta0 (by decide) (by decide) hq33
  refine pg_rb (k := 11) (j := 10) (f := 1110) hx hb hown hU iu11 hw Ta0 (by decide) rfl (hU _ tw373) rfl hq33 dX11_image_59 ?_
  refine lv_aload_n hx hb dX11_image_62 rfl (lv_at hl 0 rfl) ?_
  refine pg_i (k := 11) (j := 12) (f := 1112) hx hb hown hU iu11 hw Ta0 (by decide) rfl (hU _ tw375) rfl dX11_image_63 ?_
  obtain ⟨hi34, hm⟩ := hm
  obtain ⟨q35, hq35, hm⟩ := hm
  have Tq35 : TY S_27 q35 5 := hw.wf.2.1 _ _ _ Tq33 hq35
  refine pw_aaldPb hx hb hw Tq33 hi34 hq35 dX11_image_66 ?_
  refine lv_aload_n hx hb dX11_image_67 rfl (lv_at hl 0 rfl) ?_
  obtain ⟨q36, hq36, hm⟩ := hm
  have Tq36 : TY S_27 q36 7 := hw.wf.ref (k := 11) (j := 1) Ta0 (by decide) (by decide) hq36
  refine pg_rb (k := 11) (j := 1) (f := 1101) hx hb hown hU iu11 hw Ta0 (by decide) rfl (hU _ tw364) rfl hq36 dX11_image_68 ?_
  obtain ⟨q37, hq37, hm⟩ := hm
  have Tq37 : TY S_27 q37 8 := hw.wf.ref (k := 7) (j := 1) Tq36 (by decide) (by decide) hq37
  refine pgN_rb (k := 7) (j := 1) (f := 701) hx hb hown hU iu7 hw Tq36 (by decide) rfl 59 rfl rfl hq37 dX11_image_71 ?_
  obtain ⟨c39, s40, hb41, hb42, hm⟩ := hm
  refine pw_wv (va_runVN (As := [.ref q37]) (rest := []) ⟨hx, hb, hml, hown, hU⟩ (cw_X5_push l C X n S_27 hw.wf _ q35 q37 (Tq35) (Tq37) c39 s40 _ hm) ⟨va_cnB (host := "WickNights") 1 hU (pq_g1 tc_X5_push) rfl rfl rfl (hw.nw 89 rfl) (hU _ tw13) cd_X5_push.2 ⟨Nat.le_of_ble_eq_true rfl, Nat.le_of_ble_eq_true rfl⟩, hU _ tw462, hU _ ts5⟩ (pw_preV hw Tq35 (by decide) rfl) rfl rfl hl.1 rfl (lv_room (Nat.le_of_ble_eq_true rfl)) dX11_image_74 ⟨by show _ ≤ mc; omega, by show _ ≤ ms; omega⟩) hw (fun S_38 H locs hm hw hx43 => ?_)
  have Ta0 : TY S_38 a0 11 := ty_ext hx43 Ta0
  have hE : Ext S0 S_38 := Ext.tr hE hx43
  refine W.widen (k := cells + (c28 + c39)) (n := slots + (s29 + s40)) (by omega) (by omega) ?_
  have hcc : cells + (c28 + c39) + (bc - (c28 + c39)) ≤ mc := by omega
  have hss : slots + (s29 + s40) + (bs - (s29 + s40)) ≤ ms := by omega
  refine lv_aload_n hx hb dX11_image_77 rfl (lv_at hl 0 rfl) ?_
  refine lv_dup hx hb dX11_image_78 rfl ?_
  refine pg_i (k := 11) (j := 12) (f := 1112) hx hb hown hU iu11 hw Ta0 (by decide) rfl (hU _ tw375) rfl dX11_image_79 ?_
  refine lv_iconst (v := 1) hx hb dX11_image_82 (by decide) ?_
  refine lv_iadd hx hb dX11_image_83 ?_
  refine pp_i (k := 11) (j := 12) (f := 1112) hx hb hown hU iu11 tyX11_ok nmX11 hw Ta0 (by decide) rfl (hU _ tw375) rfl rfl rfl dX11_image_84 (fun H locs hw => ?_)
  refine lv_aload_n hx hb dX11_image_87 rfl (lv_at hl 0 rfl) ?_
  refine pg_i (k := 11) (j := 12) (f := 1112) hx hb hown hU iu11 hw Ta0 (by decide) rfl (hU _ tw375) rfl dX11_image_88 ?_
  exact pw_wiret hx hb hr rfl hlk hw hE hm (by omega) (by omega) dX11_image_91
def wp_X11_image (n : Nat) (a0 : Nat) (S0 : pq_S) (mc ms : Nat) (Q : (Int32 → pq_S → Prop)) : Prop := ∃ r3 S_1, m_X11_isWithin n (pI S0 1112 a0) 0 2 S0 = some (r3, S_1) ∧ (if r3 = 0 then Q (-1) S_1 else ∃ q7 : Nat, (pR S_1 1110 a0) = some q7 ∧ ((ix (pI S_1 1112 a0) (pN S_1 q7)) ∧ (if (pQ S_1 q7 (Int32.toNatClampNeg (pI S_1 1112 a0))) = none then ∃ q11 : Nat, (pR S_1 1110 a0) = some q11 ∧ (1 ≤ mc ∧ 2 ≤ ms ∧ ∀ q12 : Nat, q12 ∉ pL S_1 → (∃ c17 s18 : Nat, c17 ≤ (mc - (1)) ∧ s18 ≤ (ms - (2)) ∧ wp_X5_init n q12 (nO S_1 q12 5) c17 s18 (fun S_16 => (ix (pI S_1 1112 a0) (pN S_16 q11)) ∧ (pb_X11_image_42 n a0 (sQ S_16 q11 (Int32.toNatClampNeg (pI S_1 1112 a0)) (some q12)) (mc - (1 + c17)) (ms - (2 + s18)) Q)))) else pb_X11_image_42 n a0 S_1 mc ms Q)))
theorem tc_X11_image : Cond.code yX11_image cX11_image 1 (some .int) ∈ pq_U := tw452
theorem cd_X11_image : yX11_image.cls = RX11 ∧ yX11_image.cls ≠ "java/lang/invoke/MethodHandle" ∧ yX11_image.cls ≠ "java/lang/invoke/VarHandle" ∧ (parseMethodDescriptor yX11_image.desc).map (fun d => d.parameters.length) = some 0 := by decide +kernel
set_option maxHeartbeats 4000000 in
set_option maxRecDepth 100000 in
theorem cw_X11_image (l : Launch) (C : pq_C) (X : va_W) (n : Nat) (S0 : pq_S) (hF : WF S0) (sz : Nat) (a0 : Nat) (Ta0 : TY S0 a0 11) (mc ms : Nat) (Q : (Int32 → pq_S → Prop)) (hm : wp_X11_image n a0 S0 mc ms Q) : Met l yX11_image (.code yX11_image cX11_image 1 (some .int) :: pq_U) (rw_X11_image mc ms) (va_Pc [.ref a0] (CPre C X S0 sz)) (QwI C X S0 sz Q) mc ms (pq_F C X S0 sz) := by
  refine Met.ofW (cc := cX11_image) (maxL := 1) (ret := (some .int)) (by decide) rfl ?_
  intro p e s m args below meth c s₁ B hml hv
  obtain ⟨rfl, hv⟩ := hv
  have hsz := hv.1
  subst hsz
  have hw := pw_entry hF hv
  have hts := atoms_spec (ws := .code yX11_image cX11_image 1 (some .int) :: pq_U) B.pre
  have hU : ∀ w ∈ pq_U, w.before _ s = true := fun w h => hts w (List.mem_cons_of_mem _ h)
  have hx := B.exec
  have hb := B.bytes
  have hr := B.returns
  have hown : s.vm.findClass RX11 = some m.cls := findClass_of_methodNamed B.named
  have hlk := B.notSynchronized
  have hl := lv_entry ([.ref a0]) (n := 1) (Nat.le_of_ble_eq_true rfl)
  rw [lg_entry_eq]
  generalize (lg_sl ([.ref a0]) ++ List.replicate (1 - (lg_sl ([.ref a0])).length) Slot.unset).toArray = ls at hl ⊢
  have hl : lv_has ls 1 [(0, .ref a0)] := hl
  have hE : Ext S0 S0 := Ext.rf _
  have cx : Cx p s m _ meth c cX11_image 1 RX11 (some .int) := ⟨hx, hb, hml, hown, hU, hr, hlk⟩
  have hcc : 0 + mc ≤ mc := by omega
  have hss : 0 + ms ≤ ms := by omega
  rw [wp_X11_image] at hm
  refine lv_aload_n hx hb dX11_image_0 rfl (lv_at hl 0 rfl) ?_
  refine pg_i (k := 11) (j := 12) (f := 1112) hx hb hown hU iu11 hw Ta0 (by decide) rfl (hU _ tw375) rfl dX11_image_1 ?_
  refine lv_iconst (v := 0) hx hb dX11_image_4 (by decide) ?_
  refine lv_iconst (v := 2) hx hb dX11_image_5 (by decide) ?_
  obtain ⟨r3, S_1, hq2, hm⟩ := hm
  refine pw_cz (va_runS (As := [.int (pI S0 1112 a0), .int 0, .int 2]) (rest := []) ⟨hx, hb, hml, hown, hU⟩ (c_X11_isWithin l C X n S0 hw.wf _ (pI S0 1112 a0) 0 2  r3 S_1 hq2) ⟨callB_of 3 hU (pq_g1 tc_X11_isWithin) rfl rfl rfl (hU _ tw1) (hU _ tw453) cd_X11_isWithin.2 ⟨Nat.le_of_ble_eq_true rfl, Nat.le_of_ble_eq_true rfl⟩, hU _ tw454⟩ (pw_preS hw) rfl rfl hl.1 rfl (lv_room (Nat.le_of_ble_eq_true rfl)) dX11_image_6 ⟨by show _ ≤ mc; omega, by show _ ≤ ms; omega⟩) hw (fun H locs hw hx4 hz5 => ?_)
  have Ta0 : TY S_1 a0 11 := ty_ext hx4 Ta0
  have hE : Ext S0 S_1 := Ext.tr hE hx4
  refine lv_if_ne (tgt := 14) hx hb dX11_image_9 (by decide) (fun h6 => ?_) (fun h6 => ?_)
  · rw [if_neg h6] at hm
    refine lv_aload_n hx hb dX11_image_14 rfl (lv_at hl 0 rfl) ?_
    obtain ⟨q7, hq7, hm⟩ := hm
    have Tq7 : TY S_1 q7 15 := hw.wf.ref (k := 11) (j := 10) Ta0 (by decide) (by decide) hq7
    refine pg_rb (k := 11) (j := 10) (f := 1110) hx hb hown hU iu11 hw Ta0 (by decide) rfl (hU _ tw373) rfl hq7 dX11_image_15 ?_
    refine lv_aload_n hx hb dX11_image_18 rfl (lv_at hl 0 rfl) ?_
    refine pg_i (k := 11) (j := 12) (f := 1112) hx hb hown hU iu11 hw Ta0 (by decide) rfl (hU _ tw375) rfl dX11_image_19 ?_
    obtain ⟨hi8, hm⟩ := hm
    refine pw_aaldP hx hb hw Tq7 hi8 dX11_image_22 ?_
    by_cases ho9 : (pQ S_1 q7 (Int32.toNatClampNeg (pI S_1 1112 a0))) = none
    · rw [if_pos ho9] at hm
      rw [ho9]
      refine lv_ifnonnullN hx hb dX11_image_23 ?_
      refine lv_aload_n hx hb dX11_image_26 rfl (lv_at hl 0 rfl) ?_
      obtain ⟨q11, hq11, hm⟩ := hm
      have Tq11 : TY S_1 q11 15 := hw.wf.ref (k := 11) (j := 10) Ta0 (by decide) (by decide) hq11
      refine pg_rb (k := 11) (j := 10) (f := 1110) hx hb hown hU iu11 hw Ta0 (by decide) rfl (hU _ tw373) rfl hq11 dX11_image_27 ?_
      refine lv_aload_n hx hb dX11_image_30 rfl (lv_at hl 0 rfl) ?_
      refine pg_i (k := 11) (j := 12) (f := 1112) hx hb hown hU iu11 hw Ta0 (by decide) rfl (hU _ tw375) rfl dX11_image_31 ?_
      obtain ⟨hb14, hb15, hm⟩ := hm
      refine pn_new (k := 5) hx hb hown hU iu5 tyX5_ok (hU _ tw346) (hU _ tw347) (hU _ tw13) hw (by decide) rfl (by decide) (by show _ ≤ mc; omega) (by show _ ≤ ms; omega) dX11_image_34 (fun q12 H hf13 hw => ?_)
      replace hm := hm q12 hf13
      have Tq11 : TY (nO S_1 q12 5) q11 15 := ty_ext (ext_nO hf13) Tq11
      have Ta0 : TY (nO S_1 q12 5) a0 11 := ty_ext (ext_nO hf13) Ta0
      have hE : Ext S0 (nO S_1 q12 5) := Ext.tr hE (ext_nO hf13)
      have Tq12 : TY (nO S_1 q12 5) q12 5 := ty_nO _ _ _
      refine W.widen (k := 1) (n := 2) (by omega) (by omega) ?_
      have hcc : 1 + (mc - (1)) ≤ mc := by omega
      have hss : 2 + (ms - (2)) ≤ ms := by omega
      refine lv_dup hx hb dX11_image_37 rfl ?_
      obtain ⟨c17, s18, hb19, hb20, hm⟩ := hm
      refine pw_wv (va_runIN (As := []) (rest := [.ref q12, .int (pI S_1 1112 a0), .ref q11]) ⟨hx, hb, hml, hown, hU⟩ (cw_X5_init l C X n (nO S_1 q12 5) hw.wf _ q12 (Tq12) c17 s18 _ hm) ⟨va_cnB (host := "WickNights") 0 hU (pq_g1 tc_X5_init) rfl rfl rfl (hw.nw 81 rfl) (hU _ tw13) cd_X5_init.2 ⟨Nat.le_of_ble_eq_true rfl, Nat.le_of_ble_eq_true rfl⟩, rfl, hU _ tw349⟩ (pw_preS hw) rfl rfl hl.1 rfl (lv_room (Nat.le_of_ble_eq_true rfl)) dX11_image_38 ⟨by show _ ≤ mc; omega, by show _ ≤ ms; omega⟩) hw (fun S_16 H locs hm hw hx21 => ?_)
      have Tq11 : TY S_16 q11 15 := ty_ext hx21 Tq11
      have Tq12 : TY S_16 q12 5 := ty_ext hx21 Tq12
      have Ta0 : TY S_16 a0 11 := ty_ext hx21 Ta0
      have hE : Ext S0 S_16 := Ext.tr hE hx21
      refine W.widen (k := 1 + c17) (n := 2 + s18) (by omega) (by omega) ?_
      have hcc : 1 + c17 + (mc - (1 + c17)) ≤ mc := by omega
      have hss : 2 + s18 + (ms - (2 + s18)) ≤ ms := by omega
      obtain ⟨hi22, hm⟩ := hm
      refine pw_aastP hx hb hw Tq11 Tq12 hi22 dX11_image_41 (fun H locs hw => ?_)
      exact wpb_X11_image_42 cx C X S0 n Q mc ms a0 (sQ S_16 q11 (Int32.toNatClampNeg (pI S_1 1112 a0)) (some q12)) _ _ _ (1 + c17) (2 + s18) (mc - (1 + c17)) (ms - (2 + s18)) hcc hss hw hE Ta0 (lv_sub hl [0] rfl) hm
    · rw [if_neg ho9] at hm
      obtain ⟨q10, hq10⟩ := Option.ne_none_iff_exists'.mp ho9
      rw [hq10]
      refine lv_ifnonnull (tgt := 42) hx hb dX11_image_23 (by decide) ?_
      exact wpb_X11_image_42 cx C X S0 n Q mc ms a0 S_1 _ _ _ (0) (0) mc ms hcc hss hw hE Ta0 (lv_sub hl [0] rfl) hm
  · rw [if_pos h6] at hm
    refine lv_iconst (v := (-1)) hx hb dX11_image_12 (by decide) ?_
    exact pw_wiret hx hb hr rfl hlk hw hE hm (by omega) (by omega) dX11_image_13
abbrev rw_X11_restore (mc ms : Nat) : Room := { frames := 5, cells := mc, slots := ms, locals := 165 }
def wp_X11_restore (n : Nat) (a0 : Nat) (S0 : pq_S) (mc ms : Nat) (Q : (Int32 → pq_S → Prop)) : Prop := ∃ r3 S_1, m_X11_isWithin n (pI S0 1112 a0) 1 3 S0 = some (r3, S_1) ∧ (if r3 = 0 then Q (-1) S_1 else ∃ q7 : Nat, (pR S_1 1110 a0) = some q7 ∧ ((ix ((pI S_1 1112 a0) - (1 : Int32)) (pN S_1 q7)) ∧ (if (pQ S_1 q7 (Int32.toNatClampNeg ((pI S_1 1112 a0) - (1 : Int32)))) = none then Q (-1) S_1 else ∃ q11 : Nat, (pR (sI S_1 1112 a0 ((pI S_1 1112 a0) - (1 : Int32))) 1110 a0) = some q11 ∧ ((ix (pI (sI S_1 1112 a0 ((pI S_1 1112 a0) - (1 : Int32))) 1112 a0) (pN (sI S_1 1112 a0 ((pI S_1 1112 a0) - (1 : Int32))) q11)) ∧ (∃ q13 : Nat, (pQ (sI S_1 1112 a0 ((pI S_1 1112 a0) - (1 : Int32))) q11 (Int32.toNatClampNeg (pI (sI S_1 1112 a0 ((pI S_1 1112 a0) - (1 : Int32))) 1112 a0))) = some q13 ∧ (∃ q14 : Nat, (pR (sI S_1 1112 a0 ((pI S_1 1112 a0) - (1 : Int32))) 1101 a0) = some q14 ∧ (∃ q15 : Nat, (pR (sI S_1 1112 a0 ((pI S_1 1112 a0) - (1 : Int32))) 701 q14) = some q15 ∧ (∃ S_16 : pq_S, m_X5_pop n q13 q15 (sI S_1 1112 a0 ((pI S_1 1112 a0) - (1 : Int32))) = some S_16 ∧ (∃ q19 : Nat, (pR S_16 1109 a0) = some q19 ∧ (∃ q20 : Nat, (pR S_16 1110 a0) = some q20 ∧ ((ix (pI S_16 1112 a0) (pN S_16 q20)) ∧ (∃ q22 : Nat, (pQ S_16 q20 (Int32.toNatClampNeg (pI S_16 1112 a0))) = some q22 ∧ (∃ c24 s25 : Nat, c24 ≤ mc ∧ s25 ≤ ms ∧ wp_X5_copyFrom n q19 q22 S_16 c24 s25 (fun S_23 => Q (pI (sI S_23 1114 a0 0) 1112 a0) (sI S_23 1114 a0 0)))))))))))))))
theorem tc_X11_restore : Cond.code yX11_restore cX11_restore 1 (some .int) ∈ pq_U := tw469
theorem cd_X11_restore : yX11_restore.cls = RX11 ∧ yX11_restore.cls ≠ "java/lang/invoke/MethodHandle" ∧ yX11_restore.cls ≠ "java/lang/invoke/VarHandle" ∧ (parseMethodDescriptor yX11_restore.desc).map (fun d => d.parameters.length) = some 0 := by decide +kernel
set_option maxHeartbeats 4000000 in
set_option maxRecDepth 100000 in
theorem cw_X11_restore (l : Launch) (C : pq_C) (X : va_W) (n : Nat) (S0 : pq_S) (hF : WF S0) (sz : Nat) (a0 : Nat) (Ta0 : TY S0 a0 11) (mc ms : Nat) (Q : (Int32 → pq_S → Prop)) (hm : wp_X11_restore n a0 S0 mc ms Q) : Met l yX11_restore (.code yX11_restore cX11_restore 1 (some .int) :: pq_U) (rw_X11_restore mc ms) (va_Pc [.ref a0] (CPre C X S0 sz)) (QwI C X S0 sz Q) mc ms (pq_F C X S0 sz) := by
  refine Met.ofW (cc := cX11_restore) (maxL := 1) (ret := (some .int)) (by decide) rfl ?_
  intro p e s m args below meth c s₁ B hml hv
  obtain ⟨rfl, hv⟩ := hv
  have hsz := hv.1
  subst hsz
  have hw := pw_entry hF hv
  have hts := atoms_spec (ws := .code yX11_restore cX11_restore 1 (some .int) :: pq_U) B.pre
  have hU : ∀ w ∈ pq_U, w.before _ s = true := fun w h => hts w (List.mem_cons_of_mem _ h)
  have hx := B.exec
  have hb := B.bytes
  have hr := B.returns
  have hown : s.vm.findClass RX11 = some m.cls := findClass_of_methodNamed B.named
  have hlk := B.notSynchronized
  have hl := lv_entry ([.ref a0]) (n := 1) (Nat.le_of_ble_eq_true rfl)
  rw [lg_entry_eq]
  generalize (lg_sl ([.ref a0]) ++ List.replicate (1 - (lg_sl ([.ref a0])).length) Slot.unset).toArray = ls at hl ⊢
  have hl : lv_has ls 1 [(0, .ref a0)] := hl
  have hE : Ext S0 S0 := Ext.rf _
  have cx : Cx p s m _ meth c cX11_restore 1 RX11 (some .int) := ⟨hx, hb, hml, hown, hU, hr, hlk⟩
  have hcc : 0 + mc ≤ mc := by omega
  have hss : 0 + ms ≤ ms := by omega
  rw [wp_X11_restore] at hm
  refine lv_aload_n hx hb dX11_restore_0 rfl (lv_at hl 0 rfl) ?_
  refine pg_i (k := 11) (j := 12) (f := 1112) hx hb hown hU iu11 hw Ta0 (by decide) rfl (hU _ tw375) rfl dX11_restore_1 ?_
  refine lv_iconst (v := 1) hx hb dX11_restore_4 (by decide) ?_
  refine lv_iconst (v := 3) hx hb dX11_restore_5 (by decide) ?_
  obtain ⟨r3, S_1, hq2, hm⟩ := hm
  refine pw_cz (va_runS (As := [.int (pI S0 1112 a0), .int 1, .int 3]) (rest := []) ⟨hx, hb, hml, hown, hU⟩ (c_X11_isWithin l C X n S0 hw.wf _ (pI S0 1112 a0) 1 3  r3 S_1 hq2) ⟨callB_of 3 hU (pq_g1 tc_X11_isWithin) rfl rfl rfl (hU _ tw1) (hU _ tw453) cd_X11_isWithin.2 ⟨Nat.le_of_ble_eq_true rfl, Nat.le_of_ble_eq_true rfl⟩, hU _ tw454⟩ (pw_preS hw) rfl rfl hl.1 rfl (lv_room (Nat.le_of_ble_eq_true rfl)) dX11_restore_6 ⟨by show _ ≤ mc; omega, by show _ ≤ ms; omega⟩) hw (fun H locs hw hx4 hz5 => ?_)
  have Ta0 : TY S_1 a0 11 := ty_ext hx4 Ta0
  have hE : Ext S0 S_1 := Ext.tr hE hx4
  refine lv_if_eq (tgt := 26) hx hb dX11_restore_9 (by decide) (fun h6 => ?_) (fun h6 => ?_)
  · rw [if_pos h6] at hm
    refine lv_iconst (v := (-1)) hx hb dX11_restore_26 (by decide) ?_
    exact pw_wiret hx hb hr rfl hlk hw hE hm (by omega) (by omega) dX11_restore_27
  · rw [if_neg h6] at hm
    refine lv_aload_n hx hb dX11_restore_12 rfl (lv_at hl 0 rfl) ?_
    obtain ⟨q7, hq7, hm⟩ := hm
    have Tq7 : TY S_1 q7 15 := hw.wf.ref (k := 11) (j := 10) Ta0 (by decide) (by decide) hq7
    refine pg_rb (k := 11) (j := 10) (f := 1110) hx hb hown hU iu11 hw Ta0 (by decide) rfl (hU _ tw373) rfl hq7 dX11_restore_13 ?_
    refine lv_aload_n hx hb dX11_restore_16 rfl (lv_at hl 0 rfl) ?_
    refine pg_i (k := 11) (j := 12) (f := 1112) hx hb hown hU iu11 hw Ta0 (by decide) rfl (hU _ tw375) rfl dX11_restore_17 ?_
    refine lv_iconst (v := 1) hx hb dX11_restore_20 (by decide) ?_
    refine lv_isub hx hb dX11_restore_21 ?_
    obtain ⟨hi8, hm⟩ := hm
    refine pw_aaldP hx hb hw Tq7 hi8 dX11_restore_22 ?_
    by_cases ho9 : (pQ S_1 q7 (Int32.toNatClampNeg ((pI S_1 1112 a0) - (1 : Int32)))) = none
    · rw [if_pos ho9] at hm
      rw [ho9]
      refine lv_ifnonnullN hx hb dX11_restore_23 ?_
      refine lv_iconst (v := (-1)) hx hb dX11_restore_26 (by decide) ?_
      exact pw_wiret hx hb hr rfl hlk hw hE hm (by omega) (by omega) dX11_restore_27
    · rw [if_neg ho9] at hm
      obtain ⟨q10, hq10⟩ := Option.ne_none_iff_exists'.mp ho9
      rw [hq10]
      refine lv_ifnonnull (tgt := 28) hx hb dX11_restore_23 (by decide) ?_
      refine lv_aload_n hx hb dX11_restore_28 rfl (lv_at hl 0 rfl) ?_
      refine lv_dup hx hb dX11_restore_29 rfl ?_
      refine pg_i (k := 11) (j := 12) (f := 1112) hx hb hown hU iu11 hw Ta0 (by decide) rfl (hU _ tw375) rfl dX11_restore_30 ?_
      refine lv_iconst (v := 1) hx hb dX11_restore_33 (by decide) ?_
      refine lv_isub hx hb dX11_restore_34 ?_
      refine pp_i (k := 11) (j := 12) (f := 1112) hx hb hown hU iu11 tyX11_ok nmX11 hw Ta0 (by decide) rfl (hU _ tw375) rfl rfl rfl dX11_restore_35 (fun H locs hw => ?_)
      refine lv_aload_n hx hb dX11_restore_38 rfl (lv_at hl 0 rfl) ?_
      obtain ⟨q11, hq11, hm⟩ := hm
      have Tq11 : TY (sI S_1 1112 a0 ((pI S_1 1112 a0) - (1 : Int32))) q11 15 := hw.wf.ref (k := 11) (j := 10) Ta0 (by decide) (by decide) hq11
      refine pg_rb (k := 11) (j := 10) (f := 1110) hx hb hown hU iu11 hw Ta0 (by decide) rfl (hU _ tw373) rfl hq11 dX11_restore_39 ?_
      refine lv_aload_n hx hb dX11_restore_42 rfl (lv_at hl 0 rfl) ?_
      refine pg_i (k := 11) (j := 12) (f := 1112) hx hb hown hU iu11 hw Ta0 (by decide) rfl (hU _ tw375) rfl dX11_restore_43 ?_
      obtain ⟨hi12, hm⟩ := hm
      obtain ⟨q13, hq13, hm⟩ := hm
      have Tq13 : TY (sI S_1 1112 a0 ((pI S_1 1112 a0) - (1 : Int32))) q13 5 := hw.wf.2.1 _ _ _ Tq11 hq13
      refine pw_aaldPb hx hb hw Tq11 hi12 hq13 dX11_restore_46 ?_
      refine lv_aload_n hx hb dX11_restore_47 rfl (lv_at hl 0 rfl) ?_
      obtain ⟨q14, hq14, hm⟩ := hm
      have Tq14 : TY (sI S_1 1112 a0 ((pI S_1 1112 a0) - (1 : Int32))) q14 7 := hw.wf.ref (k := 11) (j := 1) Ta0 (by decide) (by decide) hq14
      refine pg_rb (k := 11) (j := 1) (f := 1101) hx hb hown hU iu11 hw Ta0 (by decide) rfl (hU _ tw364) rfl hq14 dX11_restore_48 ?_
      obtain ⟨q15, hq15, hm⟩ := hm
      have Tq15 : TY (sI S_1 1112 a0 ((pI S_1 1112 a0) - (1 : Int32))) q15 8 := hw.wf.ref (k := 7) (j := 1) Tq14 (by decide) (by decide) hq15
      refine pgN_rb (k := 7) (j := 1) (f := 701) hx hb hown hU iu7 hw Tq14 (by decide) rfl 59 rfl rfl hq15 dX11_restore_51 ?_
      obtain ⟨S_16, hq17, hm⟩ := hm
      refine pw_cv (va_runVN (As := [.ref q15]) (rest := []) ⟨hx, hb, hml, hown, hU⟩ (c_X5_pop l C X n (sI S_1 1112 a0 ((pI S_1 1112 a0) - (1 : Int32))) hw.wf _ q13 q15 (Tq13) (Tq15) S_16 hq17) ⟨va_cnB (host := "WickNights") 1 hU (pq_g1 tc_X5_pop) rfl rfl rfl (hw.nw 84 rfl) (hU _ tw13) cd_X5_pop.2 ⟨Nat.le_of_ble_eq_true rfl, Nat.le_of_ble_eq_true rfl⟩, hU _ tw433, hU _ ts1⟩ (pw_preV hw Tq13 (by decide) rfl) rfl rfl hl.1 rfl (lv_room (Nat.le_of_ble_eq_true rfl)) dX11_restore_54 ⟨by show _ ≤ mc; omega, by show _ ≤ ms; omega⟩) hw (fun H locs hw hx18 => ?_)
      have Ta0 : TY S_16 a0 11 := ty_ext hx18 Ta0
      have hE : Ext S0 S_16 := Ext.tr hE hx18
      refine lv_aload_n hx hb dX11_restore_57 rfl (lv_at hl 0 rfl) ?_
      obtain ⟨q19, hq19, hm⟩ := hm
      have Tq19 : TY S_16 q19 5 := hw.wf.ref (k := 11) (j := 9) Ta0 (by decide) (by decide) hq19
      refine pg_rb (k := 11) (j := 9) (f := 1109) hx hb hown hU iu11 hw Ta0 (by decide) rfl (hU _ tw372) rfl hq19 dX11_restore_58 ?_
      refine lv_aload_n hx hb dX11_restore_61 rfl (lv_at hl 0 rfl) ?_
      obtain ⟨q20, hq20, hm⟩ := hm
      have Tq20 : TY S_16 q20 15 := hw.wf.ref (k := 11) (j := 10) Ta0 (by decide) (by decide) hq20
      refine pg_rb (k := 11) (j := 10) (f := 1110) hx hb hown hU iu11 hw Ta0 (by decide) rfl (hU _ tw373) rfl hq20 dX11_restore_62 ?_
      refine lv_aload_n hx hb dX11_restore_65 rfl (lv_at hl 0 rfl) ?_
      refine pg_i (k := 11) (j := 12) (f := 1112) hx hb hown hU iu11 hw Ta0 (by decide) rfl (hU _ tw375) rfl dX11_restore_66 ?_
      obtain ⟨hi21, hm⟩ := hm
      obtain ⟨q22, hq22, hm⟩ := hm
      have Tq22 : TY S_16 q22 5 := hw.wf.2.1 _ _ _ Tq20 hq22
      refine pw_aaldPb hx hb hw Tq20 hi21 hq22 dX11_restore_69 ?_
      obtain ⟨c24, s25, hb26, hb27, hm⟩ := hm
      refine pw_wv (va_runVN (As := [.ref q22]) (rest := []) ⟨hx, hb, hml, hown, hU⟩ (cw_X5_copyFrom l C X n S_16 hw.wf _ q19 q22 (Tq19) (Tq22) c24 s25 _ hm) ⟨va_cnB (host := "WickNights") 1 hU (pq_g1 tc_X5_copyFrom) rfl rfl rfl (hw.nw 87 rfl) (hU _ tw13) cd_X5_copyFrom.2 ⟨Nat.le_of_ble_eq_true rfl, Nat.le_of_ble_eq_true rfl⟩, hU _ tw458, hU _ ts4⟩ (pw_preV hw Tq19 (by decide) rfl) rfl rfl hl.1 rfl (lv_room (Nat.le_of_ble_eq_true rfl)) dX11_restore_70 ⟨by show _ ≤ mc; omega, by show _ ≤ ms; omega⟩) hw (fun S_23 H locs hm hw hx28 => ?_)
      have Ta0 : TY S_23 a0 11 := ty_ext hx28 Ta0
      have hE : Ext S0 S_23 := Ext.tr hE hx28
      refine W.widen (k := c24) (n := s25) (by omega) (by omega) ?_
      have hcc : c24 + (mc - (c24)) ≤ mc := by omega
      have hss : s25 + (ms - (s25)) ≤ ms := by omega
      refine lv_aload_n hx hb dX11_restore_73 rfl (lv_at hl 0 rfl) ?_
      refine lv_iconst (v := 0) hx hb dX11_restore_74 (by decide) ?_
      refine pp_i (k := 11) (j := 14) (f := 1114) hx hb hown hU iu11 tyX11_ok nmX11 hw Ta0 (by decide) rfl (hU _ tw377) rfl rfl rfl dX11_restore_75 (fun H locs hw => ?_)
      refine lv_aload_n hx hb dX11_restore_78 rfl (lv_at hl 0 rfl) ?_
      refine pg_i (k := 11) (j := 12) (f := 1112) hx hb hown hU iu11 hw Ta0 (by decide) rfl (hU _ tw375) rfl dX11_restore_79 ?_
      exact pw_wiret hx hb hr rfl hlk hw hE hm (by omega) (by omega) dX11_restore_82
