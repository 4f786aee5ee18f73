abbrev rm_J7_fill_53178 : Room := { frames := 0, cells := 0, slots := 0, locals := 0 }
def b_J7_fill_53178_5 (n : Nat) : Nat → Nat → Int32 → Int32 → Int32 → pq_S → Option pq_S
  | 0, _, _, _, _, _ => none
  | f + 1, a0, x1, x2, x3, S => if x3 ≤ x2 then some S else ck (ix x2 (pN S a0)) (dix _ _) (b_J7_fill_53178_5 n f a0 x1 (x2 + 1) x3 (sA S a0 (Int32.toNatClampNeg x2) x1))
set_option maxHeartbeats 4000000 in
set_option maxRecDepth 100000 in
theorem wb_J7_fill_53178_5 {p : Program} {l : Launch} {e : Env} {s : State} {m : MethodId} {args : Array Value} {below : List Frame} {meth : Method} {c : Code} (cx : Cx p s m args meth c cJ7_fill_53178 4 RJ7 none) (C : pq_C) (X : va_W) (S0 : pq_S) (n : Nat) (S1 : pq_S) : ∀ (f : Nat) (a0 : Nat) (x1 : Int32) (x2 : Int32) (x3 : Int32) (S : pq_S) (H : Heap) (locs : List Loc) (ls : Array Slot), PW C X S (pq_F C X S0 s.heap.size) H locs s → Ext S0 S → TY S a0 14 → lv_has ls 4 [(0, .ref a0), (1, .int x1), (2, .int x2), (3, .int x3)] → b_J7_fill_53178_5 n f a0 x1 x2 x3 S = some S1 → W p l e rm_J7_fill_53178 s m args below meth c H locs 0 0 (MQ below (QcV C X S0 s.heap.size S1) args s 0 0 (pq_F C X S0 s.heap.size)) (F0 m 5 ls []) := by
  obtain ⟨hx, hb, hml, hown, hU, hr, hlk⟩ := id cx
  intro f
  induction f with
  | zero =>
    intro a0 x1 x2 x3 S H locs ls hw hE Ta0 hl hm
    cases hm
  | succ f ih =>
    intro a0 x1 x2 x3 S H locs ls hw hE Ta0 hl hm
    rw [b_J7_fill_53178_5] at hm
    refine lv_iload_n hx hb dJ7_fill_53178_5 rfl (lv_at hl 2 rfl) ?_
    refine lv_iload_n hx hb dJ7_fill_53178_6 rfl (lv_at hl 3 rfl) ?_
    refine lv_icmp_ge (tgt := 20) hx hb dJ7_fill_53178_7 (by decide) (fun h1 => ?_) (fun h1 => ?_)
    · rw [if_pos h1] at hm
      cases hm
      exact pw_vret hx hb hr hlk hw hE dJ7_fill_53178_20
    · rw [if_neg h1] at hm
      refine lv_aload_n hx hb dJ7_fill_53178_10 rfl (lv_at hl 0 rfl) ?_
      refine lv_iload_n hx hb dJ7_fill_53178_11 rfl (lv_at hl 2 rfl) ?_
      refine lv_iload_n hx hb dJ7_fill_53178_12 rfl (lv_at hl 1 rfl) ?_
      obtain ⟨hi2, hm⟩ := ck_some hm
      refine pw_iast hx hb hw Ta0 hi2 dJ7_fill_53178_13 (fun H locs hw => ?_)
      refine lv_iinc (v := (x2 + 1)) (lv' := [(2, .int (x2 + 1)), (0, .ref a0), (1, .int x1), (3, .int x3)]) hx hb dJ7_fill_53178_14 hl (k := 2) rfl rfl (by decide) rfl (fun ls hl => ?_)
      refine lv_goto (tgt := 5) hx hb dJ7_fill_53178_17 (by decide) ?_
      exact ih a0 x1 (x2 + 1) x3 (sA S a0 (Int32.toNatClampNeg x2) x1) _ _ _ hw hE Ta0 (lv_sub hl [1, 2, 0, 3] rfl) hm
def m_J7_fill_53178 (n : Nat) (a0 : Nat) (x1 : Int32) (S0 : pq_S) : Option pq_S := b_J7_fill_53178_5 n n a0 x1 0 (Int32.ofNat (pN S0 a0)) S0
theorem tc_J7_fill_53178 : Cond.code yJ7_fill_53178 cJ7_fill_53178 4 none ∈ pq_U := tw337
theorem cd_J7_fill_53178 : yJ7_fill_53178.cls = RJ7 ∧ yJ7_fill_53178.cls ≠ "java/lang/invoke/MethodHandle" ∧ yJ7_fill_53178.cls ≠ "java/lang/invoke/VarHandle" ∧ (parseMethodDescriptor yJ7_fill_53178.desc).map (fun d => d.parameters.length) = some 2 := by decide +kernel
set_option maxHeartbeats 4000000 in
set_option maxRecDepth 100000 in
theorem c_J7_fill_53178 (l : Launch) (C : pq_C) (X : va_W) (n : Nat) (S0 : pq_S) (hF : WF S0) (sz : Nat) (a0 : Nat) (x1 : Int32) (Ta0 : TY S0 a0 14) (S1 : pq_S) (hm : m_J7_fill_53178 n a0 x1 S0 = some S1) : MV l yJ7_fill_53178 (.code yJ7_fill_53178 cJ7_fill_53178 4 none :: pq_U) rm_J7_fill_53178 C X S0 sz [.ref a0, .int x1] S1 0 0 := by
  refine Met.ofW (cc := cJ7_fill_53178) (maxL := 4) (ret := none) (by decide) rfl ?_
  intro p e s m args below meth c s₁ B hml hv
  obtain ⟨rfl, hv⟩ := hv
  have hsz := hv.1
  subst hsz
  have hw := pw_entry hF hv
  have hts := atoms_spec (ws := .code yJ7_fill_53178 cJ7_fill_53178 4 none :: pq_U) B.pre
  have hU : ∀ w ∈ pq_U, w.before _ s = true := fun w h => hts w (List.mem_cons_of_mem _ h)
  have hx := B.exec
  have hb := B.bytes
  have hr := B.returns
  have hown : s.vm.findClass RJ7 = some m.cls := findClass_of_methodNamed B.named
  have hlk := B.notSynchronized
  have hl := lv_entry ([.ref a0, .int x1]) (n := 4) (Nat.le_of_ble_eq_true rfl)
  rw [lg_entry_eq]
  generalize (lg_sl ([.ref a0, .int x1]) ++ List.replicate (4 - (lg_sl ([.ref a0, .int x1])).length) Slot.unset).toArray = ls at hl ⊢
  have hl : lv_has ls 4 [(0, .ref a0), (1, .int x1)] := hl
  have hE : Ext S0 S0 := Ext.rf _
  have cx : Cx p s m _ meth c cJ7_fill_53178 4 RJ7 none := ⟨hx, hb, hml, hown, hU, hr, hlk⟩
  rw [m_J7_fill_53178] at hm
  refine lv_iconst (v := 0) hx hb dJ7_fill_53178_0 (by decide) ?_
  refine lv_istore_n (lv' := [(2, .int 0), (0, .ref a0), (1, .int x1)]) hx hb dJ7_fill_53178_1 rfl hl (by decide) rfl (fun ls hl => ?_)
  refine lv_aload_n hx hb dJ7_fill_53178_2 rfl (lv_at hl 1 rfl) ?_
  refine pw_alenI (v := (Int32.ofNat (pN S0 a0))) hx hb hw Ta0 rfl dJ7_fill_53178_3 ?_
  refine lv_istore_n (lv' := [(3, .int (Int32.ofNat (pN S0 a0))), (2, .int 0), (0, .ref a0), (1, .int x1)]) hx hb dJ7_fill_53178_4 rfl hl (by decide) rfl (fun ls hl => ?_)
  exact wb_J7_fill_53178_5 cx C X S0 n S1 n a0 x1 0 (Int32.ofNat (pN S0 a0)) S0 _ _ _ hw hE Ta0 (lv_sub hl [2, 3, 1, 0] rfl) hm
abbrev rm_X11_fault : Room := { frames := 0, cells := 0, slots := 0, locals := 0 }
def m_X11_fault (n : Nat) (a0 : Nat) (S0 : pq_S) : Option (Int32 × pq_S) := some ((pI S0 1113 a0), S0)
theorem tc_X11_fault : Cond.code yX11_fault cX11_fault 1 (some .int) ∈ pq_U := tw426
theorem cd_X11_fault : yX11_fault.cls = RX11 ∧ yX11_fault.cls ≠ "java/lang/invoke/MethodHandle" ∧ yX11_fault.cls ≠ "java/lang/invoke/VarHandle" ∧ (parseMethodDescriptor yX11_fault.desc).map (fun d => d.parameters.length) = some 0 := by decide +kernel
set_option maxHeartbeats 4000000 in
set_option maxRecDepth 100000 in
theorem c_X11_fault (l : Launch) (C : pq_C) (X : va_W) (n : Nat) (S0 : pq_S) (hF : WF S0) (sz : Nat) (a0 : Nat) (Ta0 : TY S0 a0 11) (r : Int32) (S1 : pq_S) (hm : m_X11_fault n a0 S0 = some (r, S1)) : MI l yX11_fault (.code yX11_fault cX11_fault 1 (some .int) :: pq_U) rm_X11_fault C X S0 sz [.ref a0] r S1 0 0 := by
  refine Met.ofW (cc := cX11_fault) (maxL := 1) (ret := (some .int)) (by decide) rfl ?_
  intro p e s m args below meth c s₁ B hml hv
  obtain ⟨rfl, hv⟩ := hv
  have hsz := hv.1
  subst hsz
  have hw := pw_entry hF hv
  have hts := atoms_spec (ws := .code yX11_fault cX11_fault 1 (some .int) :: pq_U) B.pre
  have hU : ∀ w ∈ pq_U, w.before _ s = true := fun w h => hts w (List.mem_cons_of_mem _ h)
  have hx := B.exec
  have hb := B.bytes
  have hr := B.returns
  have hown : s.vm.findClass RX11 = some m.cls := findClass_of_methodNamed B.named
  have hlk := B.notSynchronized
  have hl := lv_entry ([.ref a0]) (n := 1) (Nat.le_of_ble_eq_true rfl)
  rw [lg_entry_eq]
  generalize (lg_sl ([.ref a0]) ++ List.replicate (1 - (lg_sl ([.ref a0])).length) Slot.unset).toArray = ls at hl ⊢
  have hl : lv_has ls 1 [(0, .ref a0)] := hl
  have hE : Ext S0 S0 := Ext.rf _
  have cx : Cx p s m _ meth c cX11_fault 1 RX11 (some .int) := ⟨hx, hb, hml, hown, hU, hr, hlk⟩
  rw [m_X11_fault] at hm
  refine lv_aload_n hx hb dX11_fault_0 rfl (lv_at hl 0 rfl) ?_
  refine pg_i (k := 11) (j := 13) (f := 1113) hx hb hown hU iu11 hw Ta0 (by decide) rfl (hU _ tw376) rfl dX11_fault_1 ?_
  cases hm
  exact pw_iret hx hb hr rfl hlk hw hE dX11_fault_4
abbrev rm_X11_status : Room := { frames := 0, cells := 0, slots := 0, locals := 0 }
def m_X11_status (n : Nat) (a0 : Nat) (x1 : Int32) (S0 : pq_S) : Option (Int32 × pq_S) := if x1 = 0 then some ((pI S0 1115 a0), S0) else if x1 = 1 then some ((pI S0 1116 a0), S0) else some ((-1), S0)
theorem tc_X11_status : Cond.code yX11_status cX11_status 2 (some .int) ∈ pq_U := tw473
theorem cd_X11_status : yX11_status.cls = RX11 ∧ yX11_status.cls ≠ "java/lang/invoke/MethodHandle" ∧ yX11_status.cls ≠ "java/lang/invoke/VarHandle" ∧ (parseMethodDescriptor yX11_status.desc).map (fun d => d.parameters.length) = some 1 := by decide +kernel
set_option maxHeartbeats 4000000 in
set_option maxRecDepth 100000 in
theorem c_X11_status (l : Launch) (C : pq_C) (X : va_W) (n : Nat) (S0 : pq_S) (hF : WF S0) (sz : Nat) (a0 : Nat) (x1 : Int32) (Ta0 : TY S0 a0 11) (r : Int32) (S1 : pq_S) (hm : m_X11_status n a0 x1 S0 = some (r, S1)) : MI l yX11_status (.code yX11_status cX11_status 2 (some .int) :: pq_U) rm_X11_status C X S0 sz [.ref a0, .int x1] r S1 0 0 := by
  refine Met.ofW (cc := cX11_status) (maxL := 2) (ret := (some .int)) (by decide) rfl ?_
  intro p e s m args below meth c s₁ B hml hv
  obtain ⟨rfl, hv⟩ := hv
  have hsz := hv.1
  subst hsz
  have hw := pw_entry hF hv
  have hts := atoms_spec (ws := .code yX11_status cX11_status 2 (some .int) :: pq_U) B.pre
  have hU : ∀ w ∈ pq_U, w.before _ s = true := fun w h => hts w (List.mem_cons_of_mem _ h)
  have hx := B.exec
  have hb := B.bytes
  have hr := B.returns
  have hown : s.vm.findClass RX11 = some m.cls := findClass_of_methodNamed B.named
  have hlk := B.notSynchronized
  have hl := lv_entry ([.ref a0, .int x1]) (n := 2) (Nat.le_of_ble_eq_true rfl)
  rw [lg_entry_eq]
  generalize (lg_sl ([.ref a0, .int x1]) ++ List.replicate (2 - (lg_sl ([.ref a0, .int x1])).length) Slot.unset).toArray = ls at hl ⊢
  have hl : lv_has ls 2 [(0, .ref a0), (1, .int x1)] := hl
  have hE : Ext S0 S0 := Ext.rf _
  have cx : Cx p s m _ meth c cX11_status 2 RX11 (some .int) := ⟨hx, hb, hml, hown, hU, hr, hlk⟩
  rw [m_X11_status] at hm
  refine lv_iload_n hx hb dX11_status_0 rfl (lv_at hl 1 rfl) ?_
  refine lv_if_ne (tgt := 9) hx hb dX11_status_1 (by decide) (fun h1 => ?_) (fun h1 => ?_)
  · rw [if_neg h1] at hm
    refine lv_iload_n hx hb dX11_status_9 rfl (lv_at hl 1 rfl) ?_
    refine lv_iconst (v := 1) hx hb dX11_status_10 (by decide) ?_
    refine lv_icmp_ne (tgt := 21) hx hb dX11_status_11 (by decide) (fun h2 => ?_) (fun h2 => ?_)
    · rw [if_neg h2] at hm
      refine lv_iconst (v := (-1)) hx hb dX11_status_21 (by decide) ?_
      cases hm
      exact pw_iret hx hb hr rfl hlk hw hE dX11_status_22
    · rw [if_pos h2] at hm
      refine lv_aload_n hx hb dX11_status_14 rfl (lv_at hl 0 rfl) ?_
      refine pg_i (k := 11) (j := 16) (f := 1116) hx hb hown hU iu11 hw Ta0 (by decide) rfl (hU _ tw379) rfl dX11_status_15 ?_
      refine lv_goto (tgt := 22) hx hb dX11_status_18 (by decide) ?_
      cases hm
      exact pw_iret hx hb hr rfl hlk hw hE dX11_status_22
  · rw [if_pos h1] at hm
    refine lv_aload_n hx hb dX11_status_4 rfl (lv_at hl 0 rfl) ?_
    refine pg_i (k := 11) (j := 15) (f := 1115) hx hb hown hU iu11 hw Ta0 (by decide) rfl (hU _ tw378) rfl dX11_status_5 ?_
    cases hm
    exact pw_iret hx hb hr rfl hlk hw hE dX11_status_8
abbrev rm_X11_count : Room := { frames := 0, cells := 0, slots := 0, locals := 0 }
def m_X11_count (n : Nat) (a0 : Nat) (x1 : Int32) (S0 : pq_S) : Option (Int32 × pq_S) := if x1 = 0 then some ((pI S0 1112 a0), S0) else if x1 = 1 then Option.bind (pR S0 1100 a0) fun q3 => some ((pI S0 1001 q3), S0) else if x1 = 2 then Option.bind (pR S0 1109 a0) fun q5 => some ((pI S0 501 q5), S0) else some ((-1), S0)
theorem tc_X11_count : Cond.code yX11_count cX11_count 2 (some .int) ∈ pq_U := tw477
theorem cd_X11_count : yX11_count.cls = RX11 ∧ yX11_count.cls ≠ "java/lang/invoke/MethodHandle" ∧ yX11_count.cls ≠ "java/lang/invoke/VarHandle" ∧ (parseMethodDescriptor yX11_count.desc).map (fun d => d.parameters.length) = some 1 := by decide +kernel
set_option maxHeartbeats 4000000 in
set_option maxRecDepth 100000 in
theorem c_X11_count (l : Launch) (C : pq_C) (X : va_W) (n : Nat) (S0 : pq_S) (hF : WF S0) (sz : Nat) (a0 : Nat) (x1 : Int32) (Ta0 : TY S0 a0 11) (r : Int32) (S1 : pq_S) (hm : m_X11_count n a0 x1 S0 = some (r, S1)) : MI l yX11_count (.code yX11_count cX11_count 2 (some .int) :: pq_U) rm_X11_count C X S0 sz [.ref a0, .int x1] r S1 0 0 := by
  refine Met.ofW (cc := cX11_count) (maxL := 2) (ret := (some .int)) (by decide) rfl ?_
  intro p e s m args below meth c s₁ B hml hv
  obtain ⟨rfl, hv⟩ := hv
  have hsz := hv.1
  subst hsz
  have hw := pw_entry hF hv
  have hts := atoms_spec (ws := .code yX11_count cX11_count 2 (some .int) :: pq_U) B.pre
  have hU : ∀ w ∈ pq_U, w.before _ s = true := fun w h => hts w (List.mem_cons_of_mem _ h)
  have hx := B.exec
  have hb := B.bytes
  have hr := B.returns
  have hown : s.vm.findClass RX11 = some m.cls := findClass_of_methodNamed B.named
  have hlk := B.notSynchronized
  have hl := lv_entry ([.ref a0, .int x1]) (n := 2) (Nat.le_of_ble_eq_true rfl)
  rw [lg_entry_eq]
  generalize (lg_sl ([.ref a0, .int x1]) ++ List.replicate (2 - (lg_sl ([.ref a0, .int x1])).length) Slot.unset).toArray = ls at hl ⊢
  have hl : lv_has ls 2 [(0, .ref a0), (1, .int x1)] := hl
  have hE : Ext S0 S0 := Ext.rf _
  have cx : Cx p s m _ meth c cX11_count 2 RX11 (some .int) := ⟨hx, hb, hml, hown, hU, hr, hlk⟩
  rw [m_X11_count] at hm
  refine lv_iload_n hx hb dX11_count_0 rfl (lv_at hl 1 rfl) ?_
  by_cases h1 : x1 = 0
  · rw [if_pos h1] at hm
    refine lv_tsIn (v := 0) h1 ?_
    refine lv_tableIn (tgt := 28) hx hb dX11_count_1 (by decide) (by decide) rfl (by decide) ?_
    refine lv_aload_n hx hb dX11_count_28 rfl (lv_at hl 0 rfl) ?_
    refine pg_i (k := 11) (j := 12) (f := 1112) hx hb hown hU iu11 hw Ta0 (by decide) rfl (hU _ tw375) rfl dX11_count_29 ?_
    cases hm
    exact pw_iret hx hb hr rfl hlk hw hE dX11_count_32
  · rw [if_neg h1] at hm
    by_cases h2 : x1 = 1
    · rw [if_pos h2] at hm
      refine lv_tsIn (v := 1) h2 ?_
      refine lv_tableIn (tgt := 33) hx hb dX11_count_1 (by decide) (by decide) rfl (by decide) ?_
      refine lv_aload_n hx hb dX11_count_33 rfl (lv_at hl 0 rfl) ?_
      obtain ⟨q3, hq3, hm⟩ := bd_some hm
      have Tq3 : TY S0 q3 10 := hw.wf.ref (k := 11) (j := 0) Ta0 (by decide) (by decide) hq3
      refine pg_rb (k := 11) (j := 0) (f := 1100) hx hb hown hU iu11 hw Ta0 (by decide) rfl (hU _ tw363) rfl hq3 dX11_count_34 ?_
      refine pgN_i (k := 10) (j := 1) (f := 1001) hx hb hown hU iu10 hw Tq3 (by decide) rfl 1 rfl rfl dX11_count_37 ?_
      cases hm
      exact pw_iret hx hb hr rfl hlk hw hE dX11_count_40
    · rw [if_neg h2] at hm
      by_cases h4 : x1 = 2
      · rw [if_pos h4] at hm
        refine lv_tsIn (v := 2) h4 ?_
        refine lv_tableIn (tgt := 41) hx hb dX11_count_1 (by decide) (by decide) rfl (by decide) ?_
        refine lv_aload_n hx hb dX11_count_41 rfl (lv_at hl 0 rfl) ?_
        obtain ⟨q5, hq5, hm⟩ := bd_some hm
        have Tq5 : TY S0 q5 5 := hw.wf.ref (k := 11) (j := 9) Ta0 (by decide) (by decide) hq5
        refine pg_rb (k := 11) (j := 9) (f := 1109) hx hb hown hU iu11 hw Ta0 (by decide) rfl (hU _ tw372) rfl hq5 dX11_count_42 ?_
        refine pgN_i (k := 5) (j := 1) (f := 501) hx hb hown hU iu5 hw Tq5 (by decide) rfl 82 rfl rfl dX11_count_45 ?_
        cases hm
        exact pw_iret hx hb hr rfl hlk hw hE dX11_count_48
      · rw [if_neg h4] at hm
        refine lv_tableOut (tgt := 49) hx hb dX11_count_1 (ts_out (lo := 0) (hi := 2) (fun j hj1 hj2 => ?_)) (by decide) ?_
        · have hj : j = 0 ∨ j = 1 ∨ j = 2 := by clear hm; omega
          rcases hj with rfl | rfl | rfl
          · exact h1
          · exact h2
          · exact h4
        refine lv_iconst (v := (-1)) hx hb dX11_count_49 (by decide) ?_
        cases hm
        exact pw_iret hx hb hr rfl hlk hw hE dX11_count_50
abbrev rm_X11_isWithin : Room := { frames := 0, cells := 0, slots := 0, locals := 0 }
def m_X11_isWithin (n : Nat) (x0 : Int32) (x1 : Int32) (x2 : Int32) (S0 : pq_S) : Option (Int32 × pq_S) := if x0 < x1 then some (0, S0) else if x2 < x0 then some (0, S0) else some (1, S0)
theorem tc_X11_isWithin : Cond.code yX11_isWithin cX11_isWithin 3 (some .boolean) ∈ pq_U := tw455
theorem cd_X11_isWithin : yX11_isWithin.cls = RX11 ∧ yX11_isWithin.cls ≠ "java/lang/invoke/MethodHandle" ∧ yX11_isWithin.cls ≠ "java/lang/invoke/VarHandle" ∧ (parseMethodDescriptor yX11_isWithin.desc).map (fun d => d.parameters.length) = some 3 := by decide +kernel
set_option maxHeartbeats 4000000 in
set_option maxRecDepth 100000 in
theorem c_X11_isWithin (l : Launch) (C : pq_C) (X : va_W) (n : Nat) (S0 : pq_S) (hF : WF S0) (sz : Nat) (x0 : Int32) (x1 : Int32) (x2 : Int32)  (r : Int32) (S1 : pq_S) (hm : m_X11_isWithin n x0 x1 x2 S0 = some (r, S1)) : MZ l yX11_isWithin (.code yX11_isWithin cX11_isWithin 3 (some .boolean) :: pq_U) rm_X11_isWithin C X S0 sz [.int x0, .int x1, .int x2] r S1 0 0 := by
  refine Met.ofW (cc := cX11_isWithin) (maxL := 3) (ret := (some .boolean)) (by decide) rfl ?_
  intro p e s m args below meth c s₁ B hml hv
  obtain ⟨rfl, hv⟩ := hv
  have hsz := hv.1
  subst hsz
  have hw := pw_entry hF hv
  have hts := atoms_spec (ws := .code yX11_isWithin cX11_isWithin 3 (some .boolean) :: pq_U) B.pre
  have hU : ∀ w ∈ pq_U, w.before _ s = true := fun w h => hts w (List.mem_cons_of_mem _ h)
  have hx := B.exec
  have hb := B.bytes
  have hr := B.returns
  have hown : s.vm.findClass RX11 = some m.cls := findClass_of_methodNamed B.named
  have hlk := B.notSynchronized
  have hl := lv_entry ([.int x0, .int x1, .int x2]) (n := 3) (Nat.le_of_ble_eq_true rfl)
  rw [lg_entry_eq]
  generalize (lg_sl ([.int x0, .int x1, .int x2]) ++ List.replicate (3 - (lg_sl ([.int x0, .int x1, .int x2])).length) Slot.unset).toArray = ls at hl ⊢
  have hl : lv_has ls 3 [(0, .int x0), (1, .int x1), (2, .int x2)] := hl
  have hE : Ext S0 S0 := Ext.rf _
  have cx : Cx p s m _ meth c cX11_isWithin 3 RX11 (some .boolean) := ⟨hx, hb, hml, hown, hU, hr, hlk⟩
  rw [m_X11_isWithin] at hm
  refine lv_iload_n hx hb dX11_isWithin_0 rfl (lv_at hl 0 rfl) ?_
  refine lv_iload_n hx hb dX11_isWithin_1 rfl (lv_at hl 1 rfl) ?_
  refine lv_icmp_lt (tgt := 14) hx hb dX11_isWithin_2 (by decide) (fun h1 => ?_) (fun h1 => ?_)
  · rw [if_pos h1] at hm
    refine lv_iconst (v := 0) hx hb dX11_isWithin_14 (by decide) ?_
    cases hm
    exact pw_zret hx hb hr bz_0 hlk hw hE dX11_isWithin_15
  · rw [if_neg h1] at hm
    refine lv_iload_n hx hb dX11_isWithin_5 rfl (lv_at hl 0 rfl) ?_
    refine lv_iload_n hx hb dX11_isWithin_6 rfl (lv_at hl 2 rfl) ?_
    refine lv_icmp_gt (tgt := 14) hx hb dX11_isWithin_7 (by decide) (fun h2 => ?_) (fun h2 => ?_)
    · rw [if_pos h2] at hm
      refine lv_iconst (v := 0) hx hb dX11_isWithin_14 (by decide) ?_
      cases hm
      exact pw_zret hx hb hr bz_0 hlk hw hE dX11_isWithin_15
    · rw [if_neg h2] at hm
      refine lv_iconst (v := 1) hx hb dX11_isWithin_10 (by decide) ?_
      refine lv_goto (tgt := 15) hx hb dX11_isWithin_11 (by decide) ?_
      cases hm
      exact pw_zret hx hb hr bz_1 hlk hw hE dX11_isWithin_15
abbrev rm_X11_isDay : Room := { frames := 1, cells := 0, slots := 0, locals := 22 }
def m_X11_isDay (n : Nat) (x0 : Int32) (S0 : pq_S) : Option (Int32 × pq_S) := cb (m_X11_isWithin n x0 0 9999 S0) fun r3 S_1 => some (r3, S_1)
theorem tc_X11_isDay : Cond.code yX11_isDay cX11_isDay 1 (some .boolean) ∈ pq_U := tw1367
theorem cd_X11_isDay : yX11_isDay.cls = RX11 ∧ yX11_isDay.cls ≠ "java/lang/invoke/MethodHandle" ∧ yX11_isDay.cls ≠ "java/lang/invoke/VarHandle" ∧ (parseMethodDescriptor yX11_isDay.desc).map (fun d => d.parameters.length) = some 1 := by decide +kernel
set_option maxHeartbeats 4000000 in
set_option maxRecDepth 100000 in
theorem c_X11_isDay (l : Launch) (C : pq_C) (X : va_W) (n : Nat) (S0 : pq_S) (hF : WF S0) (sz : Nat) (x0 : Int32)  (r : Int32) (S1 : pq_S) (hm : m_X11_isDay n x0 S0 = some (r, S1)) : MZ l yX11_isDay (.code yX11_isDay cX11_isDay 1 (some .boolean) :: pq_U) rm_X11_isDay C X S0 sz [.int x0] r S1 0 0 := by
  refine Met.ofW (cc := cX11_isDay) (maxL := 1) (ret := (some .boolean)) (by decide) rfl ?_
  intro p e s m args below meth c s₁ B hml hv
  obtain ⟨rfl, hv⟩ := hv
  have hsz := hv.1
  subst hsz
  have hw := pw_entry hF hv
  have hts := atoms_spec (ws := .code yX11_isDay cX11_isDay 1 (some .boolean) :: pq_U) B.pre
  have hU : ∀ w ∈ pq_U, w.before _ s = true := fun w h => hts w (List.mem_cons_of_mem _ h)
  have hx := B.exec
  have hb := B.bytes
  have hr := B.returns
  have hown : s.vm.findClass RX11 = some m.cls := findClass_of_methodNamed B.named
  have hlk := B.notSynchronized
  have hl := lv_entry ([.int x0]) (n := 1) (Nat.le_of_ble_eq_true rfl)
  rw [lg_entry_eq]
  generalize (lg_sl ([.int x0]) ++ List.replicate (1 - (lg_sl ([.int x0])).length) Slot.unset).toArray = ls at hl ⊢
  have hl : lv_has ls 1 [(0, .int x0)] := hl
  have hE : Ext S0 S0 := Ext.rf _
  have cx : Cx p s m _ meth c cX11_isDay 1 RX11 (some .boolean) := ⟨hx, hb, hml, hown, hU, hr, hlk⟩
  rw [m_X11_isDay] at hm
  refine lv_iload_n hx hb dX11_isDay_0 rfl (lv_at hl 0 rfl) ?_
  refine lv_iconst (v := 0) hx hb dX11_isDay_1 (by decide) ?_
  refine lv_sipush (v := 9999) hx hb dX11_isDay_2 (by decide) ?_
  obtain ⟨r3, S_1, hq2, hm⟩ := cb_some hm
  refine pw_cz (va_runS (As := [.int x0, .int 0, .int 9999]) (rest := []) ⟨hx, hb, hml, hown, hU⟩ (c_X11_isWithin l C X n S0 hw.wf _ x0 0 9999  r3 S_1 hq2) ⟨callB_of 3 hU (pq_g1 tc_X11_isWithin) rfl rfl rfl (hU _ tw1) (hU _ tw453) cd_X11_isWithin.2 ⟨Nat.le_of_ble_eq_true rfl, Nat.le_of_ble_eq_true rfl⟩, hU _ tw454⟩ (pw_preS hw) rfl rfl hl.1 rfl (lv_room (Nat.le_of_ble_eq_true rfl)) dX11_isDay_5 ⟨Nat.zero_le _, Nat.zero_le _⟩) hw (fun H locs hw hx4 hz5 => ?_)
  have hE : Ext S0 S_1 := Ext.tr hE hx4
  cases hm
  exact pw_zret hx hb hr hz5 hlk hw hE dX11_isDay_8
abbrev rm_X11_isCloudSpan : Room := { frames := 2, cells := 0, slots := 0, locals := 42 }
def m_X11_isCloudSpan (n : Nat) (x0 : Int32) (x1 : Int32) (x2 : Int32) (S0 : pq_S) : Option (Int32 × pq_S) := cb (m_X11_isWithin n x0 0 16 S0) fun r3 S_1 => if r3 = 0 then some (0, S_1) else cb (m_X11_isDay n x1 S_1) fun r9 S_7 => if r9 = 0 then some (0, S_7) else cb (m_X11_isWithin n x2 1 60 S_7) fun r15 S_13 => if r15 = 0 then some (0, S_13) else some (1, S_13)
theorem tc_X11_isCloudSpan : Cond.code yX11_isCloudSpan cX11_isCloudSpan 3 (some .boolean) ∈ pq_U := tw1407
theorem cd_X11_isCloudSpan : yX11_isCloudSpan.cls = RX11 ∧ yX11_isCloudSpan.cls ≠ "java/lang/invoke/MethodHandle" ∧ yX11_isCloudSpan.cls ≠ "java/lang/invoke/VarHandle" ∧ (parseMethodDescriptor yX11_isCloudSpan.desc).map (fun d => d.parameters.length) = some 3 := by decide +kernel
set_option maxHeartbeats 4000000 in
set_option maxRecDepth 100000 in
theorem c_X11_isCloudSpan (l : Launch) (C : pq_C) (X : va_W) (n : Nat) (S0 : pq_S) (hF : WF S0) (sz : Nat) (x0 : Int32) (x1 : Int32) (x2 : Int32)  (r : Int32) (S1 : pq_S) (hm : m_X11_isCloudSpan n x0 x1 x2 S0 = some (r, S1)) : MZ l yX11_isCloudSpan (.code yX11_isCloudSpan cX11_isCloudSpan 3 (some .boolean) :: pq_U) rm_X11_isCloudSpan C X S0 sz [.int x0, .int x1, .int x2] r S1 0 0 := by
  refine Met.ofW (cc := cX11_isCloudSpan) (maxL := 3) (ret := (some .boolean)) (by decide) rfl ?_
  intro p e s m args below meth c s₁ B hml hv
  obtain ⟨rfl, hv⟩ := hv
  have hsz := hv.1
  subst hsz
  have hw := pw_entry hF hv
  have hts := atoms_spec (ws := .code yX11_isCloudSpan cX11_isCloudSpan 3 (some .boolean) :: pq_U) B.pre
  have hU : ∀ w ∈ pq_U, w.before _ s = true := fun w h => hts w (List.mem_cons_of_mem _ h)
  have hx := B.exec
  have hb := B.bytes
  have hr := B.returns
  have hown : s.vm.findClass RX11 = some m.cls := findClass_of_methodNamed B.named
  have hlk := B.notSynchronized
  have hl := lv_entry ([.int x0, .int x1, .int x2]) (n := 3) (Nat.le_of_ble_eq_true rfl)
  rw [lg_entry_eq]
  generalize (lg_sl ([.int x0, .int x1, .int x2]) ++ List.replicate (3 - (lg_sl ([.int x0, .int x1, .int x2])).length) Slot.unset).toArray = ls at hl ⊢
  have hl : lv_has ls 3 [(0, .int x0), (1, .int x1), (2, .int x2)] := hl
  have hE : Ext S0 S0 := Ext.rf _
  have cx : Cx p s m _ meth c cX11_isCloudSpan 3 RX11 (some .boolean) := ⟨hx, hb, hml, hown, hU, hr, hlk⟩
  rw [m_X11_isCloudSpan] at hm
  refine lv_iload_n hx hb dX11_isCloudSpan_0 rfl (lv_at hl 0 rfl) ?_
  refine lv_iconst (v := 0) hx hb dX11_isCloudSpan_1 (by decide) ?_
  refine lv_bipush (v := 16) hx hb dX11_isCloudSpan_2 (by decide) ?_
  obtain ⟨r3, S_1, hq2, hm⟩ := cb_some hm
  refine pw_cz (va_runS (As := [.int x0, .int 0, .int 16]) (rest := []) ⟨hx, hb, hml, hown, hU⟩ (c_X11_isWithin l C X n S0 hw.wf _ x0 0 16  r3 S_1 hq2) ⟨callB_of 3 hU (pq_g1 tc_X11_isWithin) rfl rfl rfl (hU _ tw1) (hU _ tw453) cd_X11_isWithin.2 ⟨Nat.le_of_ble_eq_true rfl, Nat.le_of_ble_eq_true rfl⟩, hU _ tw454⟩ (pw_preS hw) rfl rfl hl.1 rfl (lv_room (Nat.le_of_ble_eq_true rfl)) dX11_isCloudSpan_4 ⟨Nat.zero_le _, Nat.zero_le _⟩) hw (fun H locs hw hx4 hz5 => ?_)
  have hE : Ext S0 S_1 := Ext.tr hE hx4
  refine lv_if_eq (tgt := 31) hx hb dX11_isCloudSpan_7 (by decide) (fun h6 => ?_) (fun h6 => ?_)
  · rw [if_pos h6] at hm
    refine lv_iconst (v := 0) hx hb dX11_isCloudSpan_31 (by decide) ?_
    cases hm
    exact pw_zret hx hb hr bz_0 hlk hw hE dX11_isCloudSpan_32
  · rw [if_neg h6] at hm
    refine lv_iload_n hx hb dX11_isCloudSpan_10 rfl (lv_at hl 1 rfl) ?_
    obtain ⟨r9, S_7, hq8, hm⟩ := cb_some hm
    refine pw_cz (va_runS (As := [.int x1]) (rest := []) ⟨hx, hb, hml, hown, hU⟩ (c_X11_isDay l C X n S_1 hw.wf _ x1  r9 S_7 hq8) ⟨callB_of 1 hU (pq_g1 tc_X11_isDay) rfl rfl rfl (hU _ tw1) (hU _ tw1365) cd_X11_isDay.2 ⟨Nat.le_of_ble_eq_true rfl, Nat.le_of_ble_eq_true rfl⟩, hU _ tw1366⟩ (pw_preS hw) rfl rfl hl.1 rfl (lv_room (Nat.le_of_ble_eq_true rfl)) dX11_isCloudSpan_11 ⟨Nat.zero_le _, Nat.zero_le _⟩) hw (fun H locs hw hx10 hz11 => ?_)
    have hE : Ext S0 S_7 := Ext.tr hE hx10
    refine lv_if_eq (tgt := 31) hx hb dX11_isCloudSpan_14 (by decide) (fun h12 => ?_) (fun h12 => ?_)
    · rw [if_pos h12] at hm
      refine lv_iconst (v := 0) hx hb dX11_isCloudSpan_31 (by decide) ?_
      cases hm
      exact pw_zret hx hb hr bz_0 hlk hw hE dX11_isCloudSpan_32
    · rw [if_neg h12] at hm
      refine lv_iload_n hx hb dX11_isCloudSpan_17 rfl (lv_at hl 2 rfl) ?_
      refine lv_iconst (v := 1) hx hb dX11_isCloudSpan_18 (by decide) ?_
      refine lv_bipush (v := 60) hx hb dX11_isCloudSpan_19 (by decide) ?_
      obtain ⟨r15, S_13, hq14, hm⟩ := cb_some hm
      refine pw_cz (va_runS (As := [.int x2, .int 1, .int 60]) (rest := []) ⟨hx, hb, hml, hown, hU⟩ (c_X11_isWithin l C X n S_7 hw.wf _ x2 1 60  r15 S_13 hq14) ⟨callB_of 3 hU (pq_g1 tc_X11_isWithin) rfl rfl rfl (hU _ tw1) (hU _ tw453) cd_X11_isWithin.2 ⟨Nat.le_of_ble_eq_true rfl, Nat.le_of_ble_eq_true rfl⟩, hU _ tw454⟩ (pw_preS hw) rfl rfl hl.1 rfl (lv_room (Nat.le_of_ble_eq_true rfl)) dX11_isCloudSpan_21 ⟨Nat.zero_le _, Nat.zero_le _⟩) hw (fun H locs hw hx16 hz17 => ?_)
      have hE : Ext S0 S_13 := Ext.tr hE hx16
      refine lv_if_eq (tgt := 31) hx hb dX11_isCloudSpan_24 (by decide) (fun h18 => ?_) (fun h18 => ?_)
      · rw [if_pos h18] at hm
        refine lv_iconst (v := 0) hx hb dX11_isCloudSpan_31 (by decide) ?_
        cases hm
        exact pw_zret hx hb hr bz_0 hlk hw hE dX11_isCloudSpan_32
      · rw [if_neg h18] at hm
        refine lv_iconst (v := 1) hx hb dX11_isCloudSpan_27 (by decide) ?_
        refine lv_goto (tgt := 32) hx hb dX11_isCloudSpan_28 (by decide) ?_
        cases hm
        exact pw_zret hx hb hr bz_1 hlk hw hE dX11_isCloudSpan_32
abbrev rm_X11_isText : Room := { frames := 1, cells := 0, slots := 0, locals := 22 }
def m_X11_isText (n : Nat) (a0 : Nat) (x1 : Int32) (x2 : Int32) (S0 : pq_S) : Option (Int32 × pq_S) := cb (m_X11_isWithin n x1 0 x2 S0) fun r3 S_1 => if r3 = 0 then some (0, S_1) else Option.bind (pR S_1 1100 a0) fun q7 => if (pI S_1 1001 q7) < x1 then some (0, S_1) else some (1, S_1)
theorem tc_X11_isText : Cond.code yX11_isText cX11_isText 3 (some .boolean) ∈ pq_U := tw489
theorem cd_X11_isText : yX11_isText.cls = RX11 ∧ yX11_isText.cls ≠ "java/lang/invoke/MethodHandle" ∧ yX11_isText.cls ≠ "java/lang/invoke/VarHandle" ∧ (parseMethodDescriptor yX11_isText.desc).map (fun d => d.parameters.length) = some 2 := by decide +kernel
set_option maxHeartbeats 4000000 in
set_option maxRecDepth 100000 in
theorem c_X11_isText (l : Launch) (C : pq_C) (X : va_W) (n : Nat) (S0 : pq_S) (hF : WF S0) (sz : Nat) (a0 : Nat) (x1 : Int32) (x2 : Int32) (Ta0 : TY S0 a0 11) (r : Int32) (S1 : pq_S) (hm : m_X11_isText n a0 x1 x2 S0 = some (r, S1)) : MZ l yX11_isText (.code yX11_isText cX11_isText 3 (some .boolean) :: pq_U) rm_X11_isText C X S0 sz [.ref a0, .int x1, .int x2] r S1 0 0 := by
  refine Met.ofW (cc := cX11_isText) (maxL := 3) (ret := (some .boolean)) (by decide) rfl ?_
  intro p e s m args below meth c s₁ B hml hv
  obtain ⟨rfl, hv⟩ := hv
  have hsz := hv.1
  subst hsz
  have hw := pw_entry hF hv
  have hts := atoms_spec (ws := .code yX11_isText cX11_isText 3 (some .boolean) :: pq_U) B.pre
  have hU : ∀ w ∈ pq_U, w.before _ s = true := fun w h => hts w (List.mem_cons_of_mem _ h)
  have hx := B.exec
  have hb := B.bytes
  have hr := B.returns
  have hown : s.vm.findClass RX11 = some m.cls := findClass_of_methodNamed B.named
  have hlk := B.notSynchronized
  have hl := lv_entry ([.ref a0, .int x1, .int x2]) (n := 3) (Nat.le_of_ble_eq_true rfl)
  rw [lg_entry_eq]
  generalize (lg_sl ([.ref a0, .int x1, .int x2]) ++ List.replicate (3 - (lg_sl ([.ref a0, .int x1, .int x2])).length) Slot.unset).toArray = ls at hl ⊢
  have hl : lv_has ls 3 [(0, .ref a0), (1, .int x1), (2, .int x2)] := hl
  have hE : Ext S0 S0 := Ext.rf _
  have cx : Cx p s m _ meth c cX11_isText 3 RX11 (some .boolean) := ⟨hx, hb, hml, hown, hU, hr, hlk⟩
  rw [m_X11_isText] at hm
  refine lv_iload_n hx hb dX11_isText_0 rfl (lv_at hl 1 rfl) ?_
  refine lv_iconst (v := 0) hx hb dX11_isText_1 (by decide) ?_
  refine lv_iload_n hx hb dX11_isText_2 rfl (lv_at hl 2 rfl) ?_
  obtain ⟨r3, S_1, hq2, hm⟩ := cb_some hm
  refine pw_cz (va_runS (As := [.int x1, .int 0, .int x2]) (rest := []) ⟨hx, hb, hml, hown, hU⟩ (c_X11_isWithin l C X n S0 hw.wf _ x1 0 x2  r3 S_1 hq2) ⟨callB_of 3 hU (pq_g1 tc_X11_isWithin) rfl rfl rfl (hU _ tw1) (hU _ tw453) cd_X11_isWithin.2 ⟨Nat.le_of_ble_eq_true rfl, Nat.le_of_ble_eq_true rfl⟩, hU _ tw454⟩ (pw_preS hw) rfl rfl hl.1 rfl (lv_room (Nat.le_of_ble_eq_true rfl)) dX11_isText_3 ⟨Nat.zero_le _, Nat.zero_le _⟩) hw (fun H locs hw hx4 hz5 => ?_)
  have Ta0 : TY S_1 a0 11 := ty_ext hx4 Ta0
  have hE : Ext S0 S_1 := Ext.tr hE hx4
  refine lv_if_eq (tgt := 24) hx hb dX11_isText_6 (by decide) (fun h6 => ?_) (fun h6 => ?_)
  · rw [if_pos h6] at hm
    refine lv_iconst (v := 0) hx hb dX11_isText_24 (by decide) ?_
    cases hm
    exact pw_zret hx hb hr bz_0 hlk hw hE dX11_isText_25
  · rw [if_neg h6] at hm
    refine lv_iload_n hx hb dX11_isText_9 rfl (lv_at hl 1 rfl) ?_
    refine lv_aload_n hx hb dX11_isText_10 rfl (lv_at hl 0 rfl) ?_
    obtain ⟨q7, hq7, hm⟩ := bd_some hm
    have Tq7 : TY S_1 q7 10 := hw.wf.ref (k := 11) (j := 0) Ta0 (by decide) (by decide) hq7
    refine pg_rb (k := 11) (j := 0) (f := 1100) hx hb hown hU iu11 hw Ta0 (by decide) rfl (hU _ tw363) rfl hq7 dX11_isText_11 ?_
    refine pgN_i (k := 10) (j := 1) (f := 1001) hx hb hown hU iu10 hw Tq7 (by decide) rfl 1 rfl rfl dX11_isText_14 ?_
    refine lv_icmp_gt (tgt := 24) hx hb dX11_isText_17 (by decide) (fun h8 => ?_) (fun h8 => ?_)
    · rw [if_pos h8] at hm
      refine lv_iconst (v := 0) hx hb dX11_isText_24 (by decide) ?_
      cases hm
      exact pw_zret hx hb hr bz_0 hlk hw hE dX11_isText_25
    · rw [if_neg h8] at hm
      refine lv_iconst (v := 1) hx hb dX11_isText_20 (by decide) ?_
      refine lv_goto (tgt := 25) hx hb dX11_isText_21 (by decide) ?_
      cases hm
      exact pw_zret hx hb hr bz_1 hlk hw hE dX11_isText_25
abbrev rm_X11_endText : Room := { frames := 0, cells := 0, slots := 0, locals := 0 }
def b_X11_endText_22 (n : Nat) (a0 : Nat) (b0 : Nat) (z1 : Int32) (S : pq_S) : Option (Int32 × pq_S) := Option.bind (pR (sI S 1113 b0 z1) 1100 a0) fun q4 => Option.bind (pR (sI (sI S 1113 b0 z1) 1001 q4 0) 1100 a0) fun q5 => if (pI (sI (sI S 1113 b0 z1) 1001 q4 0) 1005 q5) = 0 then some (0, (sI (sI S 1113 b0 z1) 1001 q4 0)) else Option.bind (pR (sI (sI S 1113 b0 z1) 1001 q4 0) 1100 a0) fun q7 => some (((pI (sI (sI S 1113 b0 z1) 1001 q4 0) 1005 q7) - (10 : Int32)), (sI (sI S 1113 b0 z1) 1001 q4 0))
set_option maxHeartbeats 4000000 in
set_option maxRecDepth 100000 in
theorem wb_X11_endText_22 {p : Program} {l : Launch} {e : Env} {s : State} {m : MethodId} {args : Array Value} {below : List Frame} {meth : Method} {c : Code} (cx : Cx p s m args meth c cX11_endText 1 RX11 (some .int)) (C : pq_C) (X : va_W) (S0 : pq_S) (n : Nat) (r : Int32) (S1 : pq_S) : ∀ (a0 : Nat) (b0 : Nat) (z1 : Int32) (S : pq_S) (H : Heap) (locs : List Loc) (ls : Array Slot), PW C X S (pq_F C X S0 s.heap.size) H locs s → Ext S0 S → TY S a0 11 → TY S b0 11 → lv_has ls 1 [(0, .ref a0)] → b_X11_endText_22 n a0 b0 z1 S = some (r, S1) → W p l e rm_X11_endText s m args below meth c H locs 0 0 (MQ below (QcI C X S0 s.heap.size r S1) args s 0 0 (pq_F C X S0 s.heap.size)) (F0 m 22 ls [.int z1, .ref b0]) := by
  obtain ⟨hx, hb, hml, hown, hU, hr, hlk⟩ := id cx
  intro a0 b0 z1 S H locs ls hw hE Ta0 Tb0 hl hm
  rw [b_X11_endText_22] at hm
  refine pp_i (k := 11) (j := 13) (f := 1113) hx hb hown hU iu11 tyX11_ok nmX11 hw Tb0 (by decide) rfl (hU _ tw376) rfl rfl rfl dX11_endText_22 (fun H locs hw => ?_)
  refine lv_aload_n hx hb dX11_endText_25 rfl (lv_at hl 0 rfl) ?_
  obtain ⟨q4, hq4, hm⟩ := bd_some hm
  have Tq4 : TY (sI S 1113 b0 z1) q4 10 := hw.wf.ref (k := 11) (j := 0) Ta0 (by decide) (by decide) hq4
  refine pg_rb (k := 11) (j := 0) (f := 1100) hx hb hown hU iu11 hw Ta0 (by decide) rfl (hU _ tw363) rfl hq4 dX11_endText_26 ?_
  refine lv_iconst (v := 0) hx hb dX11_endText_29 (by decide) ?_
  refine ppN_i (k := 10) (j := 1) (f := 1001) hx hb hown hU iu10 tyX10_ok nmX10 hw Tq4 (by decide) rfl 1 rfl rfl rfl rfl dX11_endText_30 (fun H locs hw => ?_)
  refine lv_aload_n hx hb dX11_endText_33 rfl (lv_at hl 0 rfl) ?_
  obtain ⟨q5, hq5, hm⟩ := bd_some hm
  have Tq5 : TY (sI (sI S 1113 b0 z1) 1001 q4 0) q5 10 := hw.wf.ref (k := 11) (j := 0) Ta0 (by decide) (by decide) hq5
  refine pg_rb (k := 11) (j := 0) (f := 1100) hx hb hown hU iu11 hw Ta0 (by decide) rfl (hU _ tw363) rfl hq5 dX11_endText_34 ?_
  refine pgN_i (k := 10) (j := 5) (f := 1005) hx hb hown hU iu10 hw Tq5 (by decide) rfl 8 rfl rfl dX11_endText_37 ?_
  refine lv_if_ne (tgt := 47) hx hb dX11_endText_40 (by decide) (fun h6 => ?_) (fun h6 => ?_)
  · rw [if_neg h6] at hm
    refine lv_aload_n hx hb dX11_endText_47 rfl (lv_at hl 0 rfl) ?_
    obtain ⟨q7, hq7, hm⟩ := bd_some hm
    have Tq7 : TY (sI (sI S 1113 b0 z1) 1001 q4 0) q7 10 := hw.wf.ref (k := 11) (j := 0) Ta0 (by decide) (by decide) hq7
    refine pg_rb (k := 11) (j := 0) (f := 1100) hx hb hown hU iu11 hw Ta0 (by decide) rfl (hU _ tw363) rfl hq7 dX11_endText_48 ?_
    refine pgN_i (k := 10) (j := 5) (f := 1005) hx hb hown hU iu10 hw Tq7 (by decide) rfl 8 rfl rfl dX11_endText_51 ?_
    refine lv_bipush (v := 10) hx hb dX11_endText_54 (by decide) ?_
    refine lv_isub hx hb dX11_endText_56 ?_
    cases hm
    exact pw_iret hx hb hr rfl hlk hw hE dX11_endText_57
  · rw [if_pos h6] at hm
    refine lv_iconst (v := 0) hx hb dX11_endText_43 (by decide) ?_
    refine lv_goto (tgt := 57) hx hb dX11_endText_44 (by decide) ?_
    cases hm
    exact pw_iret hx hb hr rfl hlk hw hE dX11_endText_57
def m_X11_endText (n : Nat) (a0 : Nat) (S0 : pq_S) : Option (Int32 × pq_S) := Option.bind (pR S0 1100 a0) fun q1 => if (pI S0 1005 q1) = 0 then b_X11_endText_22 n a0 a0 (-1) S0 else Option.bind (pR S0 1100 a0) fun q3 => b_X11_endText_22 n a0 a0 (pI S0 1006 q3) S0
theorem tc_X11_endText : Cond.code yX11_endText cX11_endText 1 (some .int) ∈ pq_U := tw702
theorem cd_X11_endText : yX11_endText.cls = RX11 ∧ yX11_endText.cls ≠ "java/lang/invoke/MethodHandle" ∧ yX11_endText.cls ≠ "java/lang/invoke/VarHandle" ∧ (parseMethodDescriptor yX11_endText.desc).map (fun d => d.parameters.length) = some 0 := by decide +kernel
set_option maxHeartbeats 4000000 in
set_option maxRecDepth 100000 in
theorem c_X11_endText (l : Launch) (C : pq_C) (X : va_W) (n : Nat) (S0 : pq_S) (hF : WF S0) (sz : Nat) (a0 : Nat) (Ta0 : TY S0 a0 11) (r : Int32) (S1 : pq_S) (hm : m_X11_endText n a0 S0 = some (r, S1)) : MI l yX11_endText (.code yX11_endText cX11_endText 1 (some .int) :: pq_U) rm_X11_endText C X S0 sz [.ref a0] r S1 0 0 := by
  refine Met.ofW (cc := cX11_endText) (maxL := 1) (ret := (some .int)) (by decide) rfl ?_
  intro p e s m args below meth c s₁ B hml hv
  obtain ⟨rfl, hv⟩ := hv
  have hsz := hv.1
  subst hsz
  have hw := pw_entry hF hv
  have hts := atoms_spec (ws := .code yX11_endText cX11_endText 1 (some .int) :: pq_U) B.pre
  have hU : ∀ w ∈ pq_U, w.before _ s = true := fun w h => hts w (List.mem_cons_of_mem _ h)
  have hx := B.exec
  have hb := B.bytes
  have hr := B.returns
  have hown : s.vm.findClass RX11 = some m.cls := findClass_of_methodNamed B.named
  have hlk := B.notSynchronized
  have hl := lv_entry ([.ref a0]) (n := 1) (Nat.le_of_ble_eq_true rfl)
  rw [lg_entry_eq]
  generalize (lg_sl ([.ref a0]) ++ List.replicate (1 - (lg_sl ([.ref a0])).length) Slot.unset).toArray = ls at hl ⊢
  have hl : lv_has ls 1 [(0, .ref a0)] := hl
  have hE : Ext S0 S0 := Ext.rf _
  have cx : Cx p s m _ meth c cX11_endText 1 RX11 (some .int) := ⟨hx, hb, hml, hown, hU, hr, hlk⟩
  rw [m_X11_endText] at hm
  refine lv_aload_n hx hb dX11_endText_0 rfl (lv_at hl 0 rfl) ?_
  refine lv_aload_n hx hb dX11_endText_1 rfl (lv_at hl 0 rfl) ?_
  obtain ⟨q1, hq1, hm⟩ := bd_some hm
  have Tq1 : TY S0 q1 10 := hw.wf.ref (k := 11) (j := 0) Ta0 (by decide) (by decide) hq1
  refine pg_rb (k := 11) (j := 0) (f := 1100) hx hb hown hU iu11 hw Ta0 (by decide) rfl (hU _ tw363) rfl hq1 dX11_endText_2 ?_
  refine pgN_i (k := 10) (j := 5) (f := 1005) hx hb hown hU iu10 hw Tq1 (by decide) rfl 8 rfl rfl dX11_endText_5 ?_
  refine lv_if_ne (tgt := 15) hx hb dX11_endText_8 (by decide) (fun h2 => ?_) (fun h2 => ?_)
  · rw [if_neg h2] at hm
    refine lv_aload_n hx hb dX11_endText_15 rfl (lv_at hl 0 rfl) ?_
    obtain ⟨q3, hq3, hm⟩ := bd_some hm
    have Tq3 : TY S0 q3 10 := hw.wf.ref (k := 11) (j := 0) Ta0 (by decide) (by decide) hq3
    refine pg_rb (k := 11) (j := 0) (f := 1100) hx hb hown hU iu11 hw Ta0 (by decide) rfl (hU _ tw363) rfl hq3 dX11_endText_16 ?_
    refine pgN_i (k := 10) (j := 6) (f := 1006) hx hb hown hU iu10 hw Tq3 (by decide) rfl 9 rfl rfl dX11_endText_19 ?_
    exact wb_X11_endText_22 cx C X S0 n r S1 a0 a0 (pI S0 1006 q3) S0 _ _ _ hw hE Ta0 Ta0 (lv_sub hl [0] rfl) hm
  · rw [if_pos h2] at hm
    refine lv_iconst (v := (-1)) hx hb dX11_endText_11 (by decide) ?_
    refine lv_goto (tgt := 22) hx hb dX11_endText_12 (by decide) ?_
    exact wb_X11_endText_22 cx C X S0 n r S1 a0 a0 (-1) S0 _ _ _ hw hE Ta0 Ta0 (lv_sub hl [0] rfl) hm
abbrev rm_X11_isOption : Room := { frames := 1, cells := 0, slots := 0, locals := 22 }
def m_X11_isOption (n : Nat) (x0 : Int32) (x1 : Int32) (x2 : Int32) (x3 : Int32) (x4 : Int32) (x5 : Int32) (S0 : pq_S) : Option (Int32 × pq_S) := cb (m_X11_isWithin n x0 0 999 S0) fun r3 S_1 => if r3 = 0 then some (0, S_1) else cb (m_X11_isWithin n x1 0 99 S_1) fun r9 S_7 => if r9 = 0 then some (0, S_7) else cb (m_X11_isWithin n x2 0 99 S_7) fun r15 S_13 => if r15 = 0 then some (0, S_13) else cb (m_X11_isWithin n x3 0 16 S_13) fun r21 S_19 => if r21 = 0 then some (0, S_19) else cb (m_X11_isWithin n x4 0 999 S_19) fun r27 S_25 => if r27 = 0 then some (0, S_25) else cb (m_X11_isWithin n x5 0 6 S_25) fun r33 S_31 => if r33 = 0 then some (0, S_31) else some (1, S_31)
theorem tc_X11_isOption : Cond.code yX11_isOption cX11_isOption 6 (some .boolean) ∈ pq_U := tw1169
theorem cd_X11_isOption : yX11_isOption.cls = RX11 ∧ yX11_isOption.cls ≠ "java/lang/invoke/MethodHandle" ∧ yX11_isOption.cls ≠ "java/lang/invoke/VarHandle" ∧ (parseMethodDescriptor yX11_isOption.desc).map (fun d => d.parameters.length) = some 6 := by decide +kernel
set_option maxHeartbeats 4000000 in
set_option maxRecDepth 100000 in
theorem c_X11_isOption (l : Launch) (C : pq_C) (X : va_W) (n : Nat) (S0 : pq_S) (hF : WF S0) (sz : Nat) (x0 : Int32) (x1 : Int32) (x2 : Int32) (x3 : Int32) (x4 : Int32) (x5 : Int32)  (r : Int32) (S1 : pq_S) (hm : m_X11_isOption n x0 x1 x2 x3 x4 x5 S0 = some (r, S1)) : MZ l yX11_isOption (.code yX11_isOption cX11_isOption 6 (some .boolean) :: pq_U) rm_X11_isOption C X S0 sz [.int x0, .int x1, .int x2, .int x3, .int x4, .int x5] r S1 0 0 := by
  refine Met.ofW (cc := cX11_isOption) (maxL := 6) (ret := (some .boolean)) (by decide) rfl ?_
  intro p e s m args below meth c s₁ B hml hv
  obtain ⟨rfl, hv⟩ := hv
  have hsz := hv.1
  subst hsz
  have hw := pw_entry hF hv
  have hts := atoms_spec (ws := .code yX11_isOption cX11_isOption 6 (some .boolean) :: pq_U) B.pre
  have hU : ∀ w ∈ pq_U, w.before _ s = true := fun w h => hts w (List.mem_cons_of_mem _ h)
  have hx := B.exec
  have hb := B.bytes
  have hr := B.returns
  have hown : s.vm.findClass RX11 = some m.cls := findClass_of_methodNamed B.named
  have hlk := B.notSynchronized
  have hl := lv_entry ([.int x0, .int x1, .int x2, .int x3, .int x4, .int x5]) (n := 6) (Nat.le_of_ble_eq_true rfl)
  rw [lg_entry_eq]
  generalize (lg_sl ([.int x0, .int x1, .int x2, .int x3, .int x4, .int x5]) ++ List.replicate (6 - (lg_sl ([.int x0, .int x1, .int x2, .int x3, .int x4, .int x5])).length) Slot.unset).toArray = ls at hl ⊢
  have hl : lv_has ls 6 [(0, .int x0), (1, .int x1), (2, .int x2), (3, .int x3), (4, .int x4), (5, .int x5)] := hl
  have hE : Ext S0 S0 := Ext.rf _
  have cx : Cx p s m _ meth c cX11_isOption 6 RX11 (some .boolean) := ⟨hx, hb, hml, hown, hU, hr, hlk⟩
  rw [m_X11_isOption] at hm
  refine lv_iload_n hx hb dX11_isOption_0 rfl (lv_at hl 0 rfl) ?_
  refine lv_iconst (v := 0) hx hb dX11_isOption_1 (by decide) ?_
  refine lv_sipush (v := 999) hx hb dX11_isOption_2 (by decide) ?_
  obtain ⟨r3, S_1, hq2, hm⟩ := cb_some hm
  refine pw_cz (va_runS (As := [.int x0, .int 0, .int 999]) (rest := []) ⟨hx, hb, hml, hown, hU⟩ (c_X11_isWithin l C X n S0 hw.wf _ x0 0 999  r3 S_1 hq2) ⟨callB_of 3 hU (pq_g1 tc_X11_isWithin) rfl rfl rfl (hU _ tw1) (hU _ tw453) cd_X11_isWithin.2 ⟨Nat.le_of_ble_eq_true rfl, Nat.le_of_ble_eq_true rfl⟩, hU _ tw454⟩ (pw_preS hw) rfl rfl hl.1 rfl (lv_room (Nat.le_of_ble_eq_true rfl)) dX11_isOption_5 ⟨Nat.zero_le _, Nat.zero_le _⟩) hw (fun H locs hw hx4 hz5 => ?_)
  have hE : Ext S0 S_1 := Ext.tr hE hx4
  refine lv_if_eq (tgt := 68) hx hb dX11_isOption_8 (by decide) (fun h6 => ?_) (fun h6 => ?_)
  · rw [if_pos h6] at hm
    refine lv_iconst (v := 0) hx hb dX11_isOption_68 (by decide) ?_
    cases hm
    exact pw_zret hx hb hr bz_0 hlk hw hE dX11_isOption_69
  · rw [if_neg h6] at hm
    refine lv_iload_n hx hb dX11_isOption_11 rfl (lv_at hl 1 rfl) ?_
    refine lv_iconst (v := 0) hx hb dX11_isOption_12 (by decide) ?_
    refine lv_bipush (v := 99) hx hb dX11_isOption_13 (by decide) ?_
    obtain ⟨r9, S_7, hq8, hm⟩ := cb_some hm
    refine pw_cz (va_runS (As := [.int x1, .int 0, .int 99]) (rest := []) ⟨hx, hb, hml, hown, hU⟩ (c_X11_isWithin l C X n S_1 hw.wf _ x1 0 99  r9 S_7 hq8) ⟨callB_of 3 hU (pq_g1 tc_X11_isWithin) rfl rfl rfl (hU _ tw1) (hU _ tw453) cd_X11_isWithin.2 ⟨Nat.le_of_ble_eq_true rfl, Nat.le_of_ble_eq_true rfl⟩, hU _ tw454⟩ (pw_preS hw) rfl rfl hl.1 rfl (lv_room (Nat.le_of_ble_eq_true rfl)) dX11_isOption_15 ⟨Nat.zero_le _, Nat.zero_le _⟩) hw (fun H locs hw hx10 hz11 => ?_)
    have hE : Ext S0 S_7 := Ext.tr hE hx10
    refine lv_if_eq (tgt := 68) hx hb dX11_isOption_18 (by decide) (fun h12 => ?_) (fun h12 => ?_)
    · rw [if_pos h12] at hm
      refine lv_iconst (v := 0) hx hb dX11_isOption_68 (by decide) ?_
      cases hm
      exact pw_zret hx hb hr bz_0 hlk hw hE dX11_isOption_69
    · rw [if_neg h12] at hm
      refine lv_iload_n hx hb dX11_isOption_21 rfl (lv_at hl 2 rfl) ?_
      refine lv_iconst (v := 0) hx hb dX11_isOption_22 (by decide) ?_
      refine lv_bipush (v := 99) hx hb dX11_isOption_23 (by decide) ?_
      obtain ⟨r15, S_13, hq14, hm⟩ := cb_some hm
      refine pw_cz (va_runS (As := [.int x2, .int 0, .int 99]) (rest := []) ⟨hx, hb, hml, hown, hU⟩ (c_X11_isWithin l C X n S_7 hw.wf _ x2 0 99  r15 S_13 hq14) ⟨callB_of 3 hU (pq_g1 tc_X11_isWithin) rfl rfl rfl (hU _ tw1) (hU _ tw453) cd_X11_isWithin.2 ⟨Nat.le_of_ble_eq_true rfl, Nat.le_of_ble_eq_true rfl⟩, hU _ tw454⟩ (pw_preS hw) rfl rfl hl.1 rfl (lv_room (Nat.le_of_ble_eq_true rfl)) dX11_isOption_25 ⟨Nat.zero_le _, Nat.zero_le _⟩) hw (fun H locs hw hx16 hz17 => ?_)
      have hE : Ext S0 S_13 := Ext.tr hE hx16
      refine lv_if_eq (tgt := 68) hx hb dX11_isOption_28 (by decide) (fun h18 => ?_) (fun h18 => ?_)
      · rw [if_pos h18] at hm
        refine lv_iconst (v := 0) hx hb dX11_isOption_68 (by decide) ?_
        cases hm
        exact pw_zret hx hb hr bz_0 hlk hw hE dX11_isOption_69
      · rw [if_neg h18] at hm
        refine lv_iload_n hx hb dX11_isOption_31 rfl (lv_at hl 3 rfl) ?_
        refine lv_iconst (v := 0) hx hb dX11_isOption_32 (by decide) ?_
        refine lv_bipush (v := 16) hx hb dX11_isOption_33 (by decide) ?_
        obtain ⟨r21, S_19, hq20, hm⟩ := cb_some hm
        refine pw_cz (va_runS (As := [.int x3, .int 0, .int 16]) (rest := []) ⟨hx, hb, hml, hown, hU⟩ (c_X11_isWithin l C X n S_13 hw.wf _ x3 0 16  r21 S_19 hq20) ⟨callB_of 3 hU (pq_g1 tc_X11_isWithin) rfl rfl rfl (hU _ tw1) (hU _ tw453) cd_X11_isWithin.2 ⟨Nat.le_of_ble_eq_true rfl, Nat.le_of_ble_eq_true rfl⟩, hU _ tw454⟩ (pw_preS hw) rfl rfl hl.1 rfl (lv_room (Nat.le_of_ble_eq_true rfl)) dX11_isOption_35 ⟨Nat.zero_le _, Nat.zero_le _⟩) hw (fun H locs hw hx22 hz23 => ?_)
        have hE : Ext S0 S_19 := Ext.tr hE hx22
        refine lv_if_eq (tgt := 68) hx hb dX11_isOption_38 (by decide) (fun h24 => ?_) (fun h24 => ?_)
        · rw [if_pos h24] at hm
          refine lv_iconst (v := 0) hx hb dX11_isOption_68 (by decide) ?_
          cases hm
          exact pw_zret hx hb hr bz_0 hlk hw hE dX11_isOption_69
        · rw [if_neg h24] at hm
          refine lv_iload hx hb dX11_isOption_41 (lv_at hl 4 rfl) ?_
          refine lv_iconst (v := 0) hx hb dX11_isOption_43 (by decide) ?_
          refine lv_sipush (v := 999) hx hb dX11_isOption_44 (by decide) ?_
          obtain ⟨r27, S_25, hq26, hm⟩ := cb_some hm
          refine pw_cz (va_runS (As := [.int x4, .int 0, .int 999]) (rest := []) ⟨hx, hb, hml, hown, hU⟩ (c_X11_isWithin l C X n S_19 hw.wf _ x4 0 999  r27 S_25 hq26) ⟨callB_of 3 hU (pq_g1 tc_X11_isWithin) rfl rfl rfl (hU _ tw1) (hU _ tw453) cd_X11_isWithin.2 ⟨Nat.le_of_ble_eq_true rfl, Nat.le_of_ble_eq_true rfl⟩, hU _ tw454⟩ (pw_preS hw) rfl rfl hl.1 rfl (lv_room (Nat.le_of_ble_eq_true rfl)) dX11_isOption_47 ⟨Nat.zero_le _, Nat.zero_le _⟩) hw (fun H locs hw hx28 hz29 => ?_)
          have hE : Ext S0 S_25 := Ext.tr hE hx28
          refine lv_if_eq (tgt := 68) hx hb dX11_isOption_50 (by decide) (fun h30 => ?_) (fun h30 => ?_)
          · rw [if_pos h30] at hm
            refine lv_iconst (v := 0) hx hb dX11_isOption_68 (by decide) ?_
            cases hm
            exact pw_zret hx hb hr bz_0 hlk hw hE dX11_isOption_69
          · rw [if_neg h30] at hm
            refine lv_iload hx hb dX11_isOption_53 (lv_at hl 5 rfl) ?_
            refine lv_iconst (v := 0) hx hb dX11_isOption_55 (by decide) ?_
            refine lv_bipush (v := 6) hx hb dX11_isOption_56 (by decide) ?_
            obtain ⟨r33, S_31, hq32, hm⟩ := cb_some hm
            refine pw_cz (va_runS (As := [.int x5, .int 0, .int 6]) (rest := []) ⟨hx, hb, hml, hown, hU⟩ (c_X11_isWithin l C X n S_25 hw.wf _ x5 0 6  r33 S_31 hq32) ⟨callB_of 3 hU (pq_g1 tc_X11_isWithin) rfl rfl rfl (hU _ tw1) (hU _ tw453) cd_X11_isWithin.2 ⟨Nat.le_of_ble_eq_true rfl, Nat.le_of_ble_eq_true rfl⟩, hU _ tw454⟩ (pw_preS hw) rfl rfl hl.1 rfl (lv_room (Nat.le_of_ble_eq_true rfl)) dX11_isOption_58 ⟨Nat.zero_le _, Nat.zero_le _⟩) hw (fun H locs hw hx34 hz35 => ?_)
            have hE : Ext S0 S_31 := Ext.tr hE hx34
            refine lv_if_eq (tgt := 68) hx hb dX11_isOption_61 (by decide) (fun h36 => ?_) (fun h36 => ?_)
            · rw [if_pos h36] at hm
              refine lv_iconst (v := 0) hx hb dX11_isOption_68 (by decide) ?_
              cases hm
              exact pw_zret hx hb hr bz_0 hlk hw hE dX11_isOption_69
            · rw [if_neg h36] at hm
              refine lv_iconst (v := 1) hx hb dX11_isOption_64 (by decide) ?_
              refine lv_goto (tgt := 69) hx hb dX11_isOption_65 (by decide) ?_
              cases hm
              exact pw_zret hx hb hr bz_1 hlk hw hE dX11_isOption_69
abbrev rm_X11_scale : Room := { frames := 0, cells := 0, slots := 0, locals := 0 }
def m_X11_scale (n : Nat) (x0 : Int32) (S0 : pq_S) : Option (Int64 × pq_S) := some (((1 : Int64) <<< (Int32.toInt64 ((4 : Int32) * x0) &&& (63 : Int64))), S0)
theorem tc_X11_scale : Cond.code yX11_scale cX11_scale 1 (some .long) ∈ pq_U := tw1176
theorem cd_X11_scale : yX11_scale.cls = RX11 ∧ yX11_scale.cls ≠ "java/lang/invoke/MethodHandle" ∧ yX11_scale.cls ≠ "java/lang/invoke/VarHandle" ∧ (parseMethodDescriptor yX11_scale.desc).map (fun d => d.parameters.length) = some 1 := by decide +kernel
set_option maxHeartbeats 4000000 in
set_option maxRecDepth 100000 in
theorem c_X11_scale (l : Launch) (C : pq_C) (X : va_W) (n : Nat) (S0 : pq_S) (hF : WF S0) (sz : Nat) (x0 : Int32)  (r : Int64) (S1 : pq_S) (hm : m_X11_scale n x0 S0 = some (r, S1)) : MJ l yX11_scale (.code yX11_scale cX11_scale 1 (some .long) :: pq_U) rm_X11_scale C X S0 sz [.int x0] r S1 0 0 := by
  refine Met.ofW (cc := cX11_scale) (maxL := 1) (ret := (some .long)) (by decide) rfl ?_
  intro p e s m args below meth c s₁ B hml hv
  obtain ⟨rfl, hv⟩ := hv
  have hsz := hv.1
  subst hsz
  have hw := pw_entry hF hv
  have hts := atoms_spec (ws := .code yX11_scale cX11_scale 1 (some .long) :: pq_U) B.pre
  have hU : ∀ w ∈ pq_U, w.before _ s = true := fun w h => hts w (List.mem_cons_of_mem _ h)
  have hx := B.exec
  have hb := B.bytes
  have hr := B.returns
  have hown : s.vm.findClass RX11 = some m.cls := findClass_of_methodNamed B.named
  have hlk := B.notSynchronized
  have hl := lv_entry ([.int x0]) (n := 1) (Nat.le_of_ble_eq_true rfl)
  rw [lg_entry_eq]
  generalize (lg_sl ([.int x0]) ++ List.replicate (1 - (lg_sl ([.int x0])).length) Slot.unset).toArray = ls at hl ⊢
  have hl : lv_has ls 1 [(0, .int x0)] := hl
  have hE : Ext S0 S0 := Ext.rf _
  have cx : Cx p s m _ meth c cX11_scale 1 RX11 (some .long) := ⟨hx, hb, hml, hown, hU, hr, hlk⟩
  rw [m_X11_scale] at hm
  refine lv_lconst (v := 1) hx hb dX11_scale_0 (by decide) ?_
  refine lv_iconst (v := 4) hx hb dX11_scale_1 (by decide) ?_
  refine lv_iload_n hx hb dX11_scale_2 rfl (lv_at hl 0 rfl) ?_
  refine lv_imul hx hb dX11_scale_3 ?_
  refine lv_lshl (v := ((1 : Int64) <<< (Int32.toInt64 ((4 : Int32) * x0) &&& (63 : Int64)))) hx hb dX11_scale_4 rfl ?_
  cases hm
  exact pw_jret hx hb hr hlk hw hE dX11_scale_5
abbrev rm_X11_partOfFraction : Room := { frames := 1, cells := 0, slots := 0, locals := 20 }
def b_X11_partOfFraction_53 (n : Nat) (x3 : Int32) (x4 : Int64) (x6 : Int64) (S : pq_S) : Option (Int64 × pq_S) := if x3 = 0 then some (x4, S) else some (x6, S)
set_option maxHeartbeats 4000000 in
set_option maxRecDepth 100000 in
theorem wb_X11_partOfFraction_53 {p : Program} {l : Launch} {e : Env} {s : State} {m : MethodId} {args : Array Value} {below : List Frame} {meth : Method} {c : Code} (cx : Cx p s m args meth c cX11_partOfFraction 9 RX11 (some .long)) (C : pq_C) (X : va_W) (S0 : pq_S) (n : Nat) (r : Int64) (S1 : pq_S) : ∀ (x3 : Int32) (x4 : Int64) (x6 : Int64) (S : pq_S) (H : Heap) (locs : List Loc) (ls : Array Slot), PW C X S (pq_F C X S0 s.heap.size) H locs s → Ext S0 S → lv_has ls 9 [(3, .int x3), (4, .long x4), (6, .long x6)] → b_X11_partOfFraction_53 n x3 x4 x6 S = some (r, S1) → W p l e rm_X11_partOfFraction s m args below meth c H locs 0 0 (MQ below (QcJ C X S0 s.heap.size r S1) args s 0 0 (pq_F C X S0 s.heap.size)) (F0 m 53 ls []) := by
  obtain ⟨hx, hb, hml, hown, hU, hr, hlk⟩ := id cx
  intro x3 x4 x6 S H locs ls hw hE hl hm
  rw [b_X11_partOfFraction_53] at hm
  refine lv_iload_n hx hb dX11_partOfFraction_53 rfl (lv_at hl 0 rfl) ?_
  refine lv_if_ne (tgt := 62) hx hb dX11_partOfFraction_54 (by decide) (fun h7 => ?_) (fun h7 => ?_)
  · rw [if_neg h7] at hm
    refine lv_lload hx hb dX11_partOfFraction_62 (lv_at hl 2 rfl) ?_
    cases hm
    exact pw_jret hx hb hr hlk hw hE dX11_partOfFraction_64
  · rw [if_pos h7] at hm
    refine lv_lload hx hb dX11_partOfFraction_57 (lv_at hl 1 rfl) ?_
    refine lv_goto (tgt := 64) hx hb dX11_partOfFraction_59 (by decide) ?_
    cases hm
    exact pw_jret hx hb hr hlk hw hE dX11_partOfFraction_64
def b_X11_partOfFraction_12 (n : Nat) : Nat → Int32 → Int32 → Int64 → Int64 → Int32 → pq_S → Option (Int64 × pq_S)
  | 0, _, _, _, _, _, _ => none
  | f + 1, x2, x3, x4, x6, x8, S => if ((4 : Int32) * x2) ≤ x8 then b_X11_partOfFraction_53 n x3 x4 x6 S else if (lg_cmp (x4 - x4 / 2 * 2) 0) = 0 then b_X11_partOfFraction_12 n f x2 x3 (x4 / 2) (x6 / 2) (x8 + 1) S else b_X11_partOfFraction_53 n x3 x4 x6 S
set_option maxHeartbeats 4000000 in
set_option maxRecDepth 100000 in
theorem wb_X11_partOfFraction_12 {p : Program} {l : Launch} {e : Env} {s : State} {m : MethodId} {args : Array Value} {below : List Frame} {meth : Method} {c : Code} (cx : Cx p s m args meth c cX11_partOfFraction 9 RX11 (some .long)) (C : pq_C) (X : va_W) (S0 : pq_S) (n : Nat) (r : Int64) (S1 : pq_S) : ∀ (f : Nat) (x2 : Int32) (x3 : Int32) (x4 : Int64) (x6 : Int64) (x8 : Int32) (S : pq_S) (H : Heap) (locs : List Loc) (ls : Array Slot), PW C X S (pq_F C X S0 s.heap.size) H locs s → Ext S0 S → lv_has ls 9 [(2, .int x2), (3, .int x3), (4, .long x4), (6, .long x6), (8, .int x8)] → b_X11_partOfFraction_12 n f x2 x3 x4 x6 x8 S = some (r, S1) → W p l e rm_X11_partOfFraction s m args below meth c H locs 0 0 (MQ below (QcJ C X S0 s.heap.size r S1) args s 0 0 (pq_F C X S0 s.heap.size)) (F0 m 12 ls []) := by
  obtain ⟨hx, hb, hml, hown, hU, hr, hlk⟩ := id cx
  intro f
  induction f with
  | zero =>
    intro x2 x3 x4 x6 x8 S H locs ls hw hE hl hm
    cases hm
  | succ f ih =>
    intro x2 x3 x4 x6 x8 S H locs ls hw hE hl hm
    rw [b_X11_partOfFraction_12] at hm
    refine lv_iload hx hb dX11_partOfFraction_12 (lv_at hl 4 rfl) ?_
    refine lv_iconst (v := 4) hx hb dX11_partOfFraction_14 (by decide) ?_
    refine lv_iload_n hx hb dX11_partOfFraction_15 rfl (lv_at hl 0 rfl) ?_
    refine lv_imul hx hb dX11_partOfFraction_16 ?_
    refine lv_icmp_ge (tgt := 53) hx hb dX11_partOfFraction_17 (by decide) (fun h5 => ?_) (fun h5 => ?_)
    · rw [if_pos h5] at hm
      exact wb_X11_partOfFraction_53 cx C X S0 n r S1 x3 x4 x6 S _ _ _ hw hE  (lv_sub hl [1, 2, 3] rfl) hm
    · rw [if_neg h5] at hm
      refine lv_lload hx hb dX11_partOfFraction_20 (lv_at hl 2 rfl) ?_
      refine lv_ldc2 (v := 2) hx hb hown (hU _ tw1183) dX11_partOfFraction_22 ?_
      refine lv_lrem hx hb dX11_partOfFraction_25 (by decide) ?_
      refine lv_lconst (v := 0) hx hb dX11_partOfFraction_26 (by decide) ?_
      refine W.lcmp hx hb dX11_partOfFraction_27 ?_
      refine lv_if_ne (tgt := 53) hx hb dX11_partOfFraction_28 (by decide) (fun h6 => ?_) (fun h6 => ?_)
      · rw [if_neg h6] at hm
        exact wb_X11_partOfFraction_53 cx C X S0 n r S1 x3 x4 x6 S _ _ _ hw hE  (lv_sub hl [1, 2, 3] rfl) hm
      · rw [if_pos h6] at hm
        refine lv_lload hx hb dX11_partOfFraction_31 (lv_at hl 2 rfl) ?_
        refine lv_ldc2 (v := 2) hx hb hown (hU _ tw1183) dX11_partOfFraction_33 ?_
        refine lv_ldiv hx hb dX11_partOfFraction_36 (by decide) ?_
        refine lv_lstore (lv' := [(4, .long (x4 / 2)), (2, .int x2), (3, .int x3), (6, .long x6), (8, .int x8)]) hx hb dX11_partOfFraction_37 hl (by decide) rfl (fun ls hl => ?_)
        refine lv_lload hx hb dX11_partOfFraction_39 (lv_at hl 3 rfl) ?_
        refine lv_ldc2 (v := 2) hx hb hown (hU _ tw1183) dX11_partOfFraction_41 ?_
        refine lv_ldiv hx hb dX11_partOfFraction_44 (by decide) ?_
        refine lv_lstore (lv' := [(6, .long (x6 / 2)), (4, .long (x4 / 2)), (2, .int x2), (3, .int x3), (8, .int x8)]) hx hb dX11_partOfFraction_45 hl (by decide) rfl (fun ls hl => ?_)
        refine lv_iinc (v := (x8 + 1)) (lv' := [(8, .int (x8 + 1)), (6, .long (x6 / 2)), (4, .long (x4 / 2)), (2, .int x2), (3, .int x3)]) hx hb dX11_partOfFraction_47 hl (k := 4) rfl rfl (by decide) rfl (fun ls hl => ?_)
        refine lv_goto (tgt := 12) hx hb dX11_partOfFraction_50 (by decide) ?_
        exact ih x2 x3 (x4 / 2) (x6 / 2) (x8 + 1) S _ _ _ hw hE  (lv_sub hl [3, 4, 2, 1, 0] rfl) hm
def m_X11_partOfFraction (n : Nat) (x0 : Int64) (x2 : Int32) (x3 : Int32) (S0 : pq_S) : Option (Int64 × pq_S) := cb (m_X11_scale n x2 S0) fun r3 S_1 => b_X11_partOfFraction_12 n n x2 x3 x0 r3 0 S_1
theorem tc_X11_partOfFraction : Cond.code yX11_partOfFraction cX11_partOfFraction 9 (some .long) ∈ pq_U := tw1182
theorem cd_X11_partOfFraction : yX11_partOfFraction.cls = RX11 ∧ yX11_partOfFraction.cls ≠ "java/lang/invoke/MethodHandle" ∧ yX11_partOfFraction.cls ≠ "java/lang/invoke/VarHandle" ∧ (parseMethodDescriptor yX11_partOfFraction.desc).map (fun d => d.parameters.length) = some 3 := by decide +kernel
set_option maxHeartbeats 4000000 in
set_option maxRecDepth 100000 in
theorem c_X11_partOfFraction (l : Launch) (C : pq_C) (X : va_W) (n : Nat) (S0 : pq_S) (hF : WF S0) (sz : Nat) (x0 : Int64) (x2 : Int32) (x3 : Int32)  (r : Int64) (S1 : pq_S) (hm : m_X11_partOfFraction n x0 x2 x3 S0 = some (r, S1)) : MJ l yX11_partOfFraction (.code yX11_partOfFraction cX11_partOfFraction 9 (some .long) :: pq_U) rm_X11_partOfFraction C X S0 sz [.long x0, .int x2, .int x3] r S1 0 0 := by
  refine Met.ofW (cc := cX11_partOfFraction) (maxL := 9) (ret := (some .long)) (by decide) rfl ?_
  intro p e s m args below meth c s₁ B hml hv
  obtain ⟨rfl, hv⟩ := hv
  have hsz := hv.1
  subst hsz
  have hw := pw_entry hF hv
  have hts := atoms_spec (ws := .code yX11_partOfFraction cX11_partOfFraction 9 (some .long) :: pq_U) B.pre
  have hU : ∀ w ∈ pq_U, w.before _ s = true := fun w h => hts w (List.mem_cons_of_mem _ h)
  have hx := B.exec
  have hb := B.bytes
  have hr := B.returns
  have hown : s.vm.findClass RX11 = some m.cls := findClass_of_methodNamed B.named
  have hlk := B.notSynchronized
  have hl := lv_entry ([.long x0, .int x2, .int x3]) (n := 9) (Nat.le_of_ble_eq_true rfl)
  rw [lg_entry_eq]
  generalize (lg_sl ([.long x0, .int x2, .int x3]) ++ List.replicate (9 - (lg_sl ([.long x0, .int x2, .int x3])).length) Slot.unset).toArray = ls at hl ⊢
  have hl : lv_has ls 9 [(0, .long x0), (2, .int x2), (3, .int x3)] := hl
  have hE : Ext S0 S0 := Ext.rf _
  have cx : Cx p s m _ meth c cX11_partOfFraction 9 RX11 (some .long) := ⟨hx, hb, hml, hown, hU, hr, hlk⟩
  rw [m_X11_partOfFraction] at hm
  refine lv_lload_n hx hb dX11_partOfFraction_0 rfl (lv_at hl 0 rfl) ?_
  refine lv_lstore (lv' := [(4, .long x0), (0, .long x0), (2, .int x2), (3, .int x3)]) hx hb dX11_partOfFraction_1 hl (by decide) rfl (fun ls hl => ?_)
  refine lv_iload_n hx hb dX11_partOfFraction_3 rfl (lv_at hl 2 rfl) ?_
  obtain ⟨r3, S_1, hq2, hm⟩ := cb_some hm
  refine pw_cj (va_runS (As := [.int x2]) (rest := []) ⟨hx, hb, hml, hown, hU⟩ (c_X11_scale l C X n S0 hw.wf _ x2  r3 S_1 hq2) ⟨callB_of 1 hU (pq_g1 tc_X11_scale) rfl rfl rfl (hU _ tw1) (hU _ tw1174) cd_X11_scale.2 ⟨Nat.le_of_ble_eq_true rfl, Nat.le_of_ble_eq_true rfl⟩, hU _ tw1175⟩ (pw_preS hw) rfl rfl hl.1 rfl (lv_room (Nat.le_of_ble_eq_true rfl)) dX11_partOfFraction_4 ⟨Nat.zero_le _, Nat.zero_le _⟩) hw (fun H locs hw hx4 => ?_)
  have hE : Ext S0 S_1 := Ext.tr hE hx4
  refine lv_lstore (lv' := [(6, .long r3), (4, .long x0), (0, .long x0), (2, .int x2), (3, .int x3)]) hx hb dX11_partOfFraction_7 hl (by decide) rfl (fun ls hl => ?_)
  refine lv_iconst (v := 0) hx hb dX11_partOfFraction_9 (by decide) ?_
  refine lv_istore (lv' := [(8, .int 0), (6, .long r3), (4, .long x0), (0, .long x0), (2, .int x2), (3, .int x3)]) hx hb dX11_partOfFraction_10 hl (by decide) rfl (fun ls hl => ?_)
  exact wb_X11_partOfFraction_12 cx C X S0 n r S1 n x2 x3 x0 r3 0 S_1 _ _ _ hw hE  (lv_sub hl [4, 5, 2, 1, 0] rfl) hm
abbrev rm_X11_looksBehind : Room := { frames := 1, cells := 0, slots := 0, locals := 40 }
def m_X11_looksBehind (n : Nat) (a0 : Nat) (x1 : Int32) (x2 : Int32) (S0 : pq_S) : Option (Int32 × pq_S) := if x2 ≤ 0 then some (0, S0) else if x1 ≤ x2 then some (0, S0) else Option.bind (pR S0 1111 a0) fun q3 => if (Int32.ofNat (pN S0 q3)) ≤ x1 then some (0, S0) else Option.bind (pR S0 1111 a0) fun q5 => ck (ix x2 (pN S0 q5)) (dix _ _) (Option.bind (pR S0 1111 a0) fun q7 => ck (ix (x1 - x2) (pN S0 q7)) (dix _ _) (some (((1 : Int32) + (if (pA S0 q5 (Int32.toNatClampNeg x2)) < (pA S0 q7 (Int32.toNatClampNeg (x1 - x2))) then (pA S0 q7 (Int32.toNatClampNeg (x1 - x2))) else (pA S0 q5 (Int32.toNatClampNeg x2)))), S0)))
theorem tc_X11_looksBehind : Cond.code yX11_looksBehind cX11_looksBehind 3 (some .int) ∈ pq_U := tw1269
theorem cd_X11_looksBehind : yX11_looksBehind.cls = RX11 ∧ yX11_looksBehind.cls ≠ "java/lang/invoke/MethodHandle" ∧ yX11_looksBehind.cls ≠ "java/lang/invoke/VarHandle" ∧ (parseMethodDescriptor yX11_looksBehind.desc).map (fun d => d.parameters.length) = some 2 := by decide +kernel
set_option maxHeartbeats 4000000 in
set_option maxRecDepth 100000 in
theorem c_X11_looksBehind (l : Launch) (C : pq_C) (X : va_W) (n : Nat) (S0 : pq_S) (hF : WF S0) (sz : Nat) (a0 : Nat) (x1 : Int32) (x2 : Int32) (Ta0 : TY S0 a0 11) (r : Int32) (S1 : pq_S) (hm : m_X11_looksBehind n a0 x1 x2 S0 = some (r, S1)) : MI l yX11_looksBehind (.code yX11_looksBehind cX11_looksBehind 3 (some .int) :: pq_U) rm_X11_looksBehind C X S0 sz [.ref a0, .int x1, .int x2] r S1 0 0 := by
  refine Met.ofW (cc := cX11_looksBehind) (maxL := 3) (ret := (some .int)) (by decide) rfl ?_
  intro p e s m args below meth c s₁ B hml hv
  obtain ⟨rfl, hv⟩ := hv
  have hsz := hv.1
  subst hsz
  have hw := pw_entry hF hv
  have hts := atoms_spec (ws := .code yX11_looksBehind cX11_looksBehind 3 (some .int) :: pq_U) B.pre
  have hU : ∀ w ∈ pq_U, w.before _ s = true := fun w h => hts w (List.mem_cons_of_mem _ h)
  have hx := B.exec
  have hb := B.bytes
  have hr := B.returns
  have hown : s.vm.findClass RX11 = some m.cls := findClass_of_methodNamed B.named
  have hlk := B.notSynchronized
  have hl := lv_entry ([.ref a0, .int x1, .int x2]) (n := 3) (Nat.le_of_ble_eq_true rfl)
  rw [lg_entry_eq]
  generalize (lg_sl ([.ref a0, .int x1, .int x2]) ++ List.replicate (3 - (lg_sl ([.ref a0, .int x1, .int x2])).length) Slot.unset).toArray = ls at hl ⊢
  have hl : lv_has ls 3 [(0, .ref a0), (1, .int x1), (2, .int x2)] := hl
  have hE : Ext S0 S0 := Ext.rf _
  have cx : Cx p s m _ meth c cX11_looksBehind 3 RX11 (some .int) := ⟨hx, hb, hml, hown, hU, hr, hlk⟩
  rw [m_X11_looksBehind] at hm
  refine lv_iload_n hx hb dX11_looksBehind_0 rfl (lv_at hl 2 rfl) ?_
  refine lv_if_le (tgt := 40) hx hb dX11_looksBehind_1 (by decide) (fun h1 => ?_) (fun h1 => ?_)
  · rw [if_pos h1] at hm
    refine lv_iconst (v := 0) hx hb dX11_looksBehind_40 (by decide) ?_
    cases hm
    exact pw_iret hx hb hr rfl hlk hw hE dX11_looksBehind_41
  · rw [if_neg h1] at hm
    refine lv_iload_n hx hb dX11_looksBehind_4 rfl (lv_at hl 2 rfl) ?_
    refine lv_iload_n hx hb dX11_looksBehind_5 rfl (lv_at hl 1 rfl) ?_
    refine lv_icmp_ge (tgt := 40) hx hb dX11_looksBehind_6 (by decide) (fun h2 => ?_) (fun h2 => ?_)
    · rw [if_pos h2] at hm
      refine lv_iconst (v := 0) hx hb dX11_looksBehind_40 (by decide) ?_
      cases hm
      exact pw_iret hx hb hr rfl hlk hw hE dX11_looksBehind_41
    · rw [if_neg h2] at hm
      refine lv_iload_n hx hb dX11_looksBehind_9 rfl (lv_at hl 1 rfl) ?_
      refine lv_aload_n hx hb dX11_looksBehind_10 rfl (lv_at hl 0 rfl) ?_
      obtain ⟨q3, hq3, hm⟩ := bd_some hm
      have Tq3 : TY S0 q3 14 := hw.wf.ref (k := 11) (j := 11) Ta0 (by decide) (by decide) hq3
      refine pg_rb (k := 11) (j := 11) (f := 1111) hx hb hown hU iu11 hw Ta0 (by decide) rfl (hU _ tw374) rfl hq3 dX11_looksBehind_11 ?_
      refine pw_alenI (v := (Int32.ofNat (pN S0 q3))) hx hb hw Tq3 rfl dX11_looksBehind_14 ?_
      refine lv_icmp_ge (tgt := 40) hx hb dX11_looksBehind_15 (by decide) (fun h4 => ?_) (fun h4 => ?_)
      · rw [if_pos h4] at hm
        refine lv_iconst (v := 0) hx hb dX11_looksBehind_40 (by decide) ?_
        cases hm
        exact pw_iret hx hb hr rfl hlk hw hE dX11_looksBehind_41
      · rw [if_neg h4] at hm
        refine lv_iconst (v := 1) hx hb dX11_looksBehind_18 (by decide) ?_
        refine lv_aload_n hx hb dX11_looksBehind_19 rfl (lv_at hl 0 rfl) ?_
        obtain ⟨q5, hq5, hm⟩ := bd_some hm
        have Tq5 : TY S0 q5 14 := hw.wf.ref (k := 11) (j := 11) Ta0 (by decide) (by decide) hq5
        refine pg_rb (k := 11) (j := 11) (f := 1111) hx hb hown hU iu11 hw Ta0 (by decide) rfl (hU _ tw374) rfl hq5 dX11_looksBehind_20 ?_
        refine lv_iload_n hx hb dX11_looksBehind_23 rfl (lv_at hl 2 rfl) ?_
        obtain ⟨hi6, hm⟩ := ck_some hm
        refine pw_iald hx hb hw Tq5 hi6 dX11_looksBehind_24 ?_
        refine lv_aload_n hx hb dX11_looksBehind_25 rfl (lv_at hl 0 rfl) ?_
        obtain ⟨q7, hq7, hm⟩ := bd_some hm
        have Tq7 : TY S0 q7 14 := hw.wf.ref (k := 11) (j := 11) Ta0 (by decide) (by decide) hq7
        refine pg_rb (k := 11) (j := 11) (f := 1111) hx hb hown hU iu11 hw Ta0 (by decide) rfl (hU _ tw374) rfl hq7 dX11_looksBehind_26 ?_
        refine lv_iload_n hx hb dX11_looksBehind_29 rfl (lv_at hl 1 rfl) ?_
        refine lv_iload_n hx hb dX11_looksBehind_30 rfl (lv_at hl 2 rfl) ?_
        refine lv_isub hx hb dX11_looksBehind_31 ?_
        obtain ⟨hi8, hm⟩ := ck_some hm
        refine pw_iald hx hb hw Tq7 hi8 dX11_looksBehind_32 ?_
        refine va_mmax hx hb (by rw [hml]; exact hl.1.symm) hown (hU _ tw1173) (hU _ twm_max_s) (hU _ twm_i) (hU _ twm_max_c) (Nat.le_of_ble_eq_true rfl) (Nat.le_of_ble_eq_true rfl) (Nat.zero_le _) (Nat.zero_le _) dX11_looksBehind_33 ?_
        refine lv_iadd hx hb dX11_looksBehind_36 ?_
        refine lv_goto (tgt := 41) hx hb dX11_looksBehind_37 (by decide) ?_
        cases hm
        exact pw_iret hx hb hr rfl hlk hw hE dX11_looksBehind_41
abbrev rm_X12_thrown : Room := { frames := 0, cells := 0, slots := 0, locals := 0 }
def m_X12_thrown (n : Nat) (a0 : Nat) (S0 : pq_S) : Option (Int32 × pq_S) := some ((pI S0 1200 a0), S0)
theorem tc_X12_thrown : Cond.code yX12_thrown cX12_thrown 1 (some .int) ∈ pq_U := tw1452
theorem cd_X12_thrown : yX12_thrown.cls = RX12 ∧ yX12_thrown.cls ≠ "java/lang/invoke/MethodHandle" ∧ yX12_thrown.cls ≠ "java/lang/invoke/VarHandle" ∧ (parseMethodDescriptor yX12_thrown.desc).map (fun d => d.parameters.length) = some 0 := by decide +kernel
set_option maxHeartbeats 4000000 in
set_option maxRecDepth 100000 in
theorem c_X12_thrown (l : Launch) (C : pq_C) (X : va_W) (n : Nat) (S0 : pq_S) (hF : WF S0) (sz : Nat) (a0 : Nat) (Ta0 : TY S0 a0 12) (r : Int32) (S1 : pq_S) (hm : m_X12_thrown n a0 S0 = some (r, S1)) : MI l yX12_thrown (.code yX12_thrown cX12_thrown 1 (some .int) :: pq_U) rm_X12_thrown C X S0 sz [.ref a0] r S1 0 0 := by
  refine Met.ofW (cc := cX12_thrown) (maxL := 1) (ret := (some .int)) (by decide) rfl ?_
  intro p e s m args below meth c s₁ B hml hv
  obtain ⟨rfl, hv⟩ := hv
  have hsz := hv.1
  subst hsz
  have hw := pw_entry hF hv
  have hts := atoms_spec (ws := .code yX12_thrown cX12_thrown 1 (some .int) :: pq_U) B.pre
  have hU : ∀ w ∈ pq_U, w.before _ s = true := fun w h => hts w (List.mem_cons_of_mem _ h)
  have hx := B.exec
  have hb := B.bytes
  have hr := B.returns
  have hown : s.vm.findClass RX12 = some m.cls := findClass_of_methodNamed B.named
  have hlk := B.notSynchronized
  have hl := lv_entry ([.ref a0]) (n := 1) (Nat.le_of_ble_eq_true rfl)
  rw [lg_entry_eq]
  generalize (lg_sl ([.ref a0]) ++ List.replicate (1 - (lg_sl ([.ref a0])).length) Slot.unset).toArray = ls at hl ⊢
  have hl : lv_has ls 1 [(0, .ref a0)] := hl
  have hE : Ext S0 S0 := Ext.rf _
  have cx : Cx p s m _ meth c cX12_thrown 1 RX12 (some .int) := ⟨hx, hb, hml, hown, hU, hr, hlk⟩
  rw [m_X12_thrown] at hm
  refine lv_aload_n hx hb dX12_thrown_0 rfl (lv_at hl 0 rfl) ?_
  refine pg_i (k := 12) (j := 0) (f := 1200) hx hb hown hU iu12 hw Ta0 (by decide) rfl (hU _ tw1471) rfl dX12_thrown_1 ?_
  cases hm
  exact pw_iret hx hb hr rfl hlk hw hE dX12_thrown_4
abbrev rm_X12_may : Room := { frames := 0, cells := 0, slots := 0, locals := 0 }
def b_X12_may_26 (n : Nat) (a0 : Nat) (S : pq_S) : Option (Int32 × pq_S) := if (pI S 1200 a0) = 0 then some (1, S) else some (0, S)
set_option maxHeartbeats 4000000 in
set_option maxRecDepth 100000 in
theorem wb_X12_may_26 {p : Program} {l : Launch} {e : Env} {s : State} {m : MethodId} {args : Array Value} {below : List Frame} {meth : Method} {c : Code} (cx : Cx p s m args meth c cX12_may 4 RX12 (some .boolean)) (C : pq_C) (X : va_W) (S0 : pq_S) (n : Nat) (r : Int32) (S1 : pq_S) : ∀ (a0 : Nat) (S : pq_S) (H : Heap) (locs : List Loc) (ls : Array Slot), PW C X S (pq_F C X S0 s.heap.size) H locs s → Ext S0 S → TY S a0 12 → lv_has ls 4 [(0, .ref a0)] → b_X12_may_26 n a0 S = some (r, S1) → W p l e rm_X12_may s m args below meth c H locs 0 0 (MQ below (QcZ C X S0 s.heap.size r S1) args s 0 0 (pq_F C X S0 s.heap.size)) (F0 m 26 ls []) := by
  obtain ⟨hx, hb, hml, hown, hU, hr, hlk⟩ := id cx
  intro a0 S H locs ls hw hE Ta0 hl hm
  rw [b_X12_may_26] at hm
  refine lv_aload_n hx hb dX12_may_26 rfl (lv_at hl 0 rfl) ?_
  refine pg_i (k := 12) (j := 0) (f := 1200) hx hb hown hU iu12 hw Ta0 (by decide) rfl (hU _ tw1471) rfl dX12_may_27 ?_
  refine lv_if_ne (tgt := 37) hx hb dX12_may_30 (by decide) (fun h7 => ?_) (fun h7 => ?_)
  · rw [if_neg h7] at hm
    refine lv_iconst (v := 0) hx hb dX12_may_37 (by decide) ?_
    cases hm
    exact pw_zret hx hb hr bz_0 hlk hw hE dX12_may_38
  · rw [if_pos h7] at hm
    refine lv_iconst (v := 1) hx hb dX12_may_33 (by decide) ?_
    refine lv_goto (tgt := 38) hx hb dX12_may_34 (by decide) ?_
    cases hm
    exact pw_zret hx hb hr bz_1 hlk hw hE dX12_may_38
def m_X12_may (n : Nat) (a0 : Nat) (x1 : Int32) (x2 : Int32) (x3 : Int32) (S0 : pq_S) : Option (Int32 × pq_S) := if x1 = 0 then if (pI S0 1200 a0) = 0 then Option.bind (pR (sI S0 1200 a0 x2) 1201 a0) fun q3 => ck (ix x3 (pN (sI S0 1200 a0 x2) q3)) (dix _ _) (ck (ix x3 (pN (sI S0 1200 a0 x2) q3)) (dix _ _) (lt_ (sA (sI S0 1200 a0 x2) q3 (Int32.toNatClampNeg x3) ((pA (sI S0 1200 a0 x2) q3 (Int32.toNatClampNeg x3)) + (1 : Int32))) fun S_6 => b_X12_may_26 n a0 S_6)) else b_X12_may_26 n a0 S0 else b_X12_may_26 n a0 S0
theorem tc_X12_may : Cond.code yX12_may cX12_may 4 (some .boolean) ∈ pq_U := tw1706
theorem cd_X12_may : yX12_may.cls = RX12 ∧ yX12_may.cls ≠ "java/lang/invoke/MethodHandle" ∧ yX12_may.cls ≠ "java/lang/invoke/VarHandle" ∧ (parseMethodDescriptor yX12_may.desc).map (fun d => d.parameters.length) = some 3 := by decide +kernel
set_option maxHeartbeats 4000000 in
set_option maxRecDepth 100000 in
theorem c_X12_may (l : Launch) (C : pq_C) (X : va_W) (n : Nat) (S0 : pq_S) (hF : WF S0) (sz : Nat) (a0 : Nat) (x1 : Int32) (x2 : Int32) (x3 : Int32) (Ta0 : TY S0 a0 12) (r : Int32) (S1 : pq_S) (hm : m_X12_may n a0 x1 x2 x3 S0 = some (r, S1)) : MZ l yX12_may (.code yX12_may cX12_may 4 (some .boolean) :: pq_U) rm_X12_may C X S0 sz [.ref a0, .int x1, .int x2, .int x3] r S1 0 0 := by
  refine Met.ofW (cc := cX12_may) (maxL := 4) (ret := (some .boolean)) (by decide) rfl ?_
  intro p e s m args below meth c s₁ B hml hv
  obtain ⟨rfl, hv⟩ := hv
  have hsz := hv.1
  subst hsz
  have hw := pw_entry hF hv
  have hts := atoms_spec (ws := .code yX12_may cX12_may 4 (some .boolean) :: pq_U) B.pre
  have hU : ∀ w ∈ pq_U, w.before _ s = true := fun w h => hts w (List.mem_cons_of_mem _ h)
  have hx := B.exec
  have hb := B.bytes
  have hr := B.returns
  have hown : s.vm.findClass RX12 = some m.cls := findClass_of_methodNamed B.named
  have hlk := B.notSynchronized
  have hl := lv_entry ([.ref a0, .int x1, .int x2, .int x3]) (n := 4) (Nat.le_of_ble_eq_true rfl)
  rw [lg_entry_eq]
  generalize (lg_sl ([.ref a0, .int x1, .int x2, .int x3]) ++ List.replicate (4 - (lg_sl ([.ref a0, .int x1, .int x2, .int x3])).length) Slot.unset).toArray = ls at hl ⊢
  have hl : lv_has ls 4 [(0, .ref a0), (1, .int x1), (2, .int x2), (3, .int x3)] := hl
  have hE : Ext S0 S0 := Ext.rf _
  have cx : Cx p s m _ meth c cX12_may 4 RX12 (some .boolean) := ⟨hx, hb, hml, hown, hU, hr, hlk⟩
  rw [m_X12_may] at hm
  refine lv_iload_n hx hb dX12_may_0 rfl (lv_at hl 1 rfl) ?_
  refine lv_if_ne (tgt := 26) hx hb dX12_may_1 (by decide) (fun h1 => ?_) (fun h1 => ?_)
  · rw [if_neg h1] at hm
    exact wb_X12_may_26 cx C X S0 n r S1 a0 S0 _ _ _ hw hE Ta0 (lv_sub hl [0] rfl) hm
  · rw [if_pos h1] at hm
    refine lv_aload_n hx hb dX12_may_4 rfl (lv_at hl 0 rfl) ?_
    refine pg_i (k := 12) (j := 0) (f := 1200) hx hb hown hU iu12 hw Ta0 (by decide) rfl (hU _ tw1471) rfl dX12_may_5 ?_
    refine lv_if_ne (tgt := 26) hx hb dX12_may_8 (by decide) (fun h2 => ?_) (fun h2 => ?_)
    · rw [if_neg h2] at hm
      exact wb_X12_may_26 cx C X S0 n r S1 a0 S0 _ _ _ hw hE Ta0 (lv_sub hl [0] rfl) hm
    · rw [if_pos h2] at hm
      refine lv_aload_n hx hb dX12_may_11 rfl (lv_at hl 0 rfl) ?_
      refine lv_iload_n hx hb dX12_may_12 rfl (lv_at hl 2 rfl) ?_
      refine pp_i (k := 12) (j := 0) (f := 1200) hx hb hown hU iu12 tyX12_ok nmX12 hw Ta0 (by decide) rfl (hU _ tw1471) rfl rfl rfl dX12_may_13 (fun H locs hw => ?_)
      refine lv_aload_n hx hb dX12_may_16 rfl (lv_at hl 0 rfl) ?_
      obtain ⟨q3, hq3, hm⟩ := bd_some hm
      have Tq3 : TY (sI S0 1200 a0 x2) q3 14 := hw.wf.ref (k := 12) (j := 1) Ta0 (by decide) (by decide) hq3
      refine pg_rb (k := 12) (j := 1) (f := 1201) hx hb hown hU iu12 hw Ta0 (by decide) rfl (hU _ tw1472) rfl hq3 dX12_may_17 ?_
      refine lv_iload_n hx hb dX12_may_20 rfl (lv_at hl 3 rfl) ?_
      refine lv_dup2_11 hx hb dX12_may_21 rfl rfl ?_
      obtain ⟨hi4, hm⟩ := ck_some hm
      refine pw_iald hx hb hw Tq3 hi4 dX12_may_22 ?_
      refine lv_iconst (v := 1) hx hb dX12_may_23 (by decide) ?_
      refine lv_iadd hx hb dX12_may_24 ?_
      obtain ⟨hi5, hm⟩ := ck_some hm
      refine pw_iast hx hb hw Tq3 hi5 dX12_may_25 (fun H locs hw => ?_)
      obtain ⟨S_6, eS_6, hm⟩ := lt_some hm
      rw [← eS_6] at hw
      have Ta0 : TY S_6 a0 12 := by rw [eS_6]; exact Ta0
      have hE : Ext S0 S_6 := by rw [eS_6]; exact hE
      exact wb_X12_may_26 cx C X S0 n r S1 a0 S_6 _ _ _ hw hE Ta0 (lv_sub hl [0] rfl) hm
abbrev rm_X12_within : Room := { frames := 0, cells := 0, slots := 0, locals := 0 }
def m_X12_within (n : Nat) (x0 : Int32) (x1 : Int32) (x2 : Int32) (S0 : pq_S) : Option (Int32 × pq_S) := if x0 < x1 then some (0, S0) else if x2 < x0 then some (0, S0) else some (1, S0)
theorem tc_X12_within : Cond.code yX12_within cX12_within 3 (some .boolean) ∈ pq_U := tw1778
theorem cd_X12_within : yX12_within.cls = RX12 ∧ yX12_within.cls ≠ "java/lang/invoke/MethodHandle" ∧ yX12_within.cls ≠ "java/lang/invoke/VarHandle" ∧ (parseMethodDescriptor yX12_within.desc).map (fun d => d.parameters.length) = some 3 := by decide +kernel
set_option maxHeartbeats 4000000 in
set_option maxRecDepth 100000 in
theorem c_X12_within (l : Launch) (C : pq_C) (X : va_W) (n : Nat) (S0 : pq_S) (hF : WF S0) (sz : Nat) (x0 : Int32) (x1 : Int32) (x2 : Int32)  (r : Int32) (S1 : pq_S) (hm : m_X12_within n x0 x1 x2 S0 = some (r, S1)) : MZ l yX12_within (.code yX12_within cX12_within 3 (some .boolean) :: pq_U) rm_X12_within C X S0 sz [.int x0, .int x1, .int x2] r S1 0 0 := by
  refine Met.ofW (cc := cX12_within) (maxL := 3) (ret := (some .boolean)) (by decide) rfl ?_
  intro p e s m args below meth c s₁ B hml hv
  obtain ⟨rfl, hv⟩ := hv
  have hsz := hv.1
  subst hsz
  have hw := pw_entry hF hv
  have hts := atoms_spec (ws := .code yX12_within cX12_within 3 (some .boolean) :: pq_U) B.pre
  have hU : ∀ w ∈ pq_U, w.before _ s = true := fun w h => hts w (List.mem_cons_of_mem _ h)
  have hx := B.exec
  have hb := B.bytes
  have hr := B.returns
  have hown : s.vm.findClass RX12 = some m.cls := findClass_of_methodNamed B.named
  have hlk := B.notSynchronized
  have hl := lv_entry ([.int x0, .int x1, .int x2]) (n := 3) (Nat.le_of_ble_eq_true rfl)
  rw [lg_entry_eq]
  generalize (lg_sl ([.int x0, .int x1, .int x2]) ++ List.replicate (3 - (lg_sl ([.int x0, .int x1, .int x2])).length) Slot.unset).toArray = ls at hl ⊢
  have hl : lv_has ls 3 [(0, .int x0), (1, .int x1), (2, .int x2)] := hl
  have hE : Ext S0 S0 := Ext.rf _
  have cx : Cx p s m _ meth c cX12_within 3 RX12 (some .boolean) := ⟨hx, hb, hml, hown, hU, hr, hlk⟩
  rw [m_X12_within] at hm
  refine lv_iload_n hx hb dX12_within_0 rfl (lv_at hl 0 rfl) ?_
  refine lv_iload_n hx hb dX12_within_1 rfl (lv_at hl 1 rfl) ?_
  refine lv_icmp_lt (tgt := 14) hx hb dX12_within_2 (by decide) (fun h1 => ?_) (fun h1 => ?_)
  · rw [if_pos h1] at hm
    refine lv_iconst (v := 0) hx hb dX12_within_14 (by decide) ?_
    cases hm
    exact pw_zret hx hb hr bz_0 hlk hw hE dX12_within_15
  · rw [if_neg h1] at hm
    refine lv_iload_n hx hb dX12_within_5 rfl (lv_at hl 0 rfl) ?_
    refine lv_iload_n hx hb dX12_within_6 rfl (lv_at hl 2 rfl) ?_
    refine lv_icmp_gt (tgt := 14) hx hb dX12_within_7 (by decide) (fun h2 => ?_) (fun h2 => ?_)
    · rw [if_pos h2] at hm
      refine lv_iconst (v := 0) hx hb dX12_within_14 (by decide) ?_
      cases hm
      exact pw_zret hx hb hr bz_0 hlk hw hE dX12_within_15
    · rw [if_neg h2] at hm
      refine lv_iconst (v := 1) hx hb dX12_within_10 (by decide) ?_
      refine lv_goto (tgt := 15) hx hb dX12_within_11 (by decide) ?_
      cases hm
      exact pw_zret hx hb hr bz_1 hlk hw hE dX12_within_15
abbrev rm_X12_feed : Room := { frames := 0, cells := 0, slots := 0, locals := 0 }
def b_X12_feed_76 (n : Nat) (k13 : Nat → Int32 → Int32 → Int32 → Int32 → Int32 → Int32 → pq_S → Option (Int32 × pq_S)) (a0 : Nat) (x1 : Int32) (x2 : Int32) (x3 : Int32) (x4 : Int32) (x5 : Int32) (x6 : Int32) (z0 : Int32) (S : pq_S) : Option (Int32 × pq_S) := Option.bind (pR S 1209 a0) fun q7 => ck (ix (pI S 1202 a0) (pN S q7)) (dix _ _) (lt_ (sA S q7 (Int32.toNatClampNeg (pI S 1202 a0)) ((z0 >>> (((24 : Int32) - ((8 : Int32) * (x6 - x6 / 4 * 4))) &&& (31 : Int32))) &&& (255 : Int32))) fun S_9 => k13 a0 x1 x2 x3 x4 x5 (x6 + 1) (sI S_9 1202 a0 ((pI S_9 1202 a0) + (1 : Int32))))
set_option maxHeartbeats 4000000 in
set_option maxRecDepth 100000 in
theorem wb_X12_feed_76 {p : Program} {l : Launch} {e : Env} {s : State} {m : MethodId} {args : Array Value} {below : List Frame} {meth : Method} {c : Code} (cx : Cx p s m args meth c cX12_feed 8 RX12 (some .int)) (C : pq_C) (X : va_W) (S0 : pq_S) (n : Nat) (r : Int32) (S1 : pq_S) (k13 : Nat → Int32 → Int32 → Int32 → Int32 → Int32 → Int32 → pq_S → Option (Int32 × pq_S)) (hk13 : ∀ (a0 : Nat) (x1 : Int32) (x2 : Int32) (x3 : Int32) (x4 : Int32) (x5 : Int32) (x6 : Int32) (S : pq_S) (H : Heap) (locs : List Loc) (ls : Array Slot), PW C X S (pq_F C X S0 s.heap.size) H locs s → Ext S0 S → TY S a0 12 → lv_has ls 8 [(0, .ref a0), (1, .int x1), (2, .int x2), (3, .int x3), (4, .int x4), (5, .int x5), (6, .int x6)] → k13 a0 x1 x2 x3 x4 x5 x6 S = some (r, S1) → W p l e rm_X12_feed s m args below meth c H locs 0 0 (MQ below (QcI C X S0 s.heap.size r S1) args s 0 0 (pq_F C X S0 s.heap.size)) (F0 m 23 ls [])) : ∀ (a0 : Nat) (x1 : Int32) (x2 : Int32) (x3 : Int32) (x4 : Int32) (x5 : Int32) (x6 : Int32) (z0 : Int32) (S : pq_S) (H : Heap) (locs : List Loc) (ls : Array Slot), PW C X S (pq_F C X S0 s.heap.size) H locs s → Ext S0 S → TY S a0 12 → lv_has ls 8 [(0, .ref a0), (1, .int x1), (2, .int x2), (3, .int x3), (4, .int x4), (5, .int x5), (6, .int x6)] → b_X12_feed_76 n k13 a0 x1 x2 x3 x4 x5 x6 z0 S = some (r, S1) → W p l e rm_X12_feed s m args below meth c H locs 0 0 (MQ below (QcI C X S0 s.heap.size r S1) args s 0 0 (pq_F C X S0 s.heap.size)) (F0 m 76 ls [.int z0]) := by
  obtain ⟨hx, hb, hml, hown, hU, hr, hlk⟩ := id cx
  intro a0 x1 x2 x3 x4 x5 x6 z0 S H locs ls hw hE Ta0 hl hm
  rw [b_X12_feed_76] at hm
  refine lv_istore (lv' := [(7, .int z0), (0, .ref a0), (1, .int x1), (2, .int x2), (3, .int x3), (4, .int x4), (5, .int x5), (6, .int x6)]) hx hb dX12_feed_76 hl (by decide) rfl (fun ls hl => ?_)
  refine lv_aload_n hx hb dX12_feed_78 rfl (lv_at hl 1 rfl) ?_
  obtain ⟨q7, hq7, hm⟩ := bd_some hm
  have Tq7 : TY S q7 14 := hw.wf.ref (k := 12) (j := 9) Ta0 (by decide) (by decide) hq7
  refine pg_rb (k := 12) (j := 9) (f := 1209) hx hb hown hU iu12 hw Ta0 (by decide) rfl (hU _ tw1480) rfl hq7 dX12_feed_79 ?_
  refine lv_aload_n hx hb dX12_feed_82 rfl (lv_at hl 1 rfl) ?_
  refine pg_i (k := 12) (j := 2) (f := 1202) hx hb hown hU iu12 hw Ta0 (by decide) rfl (hU _ tw1473) rfl dX12_feed_83 ?_
  refine lv_iload hx hb dX12_feed_86 (lv_at hl 0 rfl) ?_
  refine lv_bipush (v := 24) hx hb dX12_feed_88 (by decide) ?_
  refine lv_bipush (v := 8) hx hb dX12_feed_90 (by decide) ?_
  refine lv_iload hx hb dX12_feed_92 (lv_at hl 7 rfl) ?_
  refine lv_iconst (v := 4) hx hb dX12_feed_94 (by decide) ?_
  refine lv_irem hx hb dX12_feed_95 (by decide) ?_
  refine lv_imul hx hb dX12_feed_96 ?_
  refine lv_isub hx hb dX12_feed_97 ?_
  refine lv_ishr hx hb dX12_feed_98 ?_
  refine lv_sipush (v := 255) hx hb dX12_feed_99 (by decide) ?_
  refine lv_iand hx hb dX12_feed_102 ?_
  obtain ⟨hi8, hm⟩ := ck_some hm
  refine pw_iast hx hb hw Tq7 hi8 dX12_feed_103 (fun H locs hw => ?_)
  obtain ⟨S_9, eS_9, hm⟩ := lt_some hm
  rw [← eS_9] at hw
  have Ta0 : TY S_9 a0 12 := by rw [eS_9]; exact Ta0
  have hE : Ext S0 S_9 := by rw [eS_9]; exact hE
  refine lv_aload_n hx hb dX12_feed_104 rfl (lv_at hl 1 rfl) ?_
  refine lv_dup hx hb dX12_feed_105 rfl ?_
  refine pg_i (k := 12) (j := 2) (f := 1202) hx hb hown hU iu12 hw Ta0 (by decide) rfl (hU _ tw1473) rfl dX12_feed_106 ?_
  refine lv_iconst (v := 1) hx hb dX12_feed_109 (by decide) ?_
  refine lv_iadd hx hb dX12_feed_110 ?_
  refine pp_i (k := 12) (j := 2) (f := 1202) hx hb hown hU iu12 tyX12_ok nmX12 hw Ta0 (by decide) rfl (hU _ tw1473) rfl rfl rfl dX12_feed_111 (fun H locs hw => ?_)
  refine lv_iinc (v := (x6 + 1)) (lv' := [(6, .int (x6 + 1)), (7, .int z0), (0, .ref a0), (1, .int x1), (2, .int x2), (3, .int x3), (4, .int x4), (5, .int x5)]) hx hb dX12_feed_114 hl (k := 7) rfl rfl (by decide) rfl (fun ls hl => ?_)
  refine lv_goto (tgt := 23) hx hb dX12_feed_117 (by decide) ?_
  exact hk13 a0 x1 x2 x3 x4 x5 (x6 + 1) (sI S_9 1202 a0 ((pI S_9 1202 a0) + (1 : Int32))) _ _ _ hw hE Ta0 (lv_sub hl [2, 3, 4, 5, 6, 7, 0] rfl) hm
def b_X12_feed_23 (n : Nat) : Nat → Nat → Int32 → Int32 → Int32 → Int32 → Int32 → Int32 → pq_S → Option (Int32 × pq_S)
  | 0, _, _, _, _, _, _, _, _ => none
  | f + 1, a0, x1, x2, x3, x4, x5, x6, S => if 20 ≤ x6 then some ((pI S 1202 a0), S) else if 4 ≤ x6 then if 8 ≤ x6 then if 12 ≤ x6 then if 16 ≤ x6 then b_X12_feed_76 n (b_X12_feed_23 n f) a0 x1 x2 x3 x4 x5 x6 x5 S else b_X12_feed_76 n (b_X12_feed_23 n f) a0 x1 x2 x3 x4 x5 x6 x4 S else b_X12_feed_76 n (b_X12_feed_23 n f) a0 x1 x2 x3 x4 x5 x6 x3 S else b_X12_feed_76 n (b_X12_feed_23 n f) a0 x1 x2 x3 x4 x5 x6 x2 S else b_X12_feed_76 n (b_X12_feed_23 n f) a0 x1 x2 x3 x4 x5 x6 x1 S
set_option maxHeartbeats 4000000 in
set_option maxRecDepth 100000 in
theorem wb_X12_feed_23 {p : Program} {l : Launch} {e : Env} {s : State} {m : MethodId} {args : Array Value} {below : List Frame} {meth : Method} {c : Code} (cx : Cx p s m args meth c cX12_feed 8 RX12 (some .int)) (C : pq_C) (X : va_W) (S0 : pq_S) (n : Nat) (r : Int32) (S1 : pq_S) : ∀ (f : Nat) (a0 : Nat) (x1 : Int32) (x2 : Int32) (x3 : Int32) (x4 : Int32) (x5 : Int32) (x6 : Int32) (S : pq_S) (H : Heap) (locs : List Loc) (ls : Array Slot), PW C X S (pq_F C X S0 s.heap.size) H locs s → Ext S0 S → TY S a0 12 → lv_has ls 8 [(0, .ref a0), (1, .int x1), (2, .int x2), (3, .int x3), (4, .int x4), (5, .int x5), (6, .int x6)] → b_X12_feed_23 n f a0 x1 x2 x3 x4 x5 x6 S = some (r, S1) → W p l e rm_X12_feed s m args below meth c H locs 0 0 (MQ below (QcI C X S0 s.heap.size r S1) args s 0 0 (pq_F C X S0 s.heap.size)) (F0 m 23 ls []) := by
  obtain ⟨hx, hb, hml, hown, hU, hr, hlk⟩ := id cx
  intro f
  induction f with
  | zero =>
    intro a0 x1 x2 x3 x4 x5 x6 S H locs ls hw hE Ta0 hl hm
    cases hm
  | succ f ih =>
    intro a0 x1 x2 x3 x4 x5 x6 S H locs ls hw hE Ta0 hl hm
    rw [b_X12_feed_23] at hm
    refine lv_iload hx hb dX12_feed_23 (lv_at hl 6 rfl) ?_
    refine lv_bipush (v := 20) hx hb dX12_feed_25 (by decide) ?_
    refine lv_icmp_ge (tgt := 120) hx hb dX12_feed_27 (by decide) (fun h2 => ?_) (fun h2 => ?_)
    · rw [if_pos h2] at hm
      refine lv_aload_n hx hb dX12_feed_120 rfl (lv_at hl 0 rfl) ?_
      refine pg_i (k := 12) (j := 2) (f := 1202) hx hb hown hU iu12 hw Ta0 (by decide) rfl (hU _ tw1473) rfl dX12_feed_121 ?_
      cases hm
      exact pw_iret hx hb hr rfl hlk hw hE dX12_feed_124
    · rw [if_neg h2] at hm
      refine lv_iload hx hb dX12_feed_30 (lv_at hl 6 rfl) ?_
      refine lv_iconst (v := 4) hx hb dX12_feed_32 (by decide) ?_
      refine lv_icmp_ge (tgt := 40) hx hb dX12_feed_33 (by decide) (fun h3 => ?_) (fun h3 => ?_)
      · rw [if_pos h3] at hm
        refine lv_iload hx hb dX12_feed_40 (lv_at hl 6 rfl) ?_
        refine lv_bipush (v := 8) hx hb dX12_feed_42 (by decide) ?_
        refine lv_icmp_ge (tgt := 51) hx hb dX12_feed_44 (by decide) (fun h4 => ?_) (fun h4 => ?_)
        · rw [if_pos h4] at hm
          refine lv_iload hx hb dX12_feed_51 (lv_at hl 6 rfl) ?_
          refine lv_bipush (v := 12) hx hb dX12_feed_53 (by decide) ?_
          refine lv_icmp_ge (tgt := 62) hx hb dX12_feed_55 (by decide) (fun h5 => ?_) (fun h5 => ?_)
          · rw [if_pos h5] at hm
            refine lv_iload hx hb dX12_feed_62 (lv_at hl 6 rfl) ?_
            refine lv_bipush (v := 16) hx hb dX12_feed_64 (by decide) ?_
            refine lv_icmp_ge (tgt := 74) hx hb dX12_feed_66 (by decide) (fun h6 => ?_) (fun h6 => ?_)
            · rw [if_pos h6] at hm
              refine lv_iload hx hb dX12_feed_74 (lv_at hl 5 rfl) ?_
              exact wb_X12_feed_76 cx C X S0 n r S1 _ ih a0 x1 x2 x3 x4 x5 x6 x5 S _ _ _ hw hE Ta0 (lv_sub hl [0, 1, 2, 3, 4, 5, 6] rfl) hm
            · rw [if_neg h6] at hm
              refine lv_iload hx hb dX12_feed_69 (lv_at hl 4 rfl) ?_
              refine lv_goto (tgt := 76) hx hb dX12_feed_71 (by decide) ?_
              exact wb_X12_feed_76 cx C X S0 n r S1 _ ih a0 x1 x2 x3 x4 x5 x6 x4 S _ _ _ hw hE Ta0 (lv_sub hl [0, 1, 2, 3, 4, 5, 6] rfl) hm
          · rw [if_neg h5] at hm
            refine lv_iload_n hx hb dX12_feed_58 rfl (lv_at hl 3 rfl) ?_
            refine lv_goto (tgt := 76) hx hb dX12_feed_59 (by decide) ?_
            exact wb_X12_feed_76 cx C X S0 n r S1 _ ih a0 x1 x2 x3 x4 x5 x6 x3 S _ _ _ hw hE Ta0 (lv_sub hl [0, 1, 2, 3, 4, 5, 6] rfl) hm
        · rw [if_neg h4] at hm
          refine lv_iload_n hx hb dX12_feed_47 rfl (lv_at hl 2 rfl) ?_
          refine lv_goto (tgt := 76) hx hb dX12_feed_48 (by decide) ?_
          exact wb_X12_feed_76 cx C X S0 n r S1 _ ih a0 x1 x2 x3 x4 x5 x6 x2 S _ _ _ hw hE Ta0 (lv_sub hl [0, 1, 2, 3, 4, 5, 6] rfl) hm
      · rw [if_neg h3] at hm
        refine lv_iload_n hx hb dX12_feed_36 rfl (lv_at hl 1 rfl) ?_
        refine lv_goto (tgt := 76) hx hb dX12_feed_37 (by decide) ?_
        exact wb_X12_feed_76 cx C X S0 n r S1 _ ih a0 x1 x2 x3 x4 x5 x6 x1 S _ _ _ hw hE Ta0 (lv_sub hl [0, 1, 2, 3, 4, 5, 6] rfl) hm
def m_X12_feed (n : Nat) (a0 : Nat) (x1 : Int32) (x2 : Int32) (x3 : Int32) (x4 : Int32) (x5 : Int32) (S0 : pq_S) : Option (Int32 × pq_S) := if ((pI (sI S0 1200 a0 0) 1202 a0) + (20 : Int32)) ≤ 600 then b_X12_feed_23 n n a0 x1 x2 x3 x4 x5 0 (sI S0 1200 a0 0) else some ((-1), (sI S0 1200 a0 0))
theorem tc_X12_feed : Cond.code yX12_feed cX12_feed 8 (some .int) ∈ pq_U := tw1694
theorem cd_X12_feed : yX12_feed.cls = RX12 ∧ yX12_feed.cls ≠ "java/lang/invoke/MethodHandle" ∧ yX12_feed.cls ≠ "java/lang/invoke/VarHandle" ∧ (parseMethodDescriptor yX12_feed.desc).map (fun d => d.parameters.length) = some 5 := by decide +kernel
set_option maxHeartbeats 4000000 in
set_option maxRecDepth 100000 in
theorem c_X12_feed (l : Launch) (C : pq_C) (X : va_W) (n : Nat) (S0 : pq_S) (hF : WF S0) (sz : Nat) (a0 : Nat) (x1 : Int32) (x2 : Int32) (x3 : Int32) (x4 : Int32) (x5 : Int32) (Ta0 : TY S0 a0 12) (r : Int32) (S1 : pq_S) (hm : m_X12_feed n a0 x1 x2 x3 x4 x5 S0 = some (r, S1)) : MI l yX12_feed (.code yX12_feed cX12_feed 8 (some .int) :: pq_U) rm_X12_feed C X S0 sz [.ref a0, .int x1, .int x2, .int x3, .int x4, .int x5] r S1 0 0 := by
  refine Met.ofW (cc := cX12_feed) (maxL := 8) (ret := (some .int)) (by decide) rfl ?_
  intro p e s m args below meth c s₁ B hml hv
  obtain ⟨rfl, hv⟩ := hv
  have hsz := hv.1
  subst hsz
  have hw := pw_entry hF hv
  have hts := atoms_spec (ws := .code yX12_feed cX12_feed 8 (some .int) :: pq_U) B.pre
  have hU : ∀ w ∈ pq_U, w.before _ s = true := fun w h => hts w (List.mem_cons_of_mem _ h)
  have hx := B.exec
  have hb := B.bytes
  have hr := B.returns
  have hown : s.vm.findClass RX12 = some m.cls := findClass_of_methodNamed B.named
  have hlk := B.notSynchronized
  have hl := lv_entry ([.ref a0, .int x1, .int x2, .int x3, .int x4, .int x5]) (n := 8) (Nat.le_of_ble_eq_true rfl)
  rw [lg_entry_eq]
  generalize (lg_sl ([.ref a0, .int x1, .int x2, .int x3, .int x4, .int x5]) ++ List.replicate (8 - (lg_sl ([.ref a0, .int x1, .int x2, .int x3, .int x4, .int x5])).length) Slot.unset).toArray = ls at hl ⊢
  have hl : lv_has ls 8 [(0, .ref a0), (1, .int x1), (2, .int x2), (3, .int x3), (4, .int x4), (5, .int x5)] := hl
  have hE : Ext S0 S0 := Ext.rf _
  have cx : Cx p s m _ meth c cX12_feed 8 RX12 (some .int) := ⟨hx, hb, hml, hown, hU, hr, hlk⟩
  rw [m_X12_feed] at hm
  refine lv_aload_n hx hb dX12_feed_0 rfl (lv_at hl 0 rfl) ?_
  refine lv_iconst (v := 0) hx hb dX12_feed_1 (by decide) ?_
  refine pp_i (k := 12) (j := 0) (f := 1200) hx hb hown hU iu12 tyX12_ok nmX12 hw Ta0 (by decide) rfl (hU _ tw1471) rfl rfl rfl dX12_feed_2 (fun H locs hw => ?_)
  refine lv_aload_n hx hb dX12_feed_5 rfl (lv_at hl 0 rfl) ?_
  refine pg_i (k := 12) (j := 2) (f := 1202) hx hb hown hU iu12 hw Ta0 (by decide) rfl (hU _ tw1473) rfl dX12_feed_6 ?_
  refine lv_bipush (v := 20) hx hb dX12_feed_9 (by decide) ?_
  refine lv_iadd hx hb dX12_feed_11 ?_
  refine lv_sipush (v := 600) hx hb dX12_feed_12 (by decide) ?_
  refine lv_icmp_le (tgt := 20) hx hb dX12_feed_15 (by decide) (fun h1 => ?_) (fun h1 => ?_)
  · rw [if_pos h1] at hm
    refine lv_iconst (v := 0) hx hb dX12_feed_20 (by decide) ?_
    refine lv_istore (lv' := [(6, .int 0), (0, .ref a0), (1, .int x1), (2, .int x2), (3, .int x3), (4, .int x4), (5, .int x5)]) hx hb dX12_feed_21 hl (by decide) rfl (fun ls hl => ?_)
    exact wb_X12_feed_23 cx C X S0 n r S1 n a0 x1 x2 x3 x4 x5 0 (sI S0 1200 a0 0) _ _ _ hw hE Ta0 (lv_sub hl [1, 2, 3, 4, 5, 6, 0] rfl) hm
  · rw [if_neg h1] at hm
    refine lv_iconst (v := (-1)) hx hb dX12_feed_18 (by decide) ?_
    cases hm
    exact pw_iret hx hb hr rfl hlk hw hE dX12_feed_19
abbrev rm_X12_fine : Room := { frames := 0, cells := 0, slots := 0, locals := 0 }
def m_X12_fine (n : Nat) (a0 : Nat) (S0 : pq_S) : Option (Int32 × pq_S) := if (pI S0 1205 a0) = (-1) then some (1, S0) else some (0, S0)
theorem tc_X12_fine : Cond.code yX12_fine cX12_fine 1 (some .boolean) ∈ pq_U := tw1714
theorem cd_X12_fine : yX12_fine.cls = RX12 ∧ yX12_fine.cls ≠ "java/lang/invoke/MethodHandle" ∧ yX12_fine.cls ≠ "java/lang/invoke/VarHandle" ∧ (parseMethodDescriptor yX12_fine.desc).map (fun d => d.parameters.length) = some 0 := by decide +kernel
set_option maxHeartbeats 4000000 in
set_option maxRecDepth 100000 in
theorem c_X12_fine (l : Launch) (C : pq_C) (X : va_W) (n : Nat) (S0 : pq_S) (hF : WF S0) (sz : Nat) (a0 : Nat) (Ta0 : TY S0 a0 12) (r : Int32) (S1 : pq_S) (hm : m_X12_fine n a0 S0 = some (r, S1)) : MZ l yX12_fine (.code yX12_fine cX12_fine 1 (some .boolean) :: pq_U) rm_X12_fine C X S0 sz [.ref a0] r S1 0 0 := by
  refine Met.ofW (cc := cX12_fine) (maxL := 1) (ret := (some .boolean)) (by decide) rfl ?_
  intro p e s m args below meth c s₁ B hml hv
  obtain ⟨rfl, hv⟩ := hv
  have hsz := hv.1
  subst hsz
  have hw := pw_entry hF hv
  have hts := atoms_spec (ws := .code yX12_fine cX12_fine 1 (some .boolean) :: pq_U) B.pre
  have hU : ∀ w ∈ pq_U, w.before _ s = true := fun w h => hts w (List.mem_cons_of_mem _ h)
  have hx := B.exec
  have hb := B.bytes
  have hr := B.returns
  have hown : s.vm.findClass RX12 = some m.cls := findClass_of_methodNamed B.named
  have hlk := B.notSynchronized
  have hl := lv_entry ([.ref a0]) (n := 1) (Nat.le_of_ble_eq_true rfl)
  rw [lg_entry_eq]
  generalize (lg_sl ([.ref a0]) ++ List.replicate (1 - (lg_sl ([.ref a0])).length) Slot.unset).toArray = ls at hl ⊢
  have hl : lv_has ls 1 [(0, .ref a0)] := hl
  have hE : Ext S0 S0 := Ext.rf _
  have cx : Cx p s m _ meth c cX12_fine 1 RX12 (some .boolean) := ⟨hx, hb, hml, hown, hU, hr, hlk⟩
  rw [m_X12_fine] at hm
  refine lv_aload_n hx hb dX12_fine_0 rfl (lv_at hl 0 rfl) ?_
  refine pg_i (k := 12) (j := 5) (f := 1205) hx hb hown hU iu12 hw Ta0 (by decide) rfl (hU _ tw1476) rfl dX12_fine_1 ?_
  refine lv_iconst (v := (-1)) hx hb dX12_fine_4 (by decide) ?_
  refine lv_icmp_ne (tgt := 12) hx hb dX12_fine_5 (by decide) (fun h1 => ?_) (fun h1 => ?_)
  · rw [if_neg h1] at hm
    refine lv_iconst (v := 0) hx hb dX12_fine_12 (by decide) ?_
    cases hm
    exact pw_zret hx hb hr bz_0 hlk hw hE dX12_fine_13
  · rw [if_pos h1] at hm
    refine lv_iconst (v := 1) hx hb dX12_fine_8 (by decide) ?_
    refine lv_goto (tgt := 13) hx hb dX12_fine_9 (by decide) ?_
    cases hm
    exact pw_zret hx hb hr bz_1 hlk hw hE dX12_fine_13
abbrev rm_X12_wrong : Room := { frames := 0, cells := 0, slots := 0, locals := 0 }
def m_X12_wrong (n : Nat) (a0 : Nat) (x1 : Int32) (x2 : Int32) (S0 : pq_S) : Option pq_S := if (pI S0 1205 a0) = (-1) then some (sI (sI S0 1205 a0 x2) 1206 a0 x1) else some S0
theorem tc_X12_wrong : Cond.code yX12_wrong cX12_wrong 3 none ∈ pq_U := tw1744
theorem cd_X12_wrong : yX12_wrong.cls = RX12 ∧ yX12_wrong.cls ≠ "java/lang/invoke/MethodHandle" ∧ yX12_wrong.cls ≠ "java/lang/invoke/VarHandle" ∧ (parseMethodDescriptor yX12_wrong.desc).map (fun d => d.parameters.length) = some 2 := by decide +kernel
set_option maxHeartbeats 4000000 in
set_option maxRecDepth 100000 in
theorem c_X12_wrong (l : Launch) (C : pq_C) (X : va_W) (n : Nat) (S0 : pq_S) (hF : WF S0) (sz : Nat) (a0 : Nat) (x1 : Int32) (x2 : Int32) (Ta0 : TY S0 a0 12) (S1 : pq_S) (hm : m_X12_wrong n a0 x1 x2 S0 = some S1) : MV l yX12_wrong (.code yX12_wrong cX12_wrong 3 none :: pq_U) rm_X12_wrong C X S0 sz [.ref a0, .int x1, .int x2] S1 0 0 := by
  refine Met.ofW (cc := cX12_wrong) (maxL := 3) (ret := none) (by decide) rfl ?_
  intro p e s m args below meth c s₁ B hml hv
  obtain ⟨rfl, hv⟩ := hv
  have hsz := hv.1
  subst hsz
  have hw := pw_entry hF hv
  have hts := atoms_spec (ws := .code yX12_wrong cX12_wrong 3 none :: pq_U) B.pre
  have hU : ∀ w ∈ pq_U, w.before _ s = true := fun w h => hts w (List.mem_cons_of_mem _ h)
  have hx := B.exec
  have hb := B.bytes
  have hr := B.returns
  have hown : s.vm.findClass RX12 = some m.cls := findClass_of_methodNamed B.named
  have hlk := B.notSynchronized
  have hl := lv_entry ([.ref a0, .int x1, .int x2]) (n := 3) (Nat.le_of_ble_eq_true rfl)
  rw [lg_entry_eq]
  generalize (lg_sl ([.ref a0, .int x1, .int x2]) ++ List.replicate (3 - (lg_sl ([.ref a0, .int x1, .int x2])).length) Slot.unset).toArray = ls at hl ⊢
  have hl : lv_has ls 3 [(0, .ref a0), (1, .int x1), (2, .int x2)] := hl
  have hE : Ext S0 S0 := Ext.rf _
  have cx : Cx p s m _ meth c cX12_wrong 3 RX12 none := ⟨hx, hb, hml, hown, hU, hr, hlk⟩
  rw [m_X12_wrong] at hm
  refine lv_aload_n hx hb dX12_wrong_0 rfl (lv_at hl 0 rfl) ?_
  refine pg_i (k := 12) (j := 5) (f := 1205) hx hb hown hU iu12 hw Ta0 (by decide) rfl (hU _ tw1476) rfl dX12_wrong_1 ?_
  refine lv_iconst (v := (-1)) hx hb dX12_wrong_4 (by decide) ?_
  refine lv_icmp_eq (tgt := 9) hx hb dX12_wrong_5 (by decide) (fun h1 => ?_) (fun h1 => ?_)
  · rw [if_pos h1] at hm
    refine lv_aload_n hx hb dX12_wrong_9 rfl (lv_at hl 0 rfl) ?_
    refine lv_iload_n hx hb dX12_wrong_10 rfl (lv_at hl 2 rfl) ?_
    refine pp_i (k := 12) (j := 5) (f := 1205) hx hb hown hU iu12 tyX12_ok nmX12 hw Ta0 (by decide) rfl (hU _ tw1476) rfl rfl rfl dX12_wrong_11 (fun H locs hw => ?_)
    refine lv_aload_n hx hb dX12_wrong_14 rfl (lv_at hl 0 rfl) ?_
    refine lv_iload_n hx hb dX12_wrong_15 rfl (lv_at hl 1 rfl) ?_
    refine pp_i (k := 12) (j := 6) (f := 1206) hx hb hown hU iu12 tyX12_ok nmX12 hw Ta0 (by decide) rfl (hU _ tw1477) rfl rfl rfl dX12_wrong_16 (fun H locs hw => ?_)
    cases hm
    exact pw_vret hx hb hr hlk hw hE dX12_wrong_19
  · rw [if_neg h1] at hm
    cases hm
    exact pw_vret hx hb hr hlk hw hE dX12_wrong_8
abbrev rm_X12_here : Room := { frames := 0, cells := 0, slots := 0, locals := 0 }
def b_X12_here_38 (n : Nat) (a0 : Nat) (S : pq_S) : Option (Int32 × pq_S) := if (pI S 1203 a0) ≤ (pI S 1204 a0) then some (0, S) else Option.bind (pR S 1209 a0) fun q6 => ck (ix (pI S 1204 a0) (pN S q6)) (dix _ _) (some ((pA S q6 (Int32.toNatClampNeg (pI S 1204 a0))), S))
set_option maxHeartbeats 4000000 in
set_option maxRecDepth 100000 in
theorem wb_X12_here_38 {p : Program} {l : Launch} {e : Env} {s : State} {m : MethodId} {args : Array Value} {below : List Frame} {meth : Method} {c : Code} (cx : Cx p s m args meth c cX12_here 1 RX12 (some .int)) (C : pq_C) (X : va_W) (S0 : pq_S) (n : Nat) (r : Int32) (S1 : pq_S) : ∀ (a0 : Nat) (S : pq_S) (H : Heap) (locs : List Loc) (ls : Array Slot), PW C X S (pq_F C X S0 s.heap.size) H locs s → Ext S0 S → TY S a0 12 → lv_has ls 1 [(0, .ref a0)] → b_X12_here_38 n a0 S = some (r, S1) → W p l e rm_X12_here s m args below meth c H locs 0 0 (MQ below (QcI C X S0 s.heap.size r S1) args s 0 0 (pq_F C X S0 s.heap.size)) (F0 m 38 ls []) := by
  obtain ⟨hx, hb, hml, hown, hU, hr, hlk⟩ := id cx
  intro a0 S H locs ls hw hE Ta0 hl hm
  rw [b_X12_here_38] at hm
  refine lv_aload_n hx hb dX12_here_38 rfl (lv_at hl 0 rfl) ?_
  refine pg_i (k := 12) (j := 4) (f := 1204) hx hb hown hU iu12 hw Ta0 (by decide) rfl (hU _ tw1475) rfl dX12_here_39 ?_
  refine lv_aload_n hx hb dX12_here_42 rfl (lv_at hl 0 rfl) ?_
  refine pg_i (k := 12) (j := 3) (f := 1203) hx hb hown hU iu12 hw Ta0 (by decide) rfl (hU _ tw1474) rfl dX12_here_43 ?_
  refine lv_icmp_ge (tgt := 61) hx hb dX12_here_46 (by decide) (fun h5 => ?_) (fun h5 => ?_)
  · rw [if_pos h5] at hm
    refine lv_iconst (v := 0) hx hb dX12_here_61 (by decide) ?_
    cases hm
    exact pw_iret hx hb hr rfl hlk hw hE dX12_here_62
  · rw [if_neg h5] at hm
    refine lv_aload_n hx hb dX12_here_49 rfl (lv_at hl 0 rfl) ?_
    obtain ⟨q6, hq6, hm⟩ := bd_some hm
    have Tq6 : TY S q6 14 := hw.wf.ref (k := 12) (j := 9) Ta0 (by decide) (by decide) hq6
    refine pg_rb (k := 12) (j := 9) (f := 1209) hx hb hown hU iu12 hw Ta0 (by decide) rfl (hU _ tw1480) rfl hq6 dX12_here_50 ?_
    refine lv_aload_n hx hb dX12_here_53 rfl (lv_at hl 0 rfl) ?_
    refine pg_i (k := 12) (j := 4) (f := 1204) hx hb hown hU iu12 hw Ta0 (by decide) rfl (hU _ tw1475) rfl dX12_here_54 ?_
    obtain ⟨hi7, hm⟩ := ck_some hm
    refine pw_iald hx hb hw Tq6 hi7 dX12_here_57 ?_
    refine lv_goto (tgt := 62) hx hb dX12_here_58 (by decide) ?_
    cases hm
    exact pw_iret hx hb hr rfl hlk hw hE dX12_here_62
def b_X12_here_0 (n : Nat) : Nat → Nat → pq_S → Option (Int32 × pq_S)
  | 0, _, _ => none
  | f + 1, a0, S => if (pI S 1203 a0) ≤ (pI S 1204 a0) then b_X12_here_38 n a0 S else Option.bind (pR S 1209 a0) fun q2 => ck (ix (pI S 1204 a0) (pN S q2)) (dix _ _) (if (pA S q2 (Int32.toNatClampNeg (pI S 1204 a0))) = 32 then b_X12_here_0 n f a0 (sI S 1204 a0 ((pI S 1204 a0) + (1 : Int32))) else b_X12_here_38 n a0 S)
set_option maxHeartbeats 4000000 in
set_option maxRecDepth 100000 in
theorem wb_X12_here_0 {p : Program} {l : Launch} {e : Env} {s : State} {m : MethodId} {args : Array Value} {below : List Frame} {meth : Method} {c : Code} (cx : Cx p s m args meth c cX12_here 1 RX12 (some .int)) (C : pq_C) (X : va_W) (S0 : pq_S) (n : Nat) (r : Int32) (S1 : pq_S) : ∀ (f : Nat) (a0 : Nat) (S : pq_S) (H : Heap) (locs : List Loc) (ls : Array Slot), PW C X S (pq_F C X S0 s.heap.size) H locs s → Ext S0 S → TY S a0 12 → lv_has ls 1 [(0, .ref a0)] → b_X12_here_0 n f a0 S = some (r, S1) → W p l e rm_X12_here s m args below meth c H locs 0 0 (MQ below (QcI C X S0 s.heap.size r S1) args s 0 0 (pq_F C X S0 s.heap.size)) (F0 m 0 ls []) := by
  obtain ⟨hx, hb, hml, hown, hU, hr, hlk⟩ := id cx
  intro f
  induction f with
  | zero =>
    intro a0 S H locs ls hw hE Ta0 hl hm
    cases hm
  | succ f ih =>
    intro a0 S H locs ls hw hE Ta0 hl hm
    rw [b_X12_here_0] at hm
    refine lv_aload_n hx hb dX12_here_0 rfl (lv_at hl 0 rfl) ?_
    refine pg_i (k := 12) (j := 4) (f := 1204) hx hb hown hU iu12 hw Ta0 (by decide) rfl (hU _ tw1475) rfl dX12_here_1 ?_
    refine lv_aload_n hx hb dX12_here_4 rfl (lv_at hl 0 rfl) ?_
    refine pg_i (k := 12) (j := 3) (f := 1203) hx hb hown hU iu12 hw Ta0 (by decide) rfl (hU _ tw1474) rfl dX12_here_5 ?_
    refine lv_icmp_ge (tgt := 38) hx hb dX12_here_8 (by decide) (fun h1 => ?_) (fun h1 => ?_)
    · rw [if_pos h1] at hm
      exact wb_X12_here_38 cx C X S0 n r S1 a0 S _ _ _ hw hE Ta0 (lv_sub hl [0] rfl) hm
    · rw [if_neg h1] at hm
      refine lv_aload_n hx hb dX12_here_11 rfl (lv_at hl 0 rfl) ?_
      obtain ⟨q2, hq2, hm⟩ := bd_some hm
      have Tq2 : TY S q2 14 := hw.wf.ref (k := 12) (j := 9) Ta0 (by decide) (by decide) hq2
      refine pg_rb (k := 12) (j := 9) (f := 1209) hx hb hown hU iu12 hw Ta0 (by decide) rfl (hU _ tw1480) rfl hq2 dX12_here_12 ?_
      refine lv_aload_n hx hb dX12_here_15 rfl (lv_at hl 0 rfl) ?_
      refine pg_i (k := 12) (j := 4) (f := 1204) hx hb hown hU iu12 hw Ta0 (by decide) rfl (hU _ tw1475) rfl dX12_here_16 ?_
      obtain ⟨hi3, hm⟩ := ck_some hm
      refine pw_iald hx hb hw Tq2 hi3 dX12_here_19 ?_
      refine lv_bipush (v := 32) hx hb dX12_here_20 (by decide) ?_
      refine lv_icmp_ne (tgt := 38) hx hb dX12_here_22 (by decide) (fun h4 => ?_) (fun h4 => ?_)
      · rw [if_neg h4] at hm
        exact wb_X12_here_38 cx C X S0 n r S1 a0 S _ _ _ hw hE Ta0 (lv_sub hl [0] rfl) hm
      · rw [if_pos h4] at hm
        refine lv_aload_n hx hb dX12_here_25 rfl (lv_at hl 0 rfl) ?_
        refine lv_dup hx hb dX12_here_26 rfl ?_
        refine pg_i (k := 12) (j := 4) (f := 1204) hx hb hown hU iu12 hw Ta0 (by decide) rfl (hU _ tw1475) rfl dX12_here_27 ?_
        refine lv_iconst (v := 1) hx hb dX12_here_30 (by decide) ?_
        refine lv_iadd hx hb dX12_here_31 ?_
        refine pp_i (k := 12) (j := 4) (f := 1204) hx hb hown hU iu12 tyX12_ok nmX12 hw Ta0 (by decide) rfl (hU _ tw1475) rfl rfl rfl dX12_here_32 (fun H locs hw => ?_)
        refine lv_goto (tgt := 0) hx hb dX12_here_35 (by decide) ?_
        exact ih a0 (sI S 1204 a0 ((pI S 1204 a0) + (1 : Int32))) _ _ _ hw hE Ta0 (lv_sub hl [0] rfl) hm
def m_X12_here (n : Nat) (a0 : Nat) (S : pq_S) : Option (Int32 × pq_S) := b_X12_here_0 n n a0 S
theorem tc_X12_here : Cond.code yX12_here cX12_here 1 (some .int) ∈ pq_U := tw1722
theorem cd_X12_here : yX12_here.cls = RX12 ∧ yX12_here.cls ≠ "java/lang/invoke/MethodHandle" ∧ yX12_here.cls ≠ "java/lang/invoke/VarHandle" ∧ (parseMethodDescriptor yX12_here.desc).map (fun d => d.parameters.length) = some 0 := by decide +kernel
set_option maxHeartbeats 4000000 in
set_option maxRecDepth 100000 in
theorem c_X12_here (l : Launch) (C : pq_C) (X : va_W) (n : Nat) (S0 : pq_S) (hF : WF S0) (sz : Nat) (a0 : Nat) (Ta0 : TY S0 a0 12) (r : Int32) (S1 : pq_S) (hm : m_X12_here n a0 S0 = some (r, S1)) : MI l yX12_here (.code yX12_here cX12_here 1 (some .int) :: pq_U) rm_X12_here C X S0 sz [.ref a0] r S1 0 0 := by
  refine Met.ofW (cc := cX12_here) (maxL := 1) (ret := (some .int)) (by decide) rfl ?_
  intro p e s m args below meth c s₁ B hml hv
  obtain ⟨rfl, hv⟩ := hv
  have hsz := hv.1
  subst hsz
  have hw := pw_entry hF hv
  have hts := atoms_spec (ws := .code yX12_here cX12_here 1 (some .int) :: pq_U) B.pre
  have hU : ∀ w ∈ pq_U, w.before _ s = true := fun w h => hts w (List.mem_cons_of_mem _ h)
  have hx := B.exec
  have hb := B.bytes
  have hr := B.returns
  have hown : s.vm.findClass RX12 = some m.cls := findClass_of_methodNamed B.named
  have hlk := B.notSynchronized
  have hl := lv_entry ([.ref a0]) (n := 1) (Nat.le_of_ble_eq_true rfl)
  rw [lg_entry_eq]
  generalize (lg_sl ([.ref a0]) ++ List.replicate (1 - (lg_sl ([.ref a0])).length) Slot.unset).toArray = ls at hl ⊢
  have hl : lv_has ls 1 [(0, .ref a0)] := hl
  have hE : Ext S0 S0 := Ext.rf _
  have cx : Cx p s m _ meth c cX12_here 1 RX12 (some .int) := ⟨hx, hb, hml, hown, hU, hr, hlk⟩
  rw [m_X12_here] at hm
  exact wb_X12_here_0 cx C X S0 n r S1 n a0 S0 _ _ _ hw hE Ta0 (lv_sub hl [0] rfl) hm
