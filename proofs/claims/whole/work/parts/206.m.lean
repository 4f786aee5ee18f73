abbrev rm_X9_newRow : Room := { frames := 1, cells := 0, slots := 0, locals := 20 }
def m_X9_newRow (n : Nat) (a0 : Nat) (S0 : pq_S) : Option (Int32 × pq_S) := cb (m_X9_isFull n a0 S0) fun r3 S_1 => if r3 = 0 then some (((pI (sI S_1 902 a0 ((pI S_1 902 a0) + (1 : Int32))) 902 a0) - (1 : Int32)), (sI S_1 902 a0 ((pI S_1 902 a0) + (1 : Int32)))) else some ((-1), S_1)
theorem tc_X9_newRow : Cond.code yX9_newRow cX9_newRow 1 (some .int) ∈ pq_U := tw664
theorem cd_X9_newRow : yX9_newRow.cls = RX9 ∧ yX9_newRow.cls ≠ "java/lang/invoke/MethodHandle" ∧ yX9_newRow.cls ≠ "java/lang/invoke/VarHandle" ∧ (parseMethodDescriptor yX9_newRow.desc).map (fun d => d.parameters.length) = some 0 := by decide +kernel
set_option maxHeartbeats 4000000 in
set_option maxRecDepth 100000 in
theorem c_X9_newRow (l : Launch) (C : pq_C) (X : va_W) (n : Nat) (S0 : pq_S) (hF : WF S0) (sz : Nat) (a0 : Nat) (Ta0 : TY S0 a0 9) (r : Int32) (S1 : pq_S) (hm : m_X9_newRow n a0 S0 = some (r, S1)) : MI l yX9_newRow (.code yX9_newRow cX9_newRow 1 (some .int) :: pq_U) rm_X9_newRow C X S0 sz [.ref a0] r S1 0 0 := by
  refine Met.ofW (cc := cX9_newRow) (maxL := 1) (ret := (some .int)) (by decide) rfl ?_
  intro p e s m args below meth c s₁ B hml hv
  obtain ⟨rfl, hv⟩ := hv
  have hsz := hv.1
  subst hsz
  have hw := pw_entry hF hv
  have hts := atoms_spec (ws := .code yX9_newRow cX9_newRow 1 (some .int) :: pq_U) B.pre
  have hU : ∀ w ∈ pq_U, w.before _ s = true := fun w h => hts w (List.mem_cons_of_mem _ h)
  have hx := B.exec
  have hb := B.bytes
  have hr := B.returns
  have hown : s.vm.findClass RX9 = some m.cls := findClass_of_methodNamed B.named
  have hlk := B.notSynchronized
  have hl := lv_entry ([.ref a0]) (n := 1) (Nat.le_of_ble_eq_true rfl)
  rw [lg_entry_eq]
  generalize (lg_sl ([.ref a0]) ++ List.replicate (1 - (lg_sl ([.ref a0])).length) Slot.unset).toArray = ls at hl ⊢
  have hl : lv_has ls 1 [(0, .ref a0)] := hl
  have hE : Ext S0 S0 := Ext.rf _
  have cx : Cx p s m _ meth c cX9_newRow 1 RX9 (some .int) := ⟨hx, hb, hml, hown, hU, hr, hlk⟩
  rw [m_X9_newRow] at hm
  refine lv_aload_n hx hb dX9_newRow_0 rfl (lv_at hl 0 rfl) ?_
  obtain ⟨r3, S_1, hq2, hm⟩ := cb_some hm
  refine pw_cz (va_runV (As := []) (rest := []) ⟨hx, hb, hml, hown, hU⟩ (c_X9_isFull l C X n S0 hw.wf _ a0 (Ta0) r3 S_1 hq2) (cwV 0 hU (pq_gV tw665 tw658 ts20 tw5 tc_X9_isFull) rfl rfl rfl cd_X9_isFull ⟨Nat.le_of_ble_eq_true rfl, Nat.le_of_ble_eq_true rfl⟩) (pw_preV hw Ta0 (by decide) rfl) rfl rfl hl.1 rfl (lv_room (Nat.le_of_ble_eq_true rfl)) dX9_newRow_1 ⟨Nat.zero_le _, Nat.zero_le _⟩) hw (fun H locs hw hx4 hz5 => ?_)
  have Ta0 : TY S_1 a0 9 := ty_ext hx4 Ta0
  have hE : Ext S0 S_1 := Ext.tr hE hx4
  refine lv_if_eq (tgt := 9) hx hb dX9_newRow_4 (by decide) (fun h6 => ?_) (fun h6 => ?_)
  · rw [if_pos h6] at hm
    refine lv_aload_n hx hb dX9_newRow_9 rfl (lv_at hl 0 rfl) ?_
    refine lv_dup hx hb dX9_newRow_10 rfl ?_
    refine pg_i (k := 9) (j := 2) (f := 902) hx hb hown hU iu9 hw Ta0 (by decide) rfl (hU _ tw92) rfl dX9_newRow_11 ?_
    refine lv_iconst (v := 1) hx hb dX9_newRow_14 (by decide) ?_
    refine lv_iadd hx hb dX9_newRow_15 ?_
    refine pp_i (k := 9) (j := 2) (f := 902) hx hb hown hU iu9 tyX9_ok nmX9 hw Ta0 (by decide) rfl (hU _ tw92) rfl rfl rfl dX9_newRow_16 (fun H locs hw => ?_)
    refine lv_aload_n hx hb dX9_newRow_19 rfl (lv_at hl 0 rfl) ?_
    refine pg_i (k := 9) (j := 2) (f := 902) hx hb hown hU iu9 hw Ta0 (by decide) rfl (hU _ tw92) rfl dX9_newRow_20 ?_
    refine lv_iconst (v := 1) hx hb dX9_newRow_23 (by decide) ?_
    refine lv_isub hx hb dX9_newRow_24 ?_
    cases hm
    exact pw_iret hx hb hr rfl hlk hw hE dX9_newRow_25
  · rw [if_neg h6] at hm
    refine lv_iconst (v := (-1)) hx hb dX9_newRow_7 (by decide) ?_
    cases hm
    exact pw_iret hx hb hr rfl hlk hw hE dX9_newRow_8
abbrev rm_X9_at : Room := { frames := 0, cells := 0, slots := 0, locals := 0 }
def m_X9_at (n : Nat) (a0 : Nat) (x1 : Int32) (x2 : Int32) (S0 : pq_S) : Option (Int32 × pq_S) := if ((x1 * (pI S0 901 a0)) + x2) < 0 then some (0, S0) else Option.bind (pR S0 900 a0) fun q2 => if (Int32.ofNat (pN S0 q2)) ≤ ((x1 * (pI S0 901 a0)) + x2) then some (0, S0) else Option.bind (pR S0 900 a0) fun q4 => ck (ix ((x1 * (pI S0 901 a0)) + x2) (pN S0 q4)) (dix _ _) (some ((pA S0 q4 (Int32.toNatClampNeg ((x1 * (pI S0 901 a0)) + x2))), S0))
theorem tc_X9_at : Cond.code yX9_at cX9_at 4 (some .int) ∈ pq_U := tw720
theorem cd_X9_at : yX9_at.cls = RX9 ∧ yX9_at.cls ≠ "java/lang/invoke/MethodHandle" ∧ yX9_at.cls ≠ "java/lang/invoke/VarHandle" ∧ (parseMethodDescriptor yX9_at.desc).map (fun d => d.parameters.length) = some 2 := by decide +kernel
set_option maxHeartbeats 4000000 in
set_option maxRecDepth 100000 in
theorem c_X9_at (l : Launch) (C : pq_C) (X : va_W) (n : Nat) (S0 : pq_S) (hF : WF S0) (sz : Nat) (a0 : Nat) (x1 : Int32) (x2 : Int32) (Ta0 : TY S0 a0 9) (r : Int32) (S1 : pq_S) (hm : m_X9_at n a0 x1 x2 S0 = some (r, S1)) : MI l yX9_at (.code yX9_at cX9_at 4 (some .int) :: pq_U) rm_X9_at C X S0 sz [.ref a0, .int x1, .int x2] r S1 0 0 := by
  refine Met.ofW (cc := cX9_at) (maxL := 4) (ret := (some .int)) (by decide) rfl ?_
  intro p e s m args below meth c s₁ B hml hv
  obtain ⟨rfl, hv⟩ := hv
  have hsz := hv.1
  subst hsz
  have hw := pw_entry hF hv
  have hts := atoms_spec (ws := .code yX9_at cX9_at 4 (some .int) :: pq_U) B.pre
  have hU : ∀ w ∈ pq_U, w.before _ s = true := fun w h => hts w (List.mem_cons_of_mem _ h)
  have hx := B.exec
  have hb := B.bytes
  have hr := B.returns
  have hown : s.vm.findClass RX9 = some m.cls := findClass_of_methodNamed B.named
  have hlk := B.notSynchronized
  have hl := lv_entry ([.ref a0, .int x1, .int x2]) (n := 4) (Nat.le_of_ble_eq_true rfl)
  rw [lg_entry_eq]
  generalize (lg_sl ([.ref a0, .int x1, .int x2]) ++ List.replicate (4 - (lg_sl ([.ref a0, .int x1, .int x2])).length) Slot.unset).toArray = ls at hl ⊢
  have hl : lv_has ls 4 [(0, .ref a0), (1, .int x1), (2, .int x2)] := hl
  have hE : Ext S0 S0 := Ext.rf _
  have cx : Cx p s m _ meth c cX9_at 4 RX9 (some .int) := ⟨hx, hb, hml, hown, hU, hr, hlk⟩
  rw [m_X9_at] at hm
  refine lv_iload_n hx hb dX9_at_0 rfl (lv_at hl 1 rfl) ?_
  refine lv_aload_n hx hb dX9_at_1 rfl (lv_at hl 0 rfl) ?_
  refine pg_i (k := 9) (j := 1) (f := 901) hx hb hown hU iu9 hw Ta0 (by decide) rfl (hU _ tw91) rfl dX9_at_2 ?_
  refine lv_imul hx hb dX9_at_5 ?_
  refine lv_iload_n hx hb dX9_at_6 rfl (lv_at hl 2 rfl) ?_
  refine lv_iadd hx hb dX9_at_7 ?_
  refine lv_istore_n (lv' := [(3, .int ((x1 * (pI S0 901 a0)) + x2)), (0, .ref a0), (1, .int x1), (2, .int x2)]) hx hb dX9_at_8 rfl hl (by decide) rfl (fun ls hl => ?_)
  refine lv_iload_n hx hb dX9_at_9 rfl (lv_at hl 0 rfl) ?_
  refine lv_if_lt (tgt := 31) hx hb dX9_at_10 (by decide) (fun h1 => ?_) (fun h1 => ?_)
  · rw [if_pos h1] at hm
    refine lv_iconst (v := 0) hx hb dX9_at_31 (by decide) ?_
    cases hm
    exact pw_iret hx hb hr rfl hlk hw hE dX9_at_32
  · rw [if_neg h1] at hm
    refine lv_iload_n hx hb dX9_at_13 rfl (lv_at hl 0 rfl) ?_
    refine lv_aload_n hx hb dX9_at_14 rfl (lv_at hl 1 rfl) ?_
    obtain ⟨q2, hq2, hm⟩ := bd_some hm
    have Tq2 : TY S0 q2 14 := hw.wf.ref (k := 9) (j := 0) Ta0 (by decide) (by decide) hq2
    refine pg_rb (k := 9) (j := 0) (f := 900) hx hb hown hU iu9 hw Ta0 (by decide) rfl (hU _ tw90) rfl hq2 dX9_at_15 ?_
    refine pw_alenI (v := (Int32.ofNat (pN S0 q2))) hx hb hw Tq2 rfl dX9_at_18 ?_
    refine lv_icmp_ge (tgt := 31) hx hb dX9_at_19 (by decide) (fun h3 => ?_) (fun h3 => ?_)
    · rw [if_pos h3] at hm
      refine lv_iconst (v := 0) hx hb dX9_at_31 (by decide) ?_
      cases hm
      exact pw_iret hx hb hr rfl hlk hw hE dX9_at_32
    · rw [if_neg h3] at hm
      refine lv_aload_n hx hb dX9_at_22 rfl (lv_at hl 1 rfl) ?_
      obtain ⟨q4, hq4, hm⟩ := bd_some hm
      have Tq4 : TY S0 q4 14 := hw.wf.ref (k := 9) (j := 0) Ta0 (by decide) (by decide) hq4
      refine pg_rb (k := 9) (j := 0) (f := 900) hx hb hown hU iu9 hw Ta0 (by decide) rfl (hU _ tw90) rfl hq4 dX9_at_23 ?_
      refine lv_iload_n hx hb dX9_at_26 rfl (lv_at hl 0 rfl) ?_
      obtain ⟨hi5, hm⟩ := ck_some hm
      refine pw_iald hx hb hw Tq4 hi5 dX9_at_27 ?_
      refine lv_goto (tgt := 32) hx hb dX9_at_28 (by decide) ?_
      cases hm
      exact pw_iret hx hb hr rfl hlk hw hE dX9_at_32
abbrev rm_X9_put : Room := { frames := 0, cells := 0, slots := 0, locals := 0 }
def m_X9_put (n : Nat) (a0 : Nat) (x1 : Int32) (x2 : Int32) (x3 : Int32) (S0 : pq_S) : Option pq_S := if ((x1 * (pI S0 901 a0)) + x2) < 0 then some S0 else Option.bind (pR S0 900 a0) fun q2 => if (Int32.ofNat (pN S0 q2)) ≤ ((x1 * (pI S0 901 a0)) + x2) then some S0 else Option.bind (pR S0 900 a0) fun q4 => ck (ix ((x1 * (pI S0 901 a0)) + x2) (pN S0 q4)) (dix _ _) (some (sA S0 q4 (Int32.toNatClampNeg ((x1 * (pI S0 901 a0)) + x2)) x3))
theorem tc_X9_put : Cond.code yX9_put cX9_put 5 none ∈ pq_U := tw674
theorem cd_X9_put : yX9_put.cls = RX9 ∧ yX9_put.cls ≠ "java/lang/invoke/MethodHandle" ∧ yX9_put.cls ≠ "java/lang/invoke/VarHandle" ∧ (parseMethodDescriptor yX9_put.desc).map (fun d => d.parameters.length) = some 3 := by decide +kernel
set_option maxHeartbeats 4000000 in
set_option maxRecDepth 100000 in
theorem c_X9_put (l : Launch) (C : pq_C) (X : va_W) (n : Nat) (S0 : pq_S) (hF : WF S0) (sz : Nat) (a0 : Nat) (x1 : Int32) (x2 : Int32) (x3 : Int32) (Ta0 : TY S0 a0 9) (S1 : pq_S) (hm : m_X9_put n a0 x1 x2 x3 S0 = some S1) : MV l yX9_put (.code yX9_put cX9_put 5 none :: pq_U) rm_X9_put C X S0 sz [.ref a0, .int x1, .int x2, .int x3] S1 0 0 := by
  refine Met.ofW (cc := cX9_put) (maxL := 5) (ret := none) (by decide) rfl ?_
  intro p e s m args below meth c s₁ B hml hv
  obtain ⟨rfl, hv⟩ := hv
  have hsz := hv.1
  subst hsz
  have hw := pw_entry hF hv
  have hts := atoms_spec (ws := .code yX9_put cX9_put 5 none :: pq_U) B.pre
  have hU : ∀ w ∈ pq_U, w.before _ s = true := fun w h => hts w (List.mem_cons_of_mem _ h)
  have hx := B.exec
  have hb := B.bytes
  have hr := B.returns
  have hown : s.vm.findClass RX9 = some m.cls := findClass_of_methodNamed B.named
  have hlk := B.notSynchronized
  have hl := lv_entry ([.ref a0, .int x1, .int x2, .int x3]) (n := 5) (Nat.le_of_ble_eq_true rfl)
  rw [lg_entry_eq]
  generalize (lg_sl ([.ref a0, .int x1, .int x2, .int x3]) ++ List.replicate (5 - (lg_sl ([.ref a0, .int x1, .int x2, .int x3])).length) Slot.unset).toArray = ls at hl ⊢
  have hl : lv_has ls 5 [(0, .ref a0), (1, .int x1), (2, .int x2), (3, .int x3)] := hl
  have hE : Ext S0 S0 := Ext.rf _
  have cx : Cx p s m _ meth c cX9_put 5 RX9 none := ⟨hx, hb, hml, hown, hU, hr, hlk⟩
  rw [m_X9_put] at hm
  refine lv_iload_n hx hb dX9_put_0 rfl (lv_at hl 1 rfl) ?_
  refine lv_aload_n hx hb dX9_put_1 rfl (lv_at hl 0 rfl) ?_
  refine pg_i (k := 9) (j := 1) (f := 901) hx hb hown hU iu9 hw Ta0 (by decide) rfl (hU _ tw91) rfl dX9_put_2 ?_
  refine lv_imul hx hb dX9_put_5 ?_
  refine lv_iload_n hx hb dX9_put_6 rfl (lv_at hl 2 rfl) ?_
  refine lv_iadd hx hb dX9_put_7 ?_
  refine lv_istore (lv' := [(4, .int ((x1 * (pI S0 901 a0)) + x2)), (0, .ref a0), (1, .int x1), (2, .int x2), (3, .int x3)]) hx hb dX9_put_8 hl (by decide) rfl (fun ls hl => ?_)
  refine lv_iload hx hb dX9_put_10 (lv_at hl 0 rfl) ?_
  refine lv_if_lt (tgt := 33) hx hb dX9_put_12 (by decide) (fun h1 => ?_) (fun h1 => ?_)
  · rw [if_pos h1] at hm
    cases hm
    exact pw_vret hx hb hr hlk hw hE dX9_put_33
  · rw [if_neg h1] at hm
    refine lv_iload hx hb dX9_put_15 (lv_at hl 0 rfl) ?_
    refine lv_aload_n hx hb dX9_put_17 rfl (lv_at hl 1 rfl) ?_
    obtain ⟨q2, hq2, hm⟩ := bd_some hm
    have Tq2 : TY S0 q2 14 := hw.wf.ref (k := 9) (j := 0) Ta0 (by decide) (by decide) hq2
    refine pg_rb (k := 9) (j := 0) (f := 900) hx hb hown hU iu9 hw Ta0 (by decide) rfl (hU _ tw90) rfl hq2 dX9_put_18 ?_
    refine pw_alenI (v := (Int32.ofNat (pN S0 q2))) hx hb hw Tq2 rfl dX9_put_21 ?_
    refine lv_icmp_ge (tgt := 33) hx hb dX9_put_22 (by decide) (fun h3 => ?_) (fun h3 => ?_)
    · rw [if_pos h3] at hm
      cases hm
      exact pw_vret hx hb hr hlk hw hE dX9_put_33
    · rw [if_neg h3] at hm
      refine lv_aload_n hx hb dX9_put_25 rfl (lv_at hl 1 rfl) ?_
      obtain ⟨q4, hq4, hm⟩ := bd_some hm
      have Tq4 : TY S0 q4 14 := hw.wf.ref (k := 9) (j := 0) Ta0 (by decide) (by decide) hq4
      refine pg_rb (k := 9) (j := 0) (f := 900) hx hb hown hU iu9 hw Ta0 (by decide) rfl (hU _ tw90) rfl hq4 dX9_put_26 ?_
      refine lv_iload hx hb dX9_put_29 (lv_at hl 0 rfl) ?_
      refine lv_iload_n hx hb dX9_put_31 rfl (lv_at hl 4 rfl) ?_
      obtain ⟨hi5, hm⟩ := ck_some hm
      refine pw_iast hx hb hw Tq4 hi5 dX9_put_32 (fun H locs hw => ?_)
      cases hm
      exact pw_vret hx hb hr hlk hw hE dX9_put_33
abbrev rm_X9_add : Room := { frames := 1, cells := 0, slots := 0, locals := 24 }
def m_X9_add (n : Nat) (a0 : Nat) (x1 : Int32) (x2 : Int32) (x3 : Int32) (S0 : pq_S) : Option pq_S := cb (m_X9_at n a0 x1 x2 S0) fun r3 S_1 => Option.bind (m_X9_put n a0 x1 x2 (r3 + x3) S_1) fun S_5 => some S_5
theorem tc_X9_add : Cond.code yX9_add cX9_add 4 none ∈ pq_U := tw858
theorem cd_X9_add : yX9_add.cls = RX9 ∧ yX9_add.cls ≠ "java/lang/invoke/MethodHandle" ∧ yX9_add.cls ≠ "java/lang/invoke/VarHandle" ∧ (parseMethodDescriptor yX9_add.desc).map (fun d => d.parameters.length) = some 3 := by decide +kernel
set_option maxHeartbeats 4000000 in
set_option maxRecDepth 100000 in
theorem c_X9_add (l : Launch) (C : pq_C) (X : va_W) (n : Nat) (S0 : pq_S) (hF : WF S0) (sz : Nat) (a0 : Nat) (x1 : Int32) (x2 : Int32) (x3 : Int32) (Ta0 : TY S0 a0 9) (S1 : pq_S) (hm : m_X9_add n a0 x1 x2 x3 S0 = some S1) : MV l yX9_add (.code yX9_add cX9_add 4 none :: pq_U) rm_X9_add C X S0 sz [.ref a0, .int x1, .int x2, .int x3] S1 0 0 := by
  refine Met.ofW (cc := cX9_add) (maxL := 4) (ret := none) (by decide) rfl ?_
  intro p e s m args below meth c s₁ B hml hv
  obtain ⟨rfl, hv⟩ := hv
  have hsz := hv.1
  subst hsz
  have hw := pw_entry hF hv
  have hts := atoms_spec (ws := .code yX9_add cX9_add 4 none :: pq_U) B.pre
  have hU : ∀ w ∈ pq_U, w.before _ s = true := fun w h => hts w (List.mem_cons_of_mem _ h)
  have hx := B.exec
  have hb := B.bytes
  have hr := B.returns
  have hown : s.vm.findClass RX9 = some m.cls := findClass_of_methodNamed B.named
  have hlk := B.notSynchronized
  have hl := lv_entry ([.ref a0, .int x1, .int x2, .int x3]) (n := 4) (Nat.le_of_ble_eq_true rfl)
  rw [lg_entry_eq]
  generalize (lg_sl ([.ref a0, .int x1, .int x2, .int x3]) ++ List.replicate (4 - (lg_sl ([.ref a0, .int x1, .int x2, .int x3])).length) Slot.unset).toArray = ls at hl ⊢
  have hl : lv_has ls 4 [(0, .ref a0), (1, .int x1), (2, .int x2), (3, .int x3)] := hl
  have hE : Ext S0 S0 := Ext.rf _
  have cx : Cx p s m _ meth c cX9_add 4 RX9 none := ⟨hx, hb, hml, hown, hU, hr, hlk⟩
  rw [m_X9_add] at hm
  refine lv_aload_n hx hb dX9_add_0 rfl (lv_at hl 0 rfl) ?_
  refine lv_iload_n hx hb dX9_add_1 rfl (lv_at hl 1 rfl) ?_
  refine lv_iload_n hx hb dX9_add_2 rfl (lv_at hl 2 rfl) ?_
  refine lv_aload_n hx hb dX9_add_3 rfl (lv_at hl 0 rfl) ?_
  refine lv_iload_n hx hb dX9_add_4 rfl (lv_at hl 1 rfl) ?_
  refine lv_iload_n hx hb dX9_add_5 rfl (lv_at hl 2 rfl) ?_
  obtain ⟨r3, S_1, hq2, hm⟩ := cb_some hm
  refine pw_ci (va_runV (As := [.int x1, .int x2]) (rest := [.int x2, .int x1, .ref a0]) ⟨hx, hb, hml, hown, hU⟩ (c_X9_at l C X n S0 hw.wf _ a0 x1 x2 (Ta0) r3 S_1 hq2) (cwV 2 hU (pq_gV tw859 tw719 ts32 tw5 tc_X9_at) rfl rfl rfl cd_X9_at ⟨Nat.le_of_ble_eq_true rfl, Nat.le_of_ble_eq_true rfl⟩) (pw_preV hw Ta0 (by decide) rfl) rfl rfl hl.1 rfl (lv_room (Nat.le_of_ble_eq_true rfl)) dX9_add_6 ⟨Nat.zero_le _, Nat.zero_le _⟩) hw (fun H locs hw hx4 => ?_)
  have Ta0 : TY S_1 a0 9 := ty_ext hx4 Ta0
  have hE : Ext S0 S_1 := Ext.tr hE hx4
  refine lv_iload_n hx hb dX9_add_9 rfl (lv_at hl 3 rfl) ?_
  refine lv_iadd hx hb dX9_add_10 ?_
  obtain ⟨S_5, hq6, hm⟩ := bd_some hm
  refine pw_cv (va_runV (As := [.int x1, .int x2, .int (r3 + x3)]) (rest := []) ⟨hx, hb, hml, hown, hU⟩ (c_X9_put l C X n S_1 hw.wf _ a0 x1 x2 (r3 + x3) (Ta0) S_5 hq6) (cwV 3 hU (pq_gV tw860 tw673 ts23 tw5 tc_X9_put) rfl rfl rfl cd_X9_put ⟨Nat.le_of_ble_eq_true rfl, Nat.le_of_ble_eq_true rfl⟩) (pw_preV hw Ta0 (by decide) rfl) rfl rfl hl.1 rfl (lv_room (Nat.le_of_ble_eq_true rfl)) dX9_add_11 ⟨Nat.zero_le _, Nat.zero_le _⟩) hw (fun H locs hw hx7 => ?_)
  have Ta0 : TY S_5 a0 9 := ty_ext hx7 Ta0
  have hE : Ext S0 S_5 := Ext.tr hE hx7
  cases hm
  exact pw_vret hx hb hr hlk hw hE dX9_add_14
abbrev rm_X9_sum : Room := { frames := 1, cells := 0, slots := 0, locals := 23 }
def b_X9_sum_4 (n : Nat) : Nat → Nat → Int32 → Int32 → Int32 → pq_S → Option (Int32 × pq_S)
  | 0, _, _, _, _, _ => none
  | f + 1, a0, x1, x2, x3, S => if (pI S 902 a0) ≤ x3 then some (x2, S) else cb (m_X9_at n a0 x3 x1 S) fun r4 S_2 => b_X9_sum_4 n f a0 x1 (x2 + r4) (x3 + 1) S_2
set_option maxHeartbeats 4000000 in
set_option maxRecDepth 100000 in
theorem wb_X9_sum_4 {p : Program} {l : Launch} {e : Env} {s : State} {m : MethodId} {args : Array Value} {below : List Frame} {meth : Method} {c : Code} (cx : Cx p s m args meth c cX9_sum 4 RX9 (some .int)) (C : pq_C) (X : va_W) (S0 : pq_S) (n : Nat) (r : Int32) (S1 : pq_S) : ∀ (f : Nat) (a0 : Nat) (x1 : Int32) (x2 : Int32) (x3 : Int32) (S : pq_S) (H : Heap) (locs : List Loc) (ls : Array Slot), PW C X S (pq_F C X S0 s.heap.size) H locs s → Ext S0 S → TY S a0 9 → lv_has ls 4 [(0, .ref a0), (1, .int x1), (2, .int x2), (3, .int x3)] → b_X9_sum_4 n f a0 x1 x2 x3 S = some (r, S1) → W p l e rm_X9_sum s m args below meth c H locs 0 0 (MQ below (QcI C X S0 s.heap.size r S1) args s 0 0 (pq_F C X S0 s.heap.size)) (F0 m 4 ls []) := by
  obtain ⟨hx, hb, hml, hown, hU, hr, hlk⟩ := id cx
  intro f
  induction f with
  | zero =>
    intro a0 x1 x2 x3 S H locs ls hw hE Ta0 hl hm
    cases hm
  | succ f ih =>
    intro a0 x1 x2 x3 S H locs ls hw hE Ta0 hl hm
    rw [b_X9_sum_4] at hm
    refine lv_iload_n hx hb dX9_sum_4 rfl (lv_at hl 3 rfl) ?_
    refine lv_aload_n hx hb dX9_sum_5 rfl (lv_at hl 0 rfl) ?_
    refine pg_i (k := 9) (j := 2) (f := 902) hx hb hown hU iu9 hw Ta0 (by decide) rfl (hU _ tw92) rfl dX9_sum_6 ?_
    refine lv_icmp_ge (tgt := 27) hx hb dX9_sum_9 (by decide) (fun h1 => ?_) (fun h1 => ?_)
    · rw [if_pos h1] at hm
      refine lv_iload_n hx hb dX9_sum_27 rfl (lv_at hl 2 rfl) ?_
      cases hm
      exact pw_iret hx hb hr rfl hlk hw hE dX9_sum_28
    · rw [if_neg h1] at hm
      refine lv_iload_n hx hb dX9_sum_12 rfl (lv_at hl 2 rfl) ?_
      refine lv_aload_n hx hb dX9_sum_13 rfl (lv_at hl 0 rfl) ?_
      refine lv_iload_n hx hb dX9_sum_14 rfl (lv_at hl 3 rfl) ?_
      refine lv_iload_n hx hb dX9_sum_15 rfl (lv_at hl 1 rfl) ?_
      obtain ⟨r4, S_2, hq3, hm⟩ := cb_some hm
      refine pw_ci (va_runV (As := [.int x3, .int x1]) (rest := [.int x2]) ⟨hx, hb, hml, hown, hU⟩ (c_X9_at l C X n S hw.wf _ a0 x3 x1 (Ta0) r4 S_2 hq3) (cwV 2 hU (pq_gV tw859 tw719 ts32 tw5 tc_X9_at) rfl rfl rfl cd_X9_at ⟨Nat.le_of_ble_eq_true rfl, Nat.le_of_ble_eq_true rfl⟩) (pw_preV hw Ta0 (by decide) rfl) rfl rfl hl.1 rfl (lv_room (Nat.le_of_ble_eq_true rfl)) dX9_sum_16 ⟨Nat.zero_le _, Nat.zero_le _⟩) hw (fun H locs hw hx5 => ?_)
      have Ta0 : TY S_2 a0 9 := ty_ext hx5 Ta0
      have hE : Ext S0 S_2 := Ext.tr hE hx5
      refine lv_iadd hx hb dX9_sum_19 ?_
      refine lv_istore_n (lv' := [(2, .int (x2 + r4)), (0, .ref a0), (1, .int x1), (3, .int x3)]) hx hb dX9_sum_20 rfl hl (by decide) rfl (fun ls hl => ?_)
      refine lv_iinc (v := (x3 + 1)) (lv' := [(3, .int (x3 + 1)), (2, .int (x2 + r4)), (0, .ref a0), (1, .int x1)]) hx hb dX9_sum_21 hl (k := 3) rfl rfl (by decide) rfl (fun ls hl => ?_)
      refine lv_goto (tgt := 4) hx hb dX9_sum_24 (by decide) ?_
      exact ih a0 x1 (x2 + r4) (x3 + 1) S_2 _ _ _ hw hE Ta0 (lv_sub hl [2, 3, 1, 0] rfl) hm
def m_X9_sum (n : Nat) (a0 : Nat) (x1 : Int32) (S0 : pq_S) : Option (Int32 × pq_S) := b_X9_sum_4 n n a0 x1 0 0 S0
theorem tc_X9_sum : Cond.code yX9_sum cX9_sum 4 (some .int) ∈ pq_U := tw987
theorem cd_X9_sum : yX9_sum.cls = RX9 ∧ yX9_sum.cls ≠ "java/lang/invoke/MethodHandle" ∧ yX9_sum.cls ≠ "java/lang/invoke/VarHandle" ∧ (parseMethodDescriptor yX9_sum.desc).map (fun d => d.parameters.length) = some 1 := by decide +kernel
set_option maxHeartbeats 4000000 in
set_option maxRecDepth 100000 in
theorem c_X9_sum (l : Launch) (C : pq_C) (X : va_W) (n : Nat) (S0 : pq_S) (hF : WF S0) (sz : Nat) (a0 : Nat) (x1 : Int32) (Ta0 : TY S0 a0 9) (r : Int32) (S1 : pq_S) (hm : m_X9_sum n a0 x1 S0 = some (r, S1)) : MI l yX9_sum (.code yX9_sum cX9_sum 4 (some .int) :: pq_U) rm_X9_sum C X S0 sz [.ref a0, .int x1] r S1 0 0 := by
  refine Met.ofW (cc := cX9_sum) (maxL := 4) (ret := (some .int)) (by decide) rfl ?_
  intro p e s m args below meth c s₁ B hml hv
  obtain ⟨rfl, hv⟩ := hv
  have hsz := hv.1
  subst hsz
  have hw := pw_entry hF hv
  have hts := atoms_spec (ws := .code yX9_sum cX9_sum 4 (some .int) :: pq_U) B.pre
  have hU : ∀ w ∈ pq_U, w.before _ s = true := fun w h => hts w (List.mem_cons_of_mem _ h)
  have hx := B.exec
  have hb := B.bytes
  have hr := B.returns
  have hown : s.vm.findClass RX9 = some m.cls := findClass_of_methodNamed B.named
  have hlk := B.notSynchronized
  have hl := lv_entry ([.ref a0, .int x1]) (n := 4) (Nat.le_of_ble_eq_true rfl)
  rw [lg_entry_eq]
  generalize (lg_sl ([.ref a0, .int x1]) ++ List.replicate (4 - (lg_sl ([.ref a0, .int x1])).length) Slot.unset).toArray = ls at hl ⊢
  have hl : lv_has ls 4 [(0, .ref a0), (1, .int x1)] := hl
  have hE : Ext S0 S0 := Ext.rf _
  have cx : Cx p s m _ meth c cX9_sum 4 RX9 (some .int) := ⟨hx, hb, hml, hown, hU, hr, hlk⟩
  rw [m_X9_sum] at hm
  refine lv_iconst (v := 0) hx hb dX9_sum_0 (by decide) ?_
  refine lv_istore_n (lv' := [(2, .int 0), (0, .ref a0), (1, .int x1)]) hx hb dX9_sum_1 rfl hl (by decide) rfl (fun ls hl => ?_)
  refine lv_iconst (v := 0) hx hb dX9_sum_2 (by decide) ?_
  refine lv_istore_n (lv' := [(3, .int 0), (2, .int 0), (0, .ref a0), (1, .int x1)]) hx hb dX9_sum_3 rfl hl (by decide) rfl (fun ls hl => ?_)
  exact wb_X9_sum_4 cx C X S0 n r S1 n a0 x1 0 0 S0 _ _ _ hw hE Ta0 (lv_sub hl [2, 3, 1, 0] rfl) hm
abbrev rm_X9_copyFrom : Room := { frames := 1, cells := 0, slots := 0, locals := 80 }
def m_X9_copyFrom (n : Nat) (a0 : Nat) (a1 : Nat) (S0 : pq_S) : Option pq_S := Option.bind (pR (sI S0 902 a0 (pI S0 902 a1)) 900 a1) fun q1 => Option.bind (pR (sI S0 902 a0 (pI S0 902 a1)) 900 a0) fun q2 => Option.bind (pR (sI S0 902 a0 (pI S0 902 a1)) 900 a1) fun q3 => Option.bind (pR (sI S0 902 a0 (pI S0 902 a1)) 900 a0) fun q4 => ck (cpk 0 0 (if (Int32.ofNat (pN (sI S0 902 a0 (pI S0 902 a1)) q4)) < (Int32.ofNat (pN (sI S0 902 a0 (pI S0 902 a1)) q3)) then (Int32.ofNat (pN (sI S0 902 a0 (pI S0 902 a1)) q4)) else (Int32.ofNat (pN (sI S0 902 a0 (pI S0 902 a1)) q3))) (pN (sI S0 902 a0 (pI S0 902 a1)) q1) (pN (sI S0 902 a0 (pI S0 902 a1)) q2)) (dcpk _ _ _ _ _) (lt_ (sF (sI S0 902 a0 (pI S0 902 a1)) q2 (va_cpy (pA (sI S0 902 a0 (pI S0 902 a1)) q1) (pA (sI S0 902 a0 (pI S0 902 a1)) q2) (Int32.toNatClampNeg 0) (Int32.toNatClampNeg 0) (Int32.toNatClampNeg (if (Int32.ofNat (pN (sI S0 902 a0 (pI S0 902 a1)) q4)) < (Int32.ofNat (pN (sI S0 902 a0 (pI S0 902 a1)) q3)) then (Int32.ofNat (pN (sI S0 902 a0 (pI S0 902 a1)) q4)) else (Int32.ofNat (pN (sI S0 902 a0 (pI S0 902 a1)) q3)))))) fun S_6 => some S_6)
theorem tc_X9_copyFrom : Cond.code yX9_copyFrom cX9_copyFrom 2 none ∈ pq_U := tw442
theorem cd_X9_copyFrom : yX9_copyFrom.cls = RX9 ∧ yX9_copyFrom.cls ≠ "java/lang/invoke/MethodHandle" ∧ yX9_copyFrom.cls ≠ "java/lang/invoke/VarHandle" ∧ (parseMethodDescriptor yX9_copyFrom.desc).map (fun d => d.parameters.length) = some 1 := by decide +kernel
set_option maxHeartbeats 4000000 in
set_option maxRecDepth 100000 in
theorem c_X9_copyFrom (l : Launch) (C : pq_C) (X : va_W) (n : Nat) (S0 : pq_S) (hF : WF S0) (sz : Nat) (a0 : Nat) (a1 : Nat) (Ta0 : TY S0 a0 9) (Ta1 : TY S0 a1 9) (S1 : pq_S) (hm : m_X9_copyFrom n a0 a1 S0 = some S1) : MV l yX9_copyFrom (.code yX9_copyFrom cX9_copyFrom 2 none :: pq_U) rm_X9_copyFrom C X S0 sz [.ref a0, .ref a1] S1 0 0 := by
  refine Met.ofW (cc := cX9_copyFrom) (maxL := 2) (ret := none) (by decide) rfl ?_
  intro p e s m args below meth c s₁ B hml hv
  obtain ⟨rfl, hv⟩ := hv
  have hsz := hv.1
  subst hsz
  have hw := pw_entry hF hv
  have hts := atoms_spec (ws := .code yX9_copyFrom cX9_copyFrom 2 none :: pq_U) B.pre
  have hU : ∀ w ∈ pq_U, w.before _ s = true := fun w h => hts w (List.mem_cons_of_mem _ h)
  have hx := B.exec
  have hb := B.bytes
  have hr := B.returns
  have hown : s.vm.findClass RX9 = some m.cls := findClass_of_methodNamed B.named
  have hlk := B.notSynchronized
  have hl := lv_entry ([.ref a0, .ref a1]) (n := 2) (Nat.le_of_ble_eq_true rfl)
  rw [lg_entry_eq]
  generalize (lg_sl ([.ref a0, .ref a1]) ++ List.replicate (2 - (lg_sl ([.ref a0, .ref a1])).length) Slot.unset).toArray = ls at hl ⊢
  have hl : lv_has ls 2 [(0, .ref a0), (1, .ref a1)] := hl
  have hE : Ext S0 S0 := Ext.rf _
  have cx : Cx p s m _ meth c cX9_copyFrom 2 RX9 none := ⟨hx, hb, hml, hown, hU, hr, hlk⟩
  rw [m_X9_copyFrom] at hm
  refine lv_aload_n hx hb dX9_copyFrom_0 rfl (lv_at hl 0 rfl) ?_
  refine lv_aload_n hx hb dX9_copyFrom_1 rfl (lv_at hl 1 rfl) ?_
  refine pg_i (k := 9) (j := 2) (f := 902) hx hb hown hU iu9 hw Ta1 (by decide) rfl (hU _ tw92) rfl dX9_copyFrom_2 ?_
  refine pp_i (k := 9) (j := 2) (f := 902) hx hb hown hU iu9 tyX9_ok nmX9 hw Ta0 (by decide) rfl (hU _ tw92) rfl rfl rfl dX9_copyFrom_5 (fun H locs hw => ?_)
  refine lv_aload_n hx hb dX9_copyFrom_8 rfl (lv_at hl 1 rfl) ?_
  obtain ⟨q1, hq1, hm⟩ := bd_some hm
  have Tq1 : TY (sI S0 902 a0 (pI S0 902 a1)) q1 14 := hw.wf.ref (k := 9) (j := 0) Ta1 (by decide) (by decide) hq1
  refine pg_rb (k := 9) (j := 0) (f := 900) hx hb hown hU iu9 hw Ta1 (by decide) rfl (hU _ tw90) rfl hq1 dX9_copyFrom_9 ?_
  refine lv_iconst (v := 0) hx hb dX9_copyFrom_12 (by decide) ?_
  refine lv_aload_n hx hb dX9_copyFrom_13 rfl (lv_at hl 0 rfl) ?_
  obtain ⟨q2, hq2, hm⟩ := bd_some hm
  have Tq2 : TY (sI S0 902 a0 (pI S0 902 a1)) q2 14 := hw.wf.ref (k := 9) (j := 0) Ta0 (by decide) (by decide) hq2
  refine pg_rb (k := 9) (j := 0) (f := 900) hx hb hown hU iu9 hw Ta0 (by decide) rfl (hU _ tw90) rfl hq2 dX9_copyFrom_14 ?_
  refine lv_iconst (v := 0) hx hb dX9_copyFrom_17 (by decide) ?_
  refine lv_aload_n hx hb dX9_copyFrom_18 rfl (lv_at hl 1 rfl) ?_
  obtain ⟨q3, hq3, hm⟩ := bd_some hm
  have Tq3 : TY (sI S0 902 a0 (pI S0 902 a1)) q3 14 := hw.wf.ref (k := 9) (j := 0) Ta1 (by decide) (by decide) hq3
  refine pg_rb (k := 9) (j := 0) (f := 900) hx hb hown hU iu9 hw Ta1 (by decide) rfl (hU _ tw90) rfl hq3 dX9_copyFrom_19 ?_
  refine pw_alenI (v := (Int32.ofNat (pN (sI S0 902 a0 (pI S0 902 a1)) q3))) hx hb hw Tq3 rfl dX9_copyFrom_22 ?_
  refine lv_aload_n hx hb dX9_copyFrom_23 rfl (lv_at hl 0 rfl) ?_
  obtain ⟨q4, hq4, hm⟩ := bd_some hm
  have Tq4 : TY (sI S0 902 a0 (pI S0 902 a1)) q4 14 := hw.wf.ref (k := 9) (j := 0) Ta0 (by decide) (by decide) hq4
  refine pg_rb (k := 9) (j := 0) (f := 900) hx hb hown hU iu9 hw Ta0 (by decide) rfl (hU _ tw90) rfl hq4 dX9_copyFrom_24 ?_
  refine pw_alenI (v := (Int32.ofNat (pN (sI S0 902 a0 (pI S0 902 a1)) q4))) hx hb hw Tq4 rfl dX9_copyFrom_27 ?_
  refine va_mmin hx hb (by rw [hml]; exact hl.1.symm) hown (hU _ tw443) (hU _ twm_min_s) (hU _ twm_i) (hU _ twm_min_c) (Nat.le_of_ble_eq_true rfl) (Nat.le_of_ble_eq_true rfl) (Nat.zero_le _) (Nat.zero_le _) dX9_copyFrom_28 ?_
  obtain ⟨hc5, hm⟩ := ck_some hm
  refine pw_copy hx hb (by rw [hml]; exact hl.1.symm) hown (hU _ tw446) (hU _ tw448) (hU _ tw447) (hU _ tw24) hw Tq1 Tq2 hc5 (Nat.le_of_ble_eq_true rfl) (Nat.le_of_ble_eq_true rfl) dX9_copyFrom_31 (fun H locs hw => ?_)
  obtain ⟨S_6, eS_6, hm⟩ := lt_some hm
  rw [← eS_6] at hw
  have Ta0 : TY S_6 a0 9 := by rw [eS_6]; exact Ta0
  have Ta1 : TY S_6 a1 9 := by rw [eS_6]; exact Ta1
  have hE : Ext S0 S_6 := by rw [eS_6]; exact hE
  cases hm
  exact pw_vret hx hb hr hlk hw hE dX9_copyFrom_34
abbrev rm_X9_clear : Room := { frames := 1, cells := 0, slots := 0, locals := 23 }
def m_X9_clear (n : Nat) (a0 : Nat) (S0 : pq_S) : Option pq_S := Option.bind (pR (sI S0 902 a0 0) 900 a0) fun q1 => Option.bind (m_J7_fill_53178 n q1 0 (sI S0 902 a0 0)) fun S_2 => some S_2
theorem tc_X9_clear : Cond.code yX9_clear cX9_clear 1 none ∈ pq_U := tw568
theorem cd_X9_clear : yX9_clear.cls = RX9 ∧ yX9_clear.cls ≠ "java/lang/invoke/MethodHandle" ∧ yX9_clear.cls ≠ "java/lang/invoke/VarHandle" ∧ (parseMethodDescriptor yX9_clear.desc).map (fun d => d.parameters.length) = some 0 := by decide +kernel
set_option maxHeartbeats 4000000 in
set_option maxRecDepth 100000 in
theorem c_X9_clear (l : Launch) (C : pq_C) (X : va_W) (n : Nat) (S0 : pq_S) (hF : WF S0) (sz : Nat) (a0 : Nat) (Ta0 : TY S0 a0 9) (S1 : pq_S) (hm : m_X9_clear n a0 S0 = some S1) : MV l yX9_clear (.code yX9_clear cX9_clear 1 none :: pq_U) rm_X9_clear C X S0 sz [.ref a0] S1 0 0 := by
  refine Met.ofW (cc := cX9_clear) (maxL := 1) (ret := none) (by decide) rfl ?_
  intro p e s m args below meth c s₁ B hml hv
  obtain ⟨rfl, hv⟩ := hv
  have hsz := hv.1
  subst hsz
  have hw := pw_entry hF hv
  have hts := atoms_spec (ws := .code yX9_clear cX9_clear 1 none :: pq_U) B.pre
  have hU : ∀ w ∈ pq_U, w.before _ s = true := fun w h => hts w (List.mem_cons_of_mem _ h)
  have hx := B.exec
  have hb := B.bytes
  have hr := B.returns
  have hown : s.vm.findClass RX9 = some m.cls := findClass_of_methodNamed B.named
  have hlk := B.notSynchronized
  have hl := lv_entry ([.ref a0]) (n := 1) (Nat.le_of_ble_eq_true rfl)
  rw [lg_entry_eq]
  generalize (lg_sl ([.ref a0]) ++ List.replicate (1 - (lg_sl ([.ref a0])).length) Slot.unset).toArray = ls at hl ⊢
  have hl : lv_has ls 1 [(0, .ref a0)] := hl
  have hE : Ext S0 S0 := Ext.rf _
  have cx : Cx p s m _ meth c cX9_clear 1 RX9 none := ⟨hx, hb, hml, hown, hU, hr, hlk⟩
  rw [m_X9_clear] at hm
  refine lv_aload_n hx hb dX9_clear_0 rfl (lv_at hl 0 rfl) ?_
  refine lv_iconst (v := 0) hx hb dX9_clear_1 (by decide) ?_
  refine pp_i (k := 9) (j := 2) (f := 902) hx hb hown hU iu9 tyX9_ok nmX9 hw Ta0 (by decide) rfl (hU _ tw92) rfl rfl rfl dX9_clear_2 (fun H locs hw => ?_)
  refine lv_aload_n hx hb dX9_clear_5 rfl (lv_at hl 0 rfl) ?_
  obtain ⟨q1, hq1, hm⟩ := bd_some hm
  have Tq1 : TY (sI S0 902 a0 0) q1 14 := hw.wf.ref (k := 9) (j := 0) Ta0 (by decide) (by decide) hq1
  refine pg_rb (k := 9) (j := 0) (f := 900) hx hb hown hU iu9 hw Ta0 (by decide) rfl (hU _ tw90) rfl hq1 dX9_clear_6 ?_
  refine lv_iconst (v := 0) hx hb dX9_clear_9 (by decide) ?_
  obtain ⟨S_2, hq3, hm⟩ := bd_some hm
  refine pw_cv (va_runS (As := [.ref q1, .int 0]) (rest := []) ⟨hx, hb, hml, hown, hU⟩ (c_J7_fill_53178 l C X n (sI S0 902 a0 0) hw.wf _ q1 0 (Tq1) S_2 hq3) ⟨callB_of 2 hU (pq_g1 tc_J7_fill_53178) rfl rfl rfl (hU _ tw12) (hU _ tw569) cd_J7_fill_53178.2 ⟨Nat.le_of_ble_eq_true rfl, Nat.le_of_ble_eq_true rfl⟩, hU _ tw336⟩ (pw_preS hw) rfl rfl hl.1 rfl (lv_room (Nat.le_of_ble_eq_true rfl)) dX9_clear_10 ⟨Nat.zero_le _, Nat.zero_le _⟩) hw (fun H locs hw hx4 => ?_)
  have Ta0 : TY S_2 a0 9 := ty_ext hx4 Ta0
  have hE : Ext S0 S_2 := Ext.tr hE hx4
  cases hm
  exact pw_vret hx hb hr hlk hw hE dX9_clear_13
abbrev rm_X10_append : Room := { frames := 0, cells := 0, slots := 0, locals := 0 }
def b_X10_append_3 (n : Nat) : Nat → Nat → Int32 → Int32 → pq_S → Option pq_S
  | 0, _, _, _, _ => none
  | f + 1, a0, x1, x2, S => if x2 < 0 then some S else Option.bind (pR S 1000 a0) fun q2 => if (Int32.ofNat (pN S q2)) ≤ (pI S 1001 a0) then some S else Option.bind (pR S 1000 a0) fun q4 => ck (ix (pI S 1001 a0) (pN S q4)) (dix _ _) (lt_ (sA S q4 (Int32.toNatClampNeg (pI S 1001 a0)) (vp_nar .byte (Int8.toInt32 (Int32.toInt8 (x1 >>> (x2 &&& (31 : Int32))))))) fun S_6 => b_X10_append_3 n f a0 x1 (x2 + (-8)) (sI S_6 1001 a0 ((pI S_6 1001 a0) + (1 : Int32))))
set_option maxHeartbeats 4000000 in
set_option maxRecDepth 100000 in
theorem wb_X10_append_3 {p : Program} {l : Launch} {e : Env} {s : State} {m : MethodId} {args : Array Value} {below : List Frame} {meth : Method} {c : Code} (cx : Cx p s m args meth c cX10_append 3 RX10 none) (C : pq_C) (X : va_W) (S0 : pq_S) (n : Nat) (S1 : pq_S) : ∀ (f : Nat) (a0 : Nat) (x1 : Int32) (x2 : Int32) (S : pq_S) (H : Heap) (locs : List Loc) (ls : Array Slot), PW C X S (pq_F C X S0 s.heap.size) H locs s → Ext S0 S → TY S a0 10 → lv_has ls 3 [(0, .ref a0), (1, .int x1), (2, .int x2)] → b_X10_append_3 n f a0 x1 x2 S = some S1 → W p l e rm_X10_append s m args below meth c H locs 0 0 (MQ below (QcV C X S0 s.heap.size S1) args s 0 0 (pq_F C X S0 s.heap.size)) (F0 m 3 ls []) := by
  obtain ⟨hx, hb, hml, hown, hU, hr, hlk⟩ := id cx
  intro f
  induction f with
  | zero =>
    intro a0 x1 x2 S H locs ls hw hE Ta0 hl hm
    cases hm
  | succ f ih =>
    intro a0 x1 x2 S H locs ls hw hE Ta0 hl hm
    rw [b_X10_append_3] at hm
    refine lv_iload_n hx hb dX10_append_3 rfl (lv_at hl 2 rfl) ?_
    refine lv_if_lt (tgt := 48) hx hb dX10_append_4 (by decide) (fun h1 => ?_) (fun h1 => ?_)
    · rw [if_pos h1] at hm
      cases hm
      exact pw_vret hx hb hr hlk hw hE dX10_append_48
    · rw [if_neg h1] at hm
      refine lv_aload_n hx hb dX10_append_7 rfl (lv_at hl 0 rfl) ?_
      refine pg_i (k := 10) (j := 1) (f := 1001) hx hb hown hU iu10 hw Ta0 (by decide) rfl (hU _ tw42) rfl dX10_append_8 ?_
      refine lv_aload_n hx hb dX10_append_11 rfl (lv_at hl 0 rfl) ?_
      obtain ⟨q2, hq2, hm⟩ := bd_some hm
      have Tq2 : TY S q2 13 := hw.wf.ref (k := 10) (j := 0) Ta0 (by decide) (by decide) hq2
      refine pg_rb (k := 10) (j := 0) (f := 1000) hx hb hown hU iu10 hw Ta0 (by decide) rfl (hU _ tw40) rfl hq2 dX10_append_12 ?_
      refine pw_alenB (v := (Int32.ofNat (pN S q2))) hx hb hw Tq2 rfl dX10_append_15 ?_
      refine lv_icmp_ge (tgt := 48) hx hb dX10_append_16 (by decide) (fun h3 => ?_) (fun h3 => ?_)
      · rw [if_pos h3] at hm
        cases hm
        exact pw_vret hx hb hr hlk hw hE dX10_append_48
      · rw [if_neg h3] at hm
        refine lv_aload_n hx hb dX10_append_19 rfl (lv_at hl 0 rfl) ?_
        obtain ⟨q4, hq4, hm⟩ := bd_some hm
        have Tq4 : TY S q4 13 := hw.wf.ref (k := 10) (j := 0) Ta0 (by decide) (by decide) hq4
        refine pg_rb (k := 10) (j := 0) (f := 1000) hx hb hown hU iu10 hw Ta0 (by decide) rfl (hU _ tw40) rfl hq4 dX10_append_20 ?_
        refine lv_aload_n hx hb dX10_append_23 rfl (lv_at hl 0 rfl) ?_
        refine pg_i (k := 10) (j := 1) (f := 1001) hx hb hown hU iu10 hw Ta0 (by decide) rfl (hU _ tw42) rfl dX10_append_24 ?_
        refine lv_iload_n hx hb dX10_append_27 rfl (lv_at hl 1 rfl) ?_
        refine lv_iload_n hx hb dX10_append_28 rfl (lv_at hl 2 rfl) ?_
        refine lv_ishr hx hb dX10_append_29 ?_
        refine lv_i2b (v := (Int8.toInt32 (Int32.toInt8 (x1 >>> (x2 &&& (31 : Int32)))))) hx hb dX10_append_30 rfl ?_
        obtain ⟨hi5, hm⟩ := ck_some hm
        refine pw_bast hx hb hw Tq4 hi5 dX10_append_31 (fun H locs hw => ?_)
        obtain ⟨S_6, eS_6, hm⟩ := lt_some hm
        rw [← eS_6] at hw
        have Ta0 : TY S_6 a0 10 := by rw [eS_6]; exact Ta0
        have hE : Ext S0 S_6 := by rw [eS_6]; exact hE
        refine lv_aload_n hx hb dX10_append_32 rfl (lv_at hl 0 rfl) ?_
        refine lv_dup hx hb dX10_append_33 rfl ?_
        refine pg_i (k := 10) (j := 1) (f := 1001) hx hb hown hU iu10 hw Ta0 (by decide) rfl (hU _ tw42) rfl dX10_append_34 ?_
        refine lv_iconst (v := 1) hx hb dX10_append_37 (by decide) ?_
        refine lv_iadd hx hb dX10_append_38 ?_
        refine pp_i (k := 10) (j := 1) (f := 1001) hx hb hown hU iu10 tyX10_ok nmX10 hw Ta0 (by decide) rfl (hU _ tw42) rfl rfl rfl dX10_append_39 (fun H locs hw => ?_)
        refine lv_iinc (v := (x2 + (-8))) (lv' := [(2, .int (x2 + (-8))), (0, .ref a0), (1, .int x1)]) hx hb dX10_append_42 hl (k := 2) rfl rfl (by decide) rfl (fun ls hl => ?_)
        refine lv_goto (tgt := 3) hx hb dX10_append_45 (by decide) ?_
        exact ih a0 x1 (x2 + (-8)) (sI S_6 1001 a0 ((pI S_6 1001 a0) + (1 : Int32))) _ _ _ hw hE Ta0 (lv_sub hl [1, 2, 0] rfl) hm
def m_X10_append (n : Nat) (a0 : Nat) (x1 : Int32) (S0 : pq_S) : Option pq_S := b_X10_append_3 n n a0 x1 24 S0
theorem tc_X10_append : Cond.code yX10_append cX10_append 3 none ∈ pq_U := tw422
theorem cd_X10_append : yX10_append.cls = RX10 ∧ yX10_append.cls ≠ "java/lang/invoke/MethodHandle" ∧ yX10_append.cls ≠ "java/lang/invoke/VarHandle" ∧ (parseMethodDescriptor yX10_append.desc).map (fun d => d.parameters.length) = some 1 := by decide +kernel
set_option maxHeartbeats 4000000 in
set_option maxRecDepth 100000 in
theorem c_X10_append (l : Launch) (C : pq_C) (X : va_W) (n : Nat) (S0 : pq_S) (hF : WF S0) (sz : Nat) (a0 : Nat) (x1 : Int32) (Ta0 : TY S0 a0 10) (S1 : pq_S) (hm : m_X10_append n a0 x1 S0 = some S1) : MV l yX10_append (.code yX10_append cX10_append 3 none :: pq_U) rm_X10_append C X S0 sz [.ref a0, .int x1] S1 0 0 := by
  refine Met.ofW (cc := cX10_append) (maxL := 3) (ret := none) (by decide) rfl ?_
  intro p e s m args below meth c s₁ B hml hv
  obtain ⟨rfl, hv⟩ := hv
  have hsz := hv.1
  subst hsz
  have hw := pw_entry hF hv
  have hts := atoms_spec (ws := .code yX10_append cX10_append 3 none :: pq_U) B.pre
  have hU : ∀ w ∈ pq_U, w.before _ s = true := fun w h => hts w (List.mem_cons_of_mem _ h)
  have hx := B.exec
  have hb := B.bytes
  have hr := B.returns
  have hown : s.vm.findClass RX10 = some m.cls := findClass_of_methodNamed B.named
  have hlk := B.notSynchronized
  have hl := lv_entry ([.ref a0, .int x1]) (n := 3) (Nat.le_of_ble_eq_true rfl)
  rw [lg_entry_eq]
  generalize (lg_sl ([.ref a0, .int x1]) ++ List.replicate (3 - (lg_sl ([.ref a0, .int x1])).length) Slot.unset).toArray = ls at hl ⊢
  have hl : lv_has ls 3 [(0, .ref a0), (1, .int x1)] := hl
  have hE : Ext S0 S0 := Ext.rf _
  have cx : Cx p s m _ meth c cX10_append 3 RX10 none := ⟨hx, hb, hml, hown, hU, hr, hlk⟩
  rw [m_X10_append] at hm
  refine lv_bipush (v := 24) hx hb dX10_append_0 (by decide) ?_
  refine lv_istore_n (lv' := [(2, .int 24), (0, .ref a0), (1, .int x1)]) hx hb dX10_append_2 rfl hl (by decide) rfl (fun ls hl => ?_)
  exact wb_X10_append_3 cx C X S0 n S1 n a0 x1 24 S0 _ _ _ hw hE Ta0 (lv_sub hl [1, 2, 0] rfl) hm
abbrev rm_X10_begin : Room := { frames := 1, cells := 0, slots := 0, locals := 40 }
def m_X10_begin (n : Nat) (a0 : Nat) (x1 : Int32) (S0 : pq_S) : Option pq_S := Option.bind (pR S0 1000 a0) fun q1 => lt_ (sI S0 1002 a0 (if (Int32.ofNat (pN S0 q1)) < x1 then (Int32.ofNat (pN S0 q1)) else x1)) fun S_2 => some (sI (sI (sI (sI S_2 1003 a0 0) 1004 a0 0) 1005 a0 0) 1006 a0 0)
theorem tc_X10_begin : Cond.code yX10_begin cX10_begin 2 none ∈ pq_U := tw559
theorem cd_X10_begin : yX10_begin.cls = RX10 ∧ yX10_begin.cls ≠ "java/lang/invoke/MethodHandle" ∧ yX10_begin.cls ≠ "java/lang/invoke/VarHandle" ∧ (parseMethodDescriptor yX10_begin.desc).map (fun d => d.parameters.length) = some 1 := by decide +kernel
set_option maxHeartbeats 4000000 in
set_option maxRecDepth 100000 in
theorem c_X10_begin (l : Launch) (C : pq_C) (X : va_W) (n : Nat) (S0 : pq_S) (hF : WF S0) (sz : Nat) (a0 : Nat) (x1 : Int32) (Ta0 : TY S0 a0 10) (S1 : pq_S) (hm : m_X10_begin n a0 x1 S0 = some S1) : MV l yX10_begin (.code yX10_begin cX10_begin 2 none :: pq_U) rm_X10_begin C X S0 sz [.ref a0, .int x1] S1 0 0 := by
  refine Met.ofW (cc := cX10_begin) (maxL := 2) (ret := none) (by decide) rfl ?_
  intro p e s m args below meth c s₁ B hml hv
  obtain ⟨rfl, hv⟩ := hv
  have hsz := hv.1
  subst hsz
  have hw := pw_entry hF hv
  have hts := atoms_spec (ws := .code yX10_begin cX10_begin 2 none :: pq_U) B.pre
  have hU : ∀ w ∈ pq_U, w.before _ s = true := fun w h => hts w (List.mem_cons_of_mem _ h)
  have hx := B.exec
  have hb := B.bytes
  have hr := B.returns
  have hown : s.vm.findClass RX10 = some m.cls := findClass_of_methodNamed B.named
  have hlk := B.notSynchronized
  have hl := lv_entry ([.ref a0, .int x1]) (n := 2) (Nat.le_of_ble_eq_true rfl)
  rw [lg_entry_eq]
  generalize (lg_sl ([.ref a0, .int x1]) ++ List.replicate (2 - (lg_sl ([.ref a0, .int x1])).length) Slot.unset).toArray = ls at hl ⊢
  have hl : lv_has ls 2 [(0, .ref a0), (1, .int x1)] := hl
  have hE : Ext S0 S0 := Ext.rf _
  have cx : Cx p s m _ meth c cX10_begin 2 RX10 none := ⟨hx, hb, hml, hown, hU, hr, hlk⟩
  rw [m_X10_begin] at hm
  refine lv_aload_n hx hb dX10_begin_0 rfl (lv_at hl 0 rfl) ?_
  refine lv_iload_n hx hb dX10_begin_1 rfl (lv_at hl 1 rfl) ?_
  refine lv_aload_n hx hb dX10_begin_2 rfl (lv_at hl 0 rfl) ?_
  obtain ⟨q1, hq1, hm⟩ := bd_some hm
  have Tq1 : TY S0 q1 13 := hw.wf.ref (k := 10) (j := 0) Ta0 (by decide) (by decide) hq1
  refine pg_rb (k := 10) (j := 0) (f := 1000) hx hb hown hU iu10 hw Ta0 (by decide) rfl (hU _ tw40) rfl hq1 dX10_begin_3 ?_
  refine pw_alenB (v := (Int32.ofNat (pN S0 q1))) hx hb hw Tq1 rfl dX10_begin_6 ?_
  refine va_mmin hx hb (by rw [hml]; exact hl.1.symm) hown (hU _ tw560) (hU _ twm_min_s) (hU _ twm_i) (hU _ twm_min_c) (Nat.le_of_ble_eq_true rfl) (Nat.le_of_ble_eq_true rfl) (Nat.zero_le _) (Nat.zero_le _) dX10_begin_7 ?_
  refine pp_i (k := 10) (j := 2) (f := 1002) hx hb hown hU iu10 tyX10_ok nmX10 hw Ta0 (by decide) rfl (hU _ tw43) rfl rfl rfl dX10_begin_10 (fun H locs hw => ?_)
  obtain ⟨S_2, eS_2, hm⟩ := lt_some hm
  rw [← eS_2] at hw
  have Ta0 : TY S_2 a0 10 := by rw [eS_2]; exact Ta0
  have hE : Ext S0 S_2 := by rw [eS_2]; exact hE
  refine lv_aload_n hx hb dX10_begin_13 rfl (lv_at hl 0 rfl) ?_
  refine lv_iconst (v := 0) hx hb dX10_begin_14 (by decide) ?_
  refine pp_i (k := 10) (j := 3) (f := 1003) hx hb hown hU iu10 tyX10_ok nmX10 hw Ta0 (by decide) rfl (hU _ tw46) rfl rfl rfl dX10_begin_15 (fun H locs hw => ?_)
  refine lv_aload_n hx hb dX10_begin_18 rfl (lv_at hl 0 rfl) ?_
  refine lv_iconst (v := 0) hx hb dX10_begin_19 (by decide) ?_
  refine pp_i (k := 10) (j := 4) (f := 1004) hx hb hown hU iu10 tyX10_ok nmX10 hw Ta0 (by decide) rfl (hU _ tw48) rfl rfl rfl dX10_begin_20 (fun H locs hw => ?_)
  refine lv_aload_n hx hb dX10_begin_23 rfl (lv_at hl 0 rfl) ?_
  refine lv_iconst (v := 0) hx hb dX10_begin_24 (by decide) ?_
  refine pp_i (k := 10) (j := 5) (f := 1005) hx hb hown hU iu10 tyX10_ok nmX10 hw Ta0 (by decide) rfl (hU _ tw52) rfl rfl rfl dX10_begin_25 (fun H locs hw => ?_)
  refine lv_aload_n hx hb dX10_begin_28 rfl (lv_at hl 0 rfl) ?_
  refine lv_iconst (v := 0) hx hb dX10_begin_29 (by decide) ?_
  refine pp_i (k := 10) (j := 6) (f := 1006) hx hb hown hU iu10 tyX10_ok nmX10 hw Ta0 (by decide) rfl (hU _ tw54) rfl rfl rfl dX10_begin_30 (fun H locs hw => ?_)
  cases hm
  exact pw_vret hx hb hr hlk hw hE dX10_begin_33
abbrev rm_X10_isWell : Room := { frames := 0, cells := 0, slots := 0, locals := 0 }
def m_X10_isWell (n : Nat) (a0 : Nat) (S0 : pq_S) : Option (Int32 × pq_S) := if (pI S0 1005 a0) = 0 then some (1, S0) else some (0, S0)
theorem tc_X10_isWell : Cond.code yX10_isWell cX10_isWell 1 (some .boolean) ∈ pq_U := tw595
theorem cd_X10_isWell : yX10_isWell.cls = RX10 ∧ yX10_isWell.cls ≠ "java/lang/invoke/MethodHandle" ∧ yX10_isWell.cls ≠ "java/lang/invoke/VarHandle" ∧ (parseMethodDescriptor yX10_isWell.desc).map (fun d => d.parameters.length) = some 0 := by decide +kernel
set_option maxHeartbeats 4000000 in
set_option maxRecDepth 100000 in
theorem c_X10_isWell (l : Launch) (C : pq_C) (X : va_W) (n : Nat) (S0 : pq_S) (hF : WF S0) (sz : Nat) (a0 : Nat) (Ta0 : TY S0 a0 10) (r : Int32) (S1 : pq_S) (hm : m_X10_isWell n a0 S0 = some (r, S1)) : MZ l yX10_isWell (.code yX10_isWell cX10_isWell 1 (some .boolean) :: pq_U) rm_X10_isWell C X S0 sz [.ref a0] r S1 0 0 := by
  refine Met.ofW (cc := cX10_isWell) (maxL := 1) (ret := (some .boolean)) (by decide) rfl ?_
  intro p e s m args below meth c s₁ B hml hv
  obtain ⟨rfl, hv⟩ := hv
  have hsz := hv.1
  subst hsz
  have hw := pw_entry hF hv
  have hts := atoms_spec (ws := .code yX10_isWell cX10_isWell 1 (some .boolean) :: pq_U) B.pre
  have hU : ∀ w ∈ pq_U, w.before _ s = true := fun w h => hts w (List.mem_cons_of_mem _ h)
  have hx := B.exec
  have hb := B.bytes
  have hr := B.returns
  have hown : s.vm.findClass RX10 = some m.cls := findClass_of_methodNamed B.named
  have hlk := B.notSynchronized
  have hl := lv_entry ([.ref a0]) (n := 1) (Nat.le_of_ble_eq_true rfl)
  rw [lg_entry_eq]
  generalize (lg_sl ([.ref a0]) ++ List.replicate (1 - (lg_sl ([.ref a0])).length) Slot.unset).toArray = ls at hl ⊢
  have hl : lv_has ls 1 [(0, .ref a0)] := hl
  have hE : Ext S0 S0 := Ext.rf _
  have cx : Cx p s m _ meth c cX10_isWell 1 RX10 (some .boolean) := ⟨hx, hb, hml, hown, hU, hr, hlk⟩
  rw [m_X10_isWell] at hm
  refine lv_aload_n hx hb dX10_isWell_0 rfl (lv_at hl 0 rfl) ?_
  refine pg_i (k := 10) (j := 5) (f := 1005) hx hb hown hU iu10 hw Ta0 (by decide) rfl (hU _ tw52) rfl dX10_isWell_1 ?_
  refine lv_if_ne (tgt := 11) hx hb dX10_isWell_4 (by decide) (fun h1 => ?_) (fun h1 => ?_)
  · rw [if_neg h1] at hm
    refine lv_iconst (v := 0) hx hb dX10_isWell_11 (by decide) ?_
    cases hm
    exact pw_zret hx hb hr bz_0 hlk hw hE dX10_isWell_12
  · rw [if_pos h1] at hm
    refine lv_iconst (v := 1) hx hb dX10_isWell_7 (by decide) ?_
    refine lv_goto (tgt := 12) hx hb dX10_isWell_8 (by decide) ?_
    cases hm
    exact pw_zret hx hb hr bz_1 hlk hw hE dX10_isWell_12
abbrev rm_X10_refuse : Room := { frames := 0, cells := 0, slots := 0, locals := 0 }
def m_X10_refuse (n : Nat) (a0 : Nat) (x1 : Int32) (x2 : Int32) (S0 : pq_S) : Option pq_S := if (pI S0 1005 a0) = 0 then some (sI (sI S0 1005 a0 x1) 1006 a0 x2) else some S0
theorem tc_X10_refuse : Cond.code yX10_refuse cX10_refuse 3 none ∈ pq_U := tw587
theorem cd_X10_refuse : yX10_refuse.cls = RX10 ∧ yX10_refuse.cls ≠ "java/lang/invoke/MethodHandle" ∧ yX10_refuse.cls ≠ "java/lang/invoke/VarHandle" ∧ (parseMethodDescriptor yX10_refuse.desc).map (fun d => d.parameters.length) = some 2 := by decide +kernel
set_option maxHeartbeats 4000000 in
set_option maxRecDepth 100000 in
theorem c_X10_refuse (l : Launch) (C : pq_C) (X : va_W) (n : Nat) (S0 : pq_S) (hF : WF S0) (sz : Nat) (a0 : Nat) (x1 : Int32) (x2 : Int32) (Ta0 : TY S0 a0 10) (S1 : pq_S) (hm : m_X10_refuse n a0 x1 x2 S0 = some S1) : MV l yX10_refuse (.code yX10_refuse cX10_refuse 3 none :: pq_U) rm_X10_refuse C X S0 sz [.ref a0, .int x1, .int x2] S1 0 0 := by
  refine Met.ofW (cc := cX10_refuse) (maxL := 3) (ret := none) (by decide) rfl ?_
  intro p e s m args below meth c s₁ B hml hv
  obtain ⟨rfl, hv⟩ := hv
  have hsz := hv.1
  subst hsz
  have hw := pw_entry hF hv
  have hts := atoms_spec (ws := .code yX10_refuse cX10_refuse 3 none :: pq_U) B.pre
  have hU : ∀ w ∈ pq_U, w.before _ s = true := fun w h => hts w (List.mem_cons_of_mem _ h)
  have hx := B.exec
  have hb := B.bytes
  have hr := B.returns
  have hown : s.vm.findClass RX10 = some m.cls := findClass_of_methodNamed B.named
  have hlk := B.notSynchronized
  have hl := lv_entry ([.ref a0, .int x1, .int x2]) (n := 3) (Nat.le_of_ble_eq_true rfl)
  rw [lg_entry_eq]
  generalize (lg_sl ([.ref a0, .int x1, .int x2]) ++ List.replicate (3 - (lg_sl ([.ref a0, .int x1, .int x2])).length) Slot.unset).toArray = ls at hl ⊢
  have hl : lv_has ls 3 [(0, .ref a0), (1, .int x1), (2, .int x2)] := hl
  have hE : Ext S0 S0 := Ext.rf _
  have cx : Cx p s m _ meth c cX10_refuse 3 RX10 none := ⟨hx, hb, hml, hown, hU, hr, hlk⟩
  rw [m_X10_refuse] at hm
  refine lv_aload_n hx hb dX10_refuse_0 rfl (lv_at hl 0 rfl) ?_
  refine pg_i (k := 10) (j := 5) (f := 1005) hx hb hown hU iu10 hw Ta0 (by decide) rfl (hU _ tw52) rfl dX10_refuse_1 ?_
  refine lv_if_ne (tgt := 17) hx hb dX10_refuse_4 (by decide) (fun h1 => ?_) (fun h1 => ?_)
  · rw [if_neg h1] at hm
    cases hm
    exact pw_vret hx hb hr hlk hw hE dX10_refuse_17
  · rw [if_pos h1] at hm
    refine lv_aload_n hx hb dX10_refuse_7 rfl (lv_at hl 0 rfl) ?_
    refine lv_iload_n hx hb dX10_refuse_8 rfl (lv_at hl 1 rfl) ?_
    refine pp_i (k := 10) (j := 5) (f := 1005) hx hb hown hU iu10 tyX10_ok nmX10 hw Ta0 (by decide) rfl (hU _ tw52) rfl rfl rfl dX10_refuse_9 (fun H locs hw => ?_)
    refine lv_aload_n hx hb dX10_refuse_12 rfl (lv_at hl 0 rfl) ?_
    refine lv_iload_n hx hb dX10_refuse_13 rfl (lv_at hl 2 rfl) ?_
    refine pp_i (k := 10) (j := 6) (f := 1006) hx hb hown hU iu10 tyX10_ok nmX10 hw Ta0 (by decide) rfl (hU _ tw54) rfl rfl rfl dX10_refuse_14 (fun H locs hw => ?_)
    cases hm
    exact pw_vret hx hb hr hlk hw hE dX10_refuse_17
abbrev rm_X10_byteAt : Room := { frames := 0, cells := 0, slots := 0, locals := 0 }
def m_X10_byteAt (n : Nat) (a0 : Nat) (x1 : Int32) (S0 : pq_S) : Option (Int32 × pq_S) := if x1 < 0 then some ((-1), S0) else if (pI S0 1002 a0) ≤ x1 then some ((-1), S0) else Option.bind (pR S0 1000 a0) fun q3 => if (Int32.ofNat (pN S0 q3)) ≤ x1 then some ((-1), S0) else Option.bind (pR S0 1000 a0) fun q5 => ck (ix x1 (pN S0 q5)) (dix _ _) (some (((pA S0 q5 (Int32.toNatClampNeg x1)) &&& (255 : Int32)), S0))
theorem tc_X10_byteAt : Cond.code yX10_byteAt cX10_byteAt 2 (some .int) ∈ pq_U := tw591
theorem cd_X10_byteAt : yX10_byteAt.cls = RX10 ∧ yX10_byteAt.cls ≠ "java/lang/invoke/MethodHandle" ∧ yX10_byteAt.cls ≠ "java/lang/invoke/VarHandle" ∧ (parseMethodDescriptor yX10_byteAt.desc).map (fun d => d.parameters.length) = some 1 := by decide +kernel
set_option maxHeartbeats 4000000 in
set_option maxRecDepth 100000 in
theorem c_X10_byteAt (l : Launch) (C : pq_C) (X : va_W) (n : Nat) (S0 : pq_S) (hF : WF S0) (sz : Nat) (a0 : Nat) (x1 : Int32) (Ta0 : TY S0 a0 10) (r : Int32) (S1 : pq_S) (hm : m_X10_byteAt n a0 x1 S0 = some (r, S1)) : MI l yX10_byteAt (.code yX10_byteAt cX10_byteAt 2 (some .int) :: pq_U) rm_X10_byteAt C X S0 sz [.ref a0, .int x1] r S1 0 0 := by
  refine Met.ofW (cc := cX10_byteAt) (maxL := 2) (ret := (some .int)) (by decide) rfl ?_
  intro p e s m args below meth c s₁ B hml hv
  obtain ⟨rfl, hv⟩ := hv
  have hsz := hv.1
  subst hsz
  have hw := pw_entry hF hv
  have hts := atoms_spec (ws := .code yX10_byteAt cX10_byteAt 2 (some .int) :: pq_U) B.pre
  have hU : ∀ w ∈ pq_U, w.before _ s = true := fun w h => hts w (List.mem_cons_of_mem _ h)
  have hx := B.exec
  have hb := B.bytes
  have hr := B.returns
  have hown : s.vm.findClass RX10 = some m.cls := findClass_of_methodNamed B.named
  have hlk := B.notSynchronized
  have hl := lv_entry ([.ref a0, .int x1]) (n := 2) (Nat.le_of_ble_eq_true rfl)
  rw [lg_entry_eq]
  generalize (lg_sl ([.ref a0, .int x1]) ++ List.replicate (2 - (lg_sl ([.ref a0, .int x1])).length) Slot.unset).toArray = ls at hl ⊢
  have hl : lv_has ls 2 [(0, .ref a0), (1, .int x1)] := hl
  have hE : Ext S0 S0 := Ext.rf _
  have cx : Cx p s m _ meth c cX10_byteAt 2 RX10 (some .int) := ⟨hx, hb, hml, hown, hU, hr, hlk⟩
  rw [m_X10_byteAt] at hm
  refine lv_iload_n hx hb dX10_byteAt_0 rfl (lv_at hl 1 rfl) ?_
  refine lv_if_lt (tgt := 34) hx hb dX10_byteAt_1 (by decide) (fun h1 => ?_) (fun h1 => ?_)
  · rw [if_pos h1] at hm
    refine lv_iconst (v := (-1)) hx hb dX10_byteAt_34 (by decide) ?_
    cases hm
    exact pw_iret hx hb hr rfl hlk hw hE dX10_byteAt_35
  · rw [if_neg h1] at hm
    refine lv_iload_n hx hb dX10_byteAt_4 rfl (lv_at hl 1 rfl) ?_
    refine lv_aload_n hx hb dX10_byteAt_5 rfl (lv_at hl 0 rfl) ?_
    refine pg_i (k := 10) (j := 2) (f := 1002) hx hb hown hU iu10 hw Ta0 (by decide) rfl (hU _ tw43) rfl dX10_byteAt_6 ?_
    refine lv_icmp_ge (tgt := 34) hx hb dX10_byteAt_9 (by decide) (fun h2 => ?_) (fun h2 => ?_)
    · rw [if_pos h2] at hm
      refine lv_iconst (v := (-1)) hx hb dX10_byteAt_34 (by decide) ?_
      cases hm
      exact pw_iret hx hb hr rfl hlk hw hE dX10_byteAt_35
    · rw [if_neg h2] at hm
      refine lv_iload_n hx hb dX10_byteAt_12 rfl (lv_at hl 1 rfl) ?_
      refine lv_aload_n hx hb dX10_byteAt_13 rfl (lv_at hl 0 rfl) ?_
      obtain ⟨q3, hq3, hm⟩ := bd_some hm
      have Tq3 : TY S0 q3 13 := hw.wf.ref (k := 10) (j := 0) Ta0 (by decide) (by decide) hq3
      refine pg_rb (k := 10) (j := 0) (f := 1000) hx hb hown hU iu10 hw Ta0 (by decide) rfl (hU _ tw40) rfl hq3 dX10_byteAt_14 ?_
      refine pw_alenB (v := (Int32.ofNat (pN S0 q3))) hx hb hw Tq3 rfl dX10_byteAt_17 ?_
      refine lv_icmp_ge (tgt := 34) hx hb dX10_byteAt_18 (by decide) (fun h4 => ?_) (fun h4 => ?_)
      · rw [if_pos h4] at hm
        refine lv_iconst (v := (-1)) hx hb dX10_byteAt_34 (by decide) ?_
        cases hm
        exact pw_iret hx hb hr rfl hlk hw hE dX10_byteAt_35
      · rw [if_neg h4] at hm
        refine lv_aload_n hx hb dX10_byteAt_21 rfl (lv_at hl 0 rfl) ?_
        obtain ⟨q5, hq5, hm⟩ := bd_some hm
        have Tq5 : TY S0 q5 13 := hw.wf.ref (k := 10) (j := 0) Ta0 (by decide) (by decide) hq5
        refine pg_rb (k := 10) (j := 0) (f := 1000) hx hb hown hU iu10 hw Ta0 (by decide) rfl (hU _ tw40) rfl hq5 dX10_byteAt_22 ?_
        refine lv_iload_n hx hb dX10_byteAt_25 rfl (lv_at hl 1 rfl) ?_
        obtain ⟨hi6, hm⟩ := ck_some hm
        refine pw_bald hx hb hw Tq5 hi6 dX10_byteAt_26 ?_
        refine lv_sipush (v := 255) hx hb dX10_byteAt_27 (by decide) ?_
        refine lv_iand hx hb dX10_byteAt_30 ?_
        refine lv_goto (tgt := 35) hx hb dX10_byteAt_31 (by decide) ?_
        cases hm
        exact pw_iret hx hb hr rfl hlk hw hE dX10_byteAt_35
abbrev rm_X10_next : Room := { frames := 0, cells := 0, slots := 0, locals := 0 }
def b_X10_next_50 (n : Nat) (a0 : Nat) (S : pq_S) : Option (Int32 × pq_S) := if (pI S 1005 a0) = 0 then if (pI S 1002 a0) ≤ (pI S 1003 a0) then some ((-1), S) else Option.bind (pR S 1000 a0) fun q9 => if (Int32.ofNat (pN S q9)) ≤ (pI S 1003 a0) then some ((-1), S) else Option.bind (pR S 1000 a0) fun q11 => ck (ix (pI S 1003 a0) (pN S q11)) (dix _ _) (some (((pA S q11 (Int32.toNatClampNeg (pI S 1003 a0))) &&& (255 : Int32)), S)) else some ((-1), S)
set_option maxHeartbeats 4000000 in
set_option maxRecDepth 100000 in
theorem wb_X10_next_50 {p : Program} {l : Launch} {e : Env} {s : State} {m : MethodId} {args : Array Value} {below : List Frame} {meth : Method} {c : Code} (cx : Cx p s m args meth c cX10_next 1 RX10 (some .int)) (C : pq_C) (X : va_W) (S0 : pq_S) (n : Nat) (r : Int32) (S1 : pq_S) : ∀ (a0 : Nat) (S : pq_S) (H : Heap) (locs : List Loc) (ls : Array Slot), PW C X S (pq_F C X S0 s.heap.size) H locs s → Ext S0 S → TY S a0 10 → lv_has ls 1 [(0, .ref a0)] → b_X10_next_50 n a0 S = some (r, S1) → W p l e rm_X10_next s m args below meth c H locs 0 0 (MQ below (QcI C X S0 s.heap.size r S1) args s 0 0 (pq_F C X S0 s.heap.size)) (F0 m 50 ls []) := by
  obtain ⟨hx, hb, hml, hown, hU, hr, hlk⟩ := id cx
  intro a0 S H locs ls hw hE Ta0 hl hm
  rw [b_X10_next_50] at hm
  refine lv_aload_n hx hb dX10_next_50 rfl (lv_at hl 0 rfl) ?_
  refine pg_i (k := 10) (j := 5) (f := 1005) hx hb hown hU iu10 hw Ta0 (by decide) rfl (hU _ tw52) rfl dX10_next_51 ?_
  refine lv_if_ne (tgt := 96) hx hb dX10_next_54 (by decide) (fun h7 => ?_) (fun h7 => ?_)
  · rw [if_neg h7] at hm
    refine lv_iconst (v := (-1)) hx hb dX10_next_96 (by decide) ?_
    cases hm
    exact pw_iret hx hb hr rfl hlk hw hE dX10_next_97
  · rw [if_pos h7] at hm
    refine lv_aload_n hx hb dX10_next_57 rfl (lv_at hl 0 rfl) ?_
    refine pg_i (k := 10) (j := 3) (f := 1003) hx hb hown hU iu10 hw Ta0 (by decide) rfl (hU _ tw46) rfl dX10_next_58 ?_
    refine lv_aload_n hx hb dX10_next_61 rfl (lv_at hl 0 rfl) ?_
    refine pg_i (k := 10) (j := 2) (f := 1002) hx hb hown hU iu10 hw Ta0 (by decide) rfl (hU _ tw43) rfl dX10_next_62 ?_
    refine lv_icmp_ge (tgt := 96) hx hb dX10_next_65 (by decide) (fun h8 => ?_) (fun h8 => ?_)
    · rw [if_pos h8] at hm
      refine lv_iconst (v := (-1)) hx hb dX10_next_96 (by decide) ?_
      cases hm
      exact pw_iret hx hb hr rfl hlk hw hE dX10_next_97
    · rw [if_neg h8] at hm
      refine lv_aload_n hx hb dX10_next_68 rfl (lv_at hl 0 rfl) ?_
      refine pg_i (k := 10) (j := 3) (f := 1003) hx hb hown hU iu10 hw Ta0 (by decide) rfl (hU _ tw46) rfl dX10_next_69 ?_
      refine lv_aload_n hx hb dX10_next_72 rfl (lv_at hl 0 rfl) ?_
      obtain ⟨q9, hq9, hm⟩ := bd_some hm
      have Tq9 : TY S q9 13 := hw.wf.ref (k := 10) (j := 0) Ta0 (by decide) (by decide) hq9
      refine pg_rb (k := 10) (j := 0) (f := 1000) hx hb hown hU iu10 hw Ta0 (by decide) rfl (hU _ tw40) rfl hq9 dX10_next_73 ?_
      refine pw_alenB (v := (Int32.ofNat (pN S q9))) hx hb hw Tq9 rfl dX10_next_76 ?_
      refine lv_icmp_ge (tgt := 96) hx hb dX10_next_77 (by decide) (fun h10 => ?_) (fun h10 => ?_)
      · rw [if_pos h10] at hm
        refine lv_iconst (v := (-1)) hx hb dX10_next_96 (by decide) ?_
        cases hm
        exact pw_iret hx hb hr rfl hlk hw hE dX10_next_97
      · rw [if_neg h10] at hm
        refine lv_aload_n hx hb dX10_next_80 rfl (lv_at hl 0 rfl) ?_
        obtain ⟨q11, hq11, hm⟩ := bd_some hm
        have Tq11 : TY S q11 13 := hw.wf.ref (k := 10) (j := 0) Ta0 (by decide) (by decide) hq11
        refine pg_rb (k := 10) (j := 0) (f := 1000) hx hb hown hU iu10 hw Ta0 (by decide) rfl (hU _ tw40) rfl hq11 dX10_next_81 ?_
        refine lv_aload_n hx hb dX10_next_84 rfl (lv_at hl 0 rfl) ?_
        refine pg_i (k := 10) (j := 3) (f := 1003) hx hb hown hU iu10 hw Ta0 (by decide) rfl (hU _ tw46) rfl dX10_next_85 ?_
        obtain ⟨hi12, hm⟩ := ck_some hm
        refine pw_bald hx hb hw Tq11 hi12 dX10_next_88 ?_
        refine lv_sipush (v := 255) hx hb dX10_next_89 (by decide) ?_
        refine lv_iand hx hb dX10_next_92 ?_
        refine lv_goto (tgt := 97) hx hb dX10_next_93 (by decide) ?_
        cases hm
        exact pw_iret hx hb hr rfl hlk hw hE dX10_next_97
def b_X10_next_0 (n : Nat) : Nat → Nat → pq_S → Option (Int32 × pq_S)
  | 0, _, _ => none
  | f + 1, a0, S => if (pI S 1002 a0) ≤ (pI S 1003 a0) then b_X10_next_50 n a0 S else Option.bind (pR S 1000 a0) fun q2 => if (Int32.ofNat (pN S q2)) ≤ (pI S 1003 a0) then b_X10_next_50 n a0 S else Option.bind (pR S 1000 a0) fun q4 => ck (ix (pI S 1003 a0) (pN S q4)) (dix _ _) (if (pA S q4 (Int32.toNatClampNeg (pI S 1003 a0))) = 32 then b_X10_next_0 n f a0 (sI S 1003 a0 ((pI S 1003 a0) + (1 : Int32))) else b_X10_next_50 n a0 S)
set_option maxHeartbeats 4000000 in
set_option maxRecDepth 100000 in
theorem wb_X10_next_0 {p : Program} {l : Launch} {e : Env} {s : State} {m : MethodId} {args : Array Value} {below : List Frame} {meth : Method} {c : Code} (cx : Cx p s m args meth c cX10_next 1 RX10 (some .int)) (C : pq_C) (X : va_W) (S0 : pq_S) (n : Nat) (r : Int32) (S1 : pq_S) : ∀ (f : Nat) (a0 : Nat) (S : pq_S) (H : Heap) (locs : List Loc) (ls : Array Slot), PW C X S (pq_F C X S0 s.heap.size) H locs s → Ext S0 S → TY S a0 10 → lv_has ls 1 [(0, .ref a0)] → b_X10_next_0 n f a0 S = some (r, S1) → W p l e rm_X10_next s m args below meth c H locs 0 0 (MQ below (QcI C X S0 s.heap.size r S1) args s 0 0 (pq_F C X S0 s.heap.size)) (F0 m 0 ls []) := by
  obtain ⟨hx, hb, hml, hown, hU, hr, hlk⟩ := id cx
  intro f
  induction f with
  | zero =>
    intro a0 S H locs ls hw hE Ta0 hl hm
    cases hm
  | succ f ih =>
    intro a0 S H locs ls hw hE Ta0 hl hm
    rw [b_X10_next_0] at hm
    refine lv_aload_n hx hb dX10_next_0 rfl (lv_at hl 0 rfl) ?_
    refine pg_i (k := 10) (j := 3) (f := 1003) hx hb hown hU iu10 hw Ta0 (by decide) rfl (hU _ tw46) rfl dX10_next_1 ?_
    refine lv_aload_n hx hb dX10_next_4 rfl (lv_at hl 0 rfl) ?_
    refine pg_i (k := 10) (j := 2) (f := 1002) hx hb hown hU iu10 hw Ta0 (by decide) rfl (hU _ tw43) rfl dX10_next_5 ?_
    refine lv_icmp_ge (tgt := 50) hx hb dX10_next_8 (by decide) (fun h1 => ?_) (fun h1 => ?_)
    · rw [if_pos h1] at hm
      exact wb_X10_next_50 cx C X S0 n r S1 a0 S _ _ _ hw hE Ta0 (lv_sub hl [0] rfl) hm
    · rw [if_neg h1] at hm
      refine lv_aload_n hx hb dX10_next_11 rfl (lv_at hl 0 rfl) ?_
      refine pg_i (k := 10) (j := 3) (f := 1003) hx hb hown hU iu10 hw Ta0 (by decide) rfl (hU _ tw46) rfl dX10_next_12 ?_
      refine lv_aload_n hx hb dX10_next_15 rfl (lv_at hl 0 rfl) ?_
      obtain ⟨q2, hq2, hm⟩ := bd_some hm
      have Tq2 : TY S q2 13 := hw.wf.ref (k := 10) (j := 0) Ta0 (by decide) (by decide) hq2
      refine pg_rb (k := 10) (j := 0) (f := 1000) hx hb hown hU iu10 hw Ta0 (by decide) rfl (hU _ tw40) rfl hq2 dX10_next_16 ?_
      refine pw_alenB (v := (Int32.ofNat (pN S q2))) hx hb hw Tq2 rfl dX10_next_19 ?_
      refine lv_icmp_ge (tgt := 50) hx hb dX10_next_20 (by decide) (fun h3 => ?_) (fun h3 => ?_)
      · rw [if_pos h3] at hm
        exact wb_X10_next_50 cx C X S0 n r S1 a0 S _ _ _ hw hE Ta0 (lv_sub hl [0] rfl) hm
      · rw [if_neg h3] at hm
        refine lv_aload_n hx hb dX10_next_23 rfl (lv_at hl 0 rfl) ?_
        obtain ⟨q4, hq4, hm⟩ := bd_some hm
        have Tq4 : TY S q4 13 := hw.wf.ref (k := 10) (j := 0) Ta0 (by decide) (by decide) hq4
        refine pg_rb (k := 10) (j := 0) (f := 1000) hx hb hown hU iu10 hw Ta0 (by decide) rfl (hU _ tw40) rfl hq4 dX10_next_24 ?_
        refine lv_aload_n hx hb dX10_next_27 rfl (lv_at hl 0 rfl) ?_
        refine pg_i (k := 10) (j := 3) (f := 1003) hx hb hown hU iu10 hw Ta0 (by decide) rfl (hU _ tw46) rfl dX10_next_28 ?_
        obtain ⟨hi5, hm⟩ := ck_some hm
        refine pw_bald hx hb hw Tq4 hi5 dX10_next_31 ?_
        refine lv_bipush (v := 32) hx hb dX10_next_32 (by decide) ?_
        refine lv_icmp_ne (tgt := 50) hx hb dX10_next_34 (by decide) (fun h6 => ?_) (fun h6 => ?_)
        · rw [if_neg h6] at hm
          exact wb_X10_next_50 cx C X S0 n r S1 a0 S _ _ _ hw hE Ta0 (lv_sub hl [0] rfl) hm
        · rw [if_pos h6] at hm
          refine lv_aload_n hx hb dX10_next_37 rfl (lv_at hl 0 rfl) ?_
          refine lv_dup hx hb dX10_next_38 rfl ?_
          refine pg_i (k := 10) (j := 3) (f := 1003) hx hb hown hU iu10 hw Ta0 (by decide) rfl (hU _ tw46) rfl dX10_next_39 ?_
          refine lv_iconst (v := 1) hx hb dX10_next_42 (by decide) ?_
          refine lv_iadd hx hb dX10_next_43 ?_
          refine pp_i (k := 10) (j := 3) (f := 1003) hx hb hown hU iu10 tyX10_ok nmX10 hw Ta0 (by decide) rfl (hU _ tw46) rfl rfl rfl dX10_next_44 (fun H locs hw => ?_)
          refine lv_goto (tgt := 0) hx hb dX10_next_47 (by decide) ?_
          exact ih a0 (sI S 1003 a0 ((pI S 1003 a0) + (1 : Int32))) _ _ _ hw hE Ta0 (lv_sub hl [0] rfl) hm
def m_X10_next (n : Nat) (a0 : Nat) (S : pq_S) : Option (Int32 × pq_S) := b_X10_next_0 n n a0 S
theorem tc_X10_next : Cond.code yX10_next cX10_next 1 (some .int) ∈ pq_U := tw573
theorem cd_X10_next : yX10_next.cls = RX10 ∧ yX10_next.cls ≠ "java/lang/invoke/MethodHandle" ∧ yX10_next.cls ≠ "java/lang/invoke/VarHandle" ∧ (parseMethodDescriptor yX10_next.desc).map (fun d => d.parameters.length) = some 0 := by decide +kernel
set_option maxHeartbeats 4000000 in
set_option maxRecDepth 100000 in
theorem c_X10_next (l : Launch) (C : pq_C) (X : va_W) (n : Nat) (S0 : pq_S) (hF : WF S0) (sz : Nat) (a0 : Nat) (Ta0 : TY S0 a0 10) (r : Int32) (S1 : pq_S) (hm : m_X10_next n a0 S0 = some (r, S1)) : MI l yX10_next (.code yX10_next cX10_next 1 (some .int) :: pq_U) rm_X10_next C X S0 sz [.ref a0] r S1 0 0 := by
  refine Met.ofW (cc := cX10_next) (maxL := 1) (ret := (some .int)) (by decide) rfl ?_
  intro p e s m args below meth c s₁ B hml hv
  obtain ⟨rfl, hv⟩ := hv
  have hsz := hv.1
  subst hsz
  have hw := pw_entry hF hv
  have hts := atoms_spec (ws := .code yX10_next cX10_next 1 (some .int) :: pq_U) B.pre
  have hU : ∀ w ∈ pq_U, w.before _ s = true := fun w h => hts w (List.mem_cons_of_mem _ h)
  have hx := B.exec
  have hb := B.bytes
  have hr := B.returns
  have hown : s.vm.findClass RX10 = some m.cls := findClass_of_methodNamed B.named
  have hlk := B.notSynchronized
  have hl := lv_entry ([.ref a0]) (n := 1) (Nat.le_of_ble_eq_true rfl)
  rw [lg_entry_eq]
  generalize (lg_sl ([.ref a0]) ++ List.replicate (1 - (lg_sl ([.ref a0])).length) Slot.unset).toArray = ls at hl ⊢
  have hl : lv_has ls 1 [(0, .ref a0)] := hl
  have hE : Ext S0 S0 := Ext.rf _
  have cx : Cx p s m _ meth c cX10_next 1 RX10 (some .int) := ⟨hx, hb, hml, hown, hU, hr, hlk⟩
  rw [m_X10_next] at hm
  exact wb_X10_next_0 cx C X S0 n r S1 n a0 S0 _ _ _ hw hE Ta0 (lv_sub hl [0] rfl) hm
abbrev rm_X10_takeSign : Room := { frames := 1, cells := 0, slots := 0, locals := 22 }
def m_X10_takeSign (n : Nat) (a0 : Nat) (x1 : Int32) (S0 : pq_S) : Option pq_S := cb (m_X10_next n a0 S0) fun r3 S_1 => if r3 = x1 then some (sI S_1 1003 a0 ((pI S_1 1003 a0) + (1 : Int32))) else Option.bind (m_X10_refuse n a0 1 (pI S_1 1003 a0) S_1) fun S_6 => some S_6
theorem tc_X10_takeSign : Cond.code yX10_takeSign cX10_takeSign 2 none ∈ pq_U := tw698
theorem cd_X10_takeSign : yX10_takeSign.cls = RX10 ∧ yX10_takeSign.cls ≠ "java/lang/invoke/MethodHandle" ∧ yX10_takeSign.cls ≠ "java/lang/invoke/VarHandle" ∧ (parseMethodDescriptor yX10_takeSign.desc).map (fun d => d.parameters.length) = some 1 := by decide +kernel
set_option maxHeartbeats 4000000 in
set_option maxRecDepth 100000 in
theorem c_X10_takeSign (l : Launch) (C : pq_C) (X : va_W) (n : Nat) (S0 : pq_S) (hF : WF S0) (sz : Nat) (a0 : Nat) (x1 : Int32) (Ta0 : TY S0 a0 10) (S1 : pq_S) (hm : m_X10_takeSign n a0 x1 S0 = some S1) : MV l yX10_takeSign (.code yX10_takeSign cX10_takeSign 2 none :: pq_U) rm_X10_takeSign C X S0 sz [.ref a0, .int x1] S1 0 0 := by
  refine Met.ofW (cc := cX10_takeSign) (maxL := 2) (ret := none) (by decide) rfl ?_
  intro p e s m args below meth c s₁ B hml hv
  obtain ⟨rfl, hv⟩ := hv
  have hsz := hv.1
  subst hsz
  have hw := pw_entry hF hv
  have hts := atoms_spec (ws := .code yX10_takeSign cX10_takeSign 2 none :: pq_U) B.pre
  have hU : ∀ w ∈ pq_U, w.before _ s = true := fun w h => hts w (List.mem_cons_of_mem _ h)
  have hx := B.exec
  have hb := B.bytes
  have hr := B.returns
  have hown : s.vm.findClass RX10 = some m.cls := findClass_of_methodNamed B.named
  have hlk := B.notSynchronized
  have hl := lv_entry ([.ref a0, .int x1]) (n := 2) (Nat.le_of_ble_eq_true rfl)
  rw [lg_entry_eq]
  generalize (lg_sl ([.ref a0, .int x1]) ++ List.replicate (2 - (lg_sl ([.ref a0, .int x1])).length) Slot.unset).toArray = ls at hl ⊢
  have hl : lv_has ls 2 [(0, .ref a0), (1, .int x1)] := hl
  have hE : Ext S0 S0 := Ext.rf _
  have cx : Cx p s m _ meth c cX10_takeSign 2 RX10 none := ⟨hx, hb, hml, hown, hU, hr, hlk⟩
  rw [m_X10_takeSign] at hm
  refine lv_aload_n hx hb dX10_takeSign_0 rfl (lv_at hl 0 rfl) ?_
  obtain ⟨r3, S_1, hq2, hm⟩ := cb_some hm
  refine pw_ci (va_runV (As := []) (rest := []) ⟨hx, hb, hml, hown, hU⟩ (c_X10_next l C X n S0 hw.wf _ a0 (Ta0) r3 S_1 hq2) (cwV 0 hU (pq_gV tw582 tw572 ts12 tw2 tc_X10_next) rfl rfl rfl cd_X10_next ⟨Nat.le_of_ble_eq_true rfl, Nat.le_of_ble_eq_true rfl⟩) (pw_preV hw Ta0 (by decide) rfl) rfl rfl hl.1 rfl (lv_room (Nat.le_of_ble_eq_true rfl)) dX10_takeSign_1 ⟨Nat.zero_le _, Nat.zero_le _⟩) hw (fun H locs hw hx4 => ?_)
  have Ta0 : TY S_1 a0 10 := ty_ext hx4 Ta0
  have hE : Ext S0 S_1 := Ext.tr hE hx4
  refine lv_iload_n hx hb dX10_takeSign_4 rfl (lv_at hl 1 rfl) ?_
  refine lv_icmp_ne (tgt := 21) hx hb dX10_takeSign_5 (by decide) (fun h5 => ?_) (fun h5 => ?_)
  · rw [if_neg h5] at hm
    refine lv_aload_n hx hb dX10_takeSign_21 rfl (lv_at hl 0 rfl) ?_
    refine lv_iconst (v := 1) hx hb dX10_takeSign_22 (by decide) ?_
    refine lv_aload_n hx hb dX10_takeSign_23 rfl (lv_at hl 0 rfl) ?_
    refine pg_i (k := 10) (j := 3) (f := 1003) hx hb hown hU iu10 hw Ta0 (by decide) rfl (hU _ tw46) rfl dX10_takeSign_24 ?_
    obtain ⟨S_6, hq7, hm⟩ := bd_some hm
    refine pw_cv (va_runV (As := [.int 1, .int (pI S_1 1003 a0)]) (rest := []) ⟨hx, hb, hml, hown, hU⟩ (c_X10_refuse l C X n S_1 hw.wf _ a0 1 (pI S_1 1003 a0) (Ta0) S_6 hq7) (cwV 2 hU (pq_gV tw584 tw586 ts15 tw2 tc_X10_refuse) rfl rfl rfl cd_X10_refuse ⟨Nat.le_of_ble_eq_true rfl, Nat.le_of_ble_eq_true rfl⟩) (pw_preV hw Ta0 (by decide) rfl) rfl rfl hl.1 rfl (lv_room (Nat.le_of_ble_eq_true rfl)) dX10_takeSign_27 ⟨Nat.zero_le _, Nat.zero_le _⟩) hw (fun H locs hw hx8 => ?_)
    have Ta0 : TY S_6 a0 10 := ty_ext hx8 Ta0
    have hE : Ext S0 S_6 := Ext.tr hE hx8
    cases hm
    exact pw_vret hx hb hr hlk hw hE dX10_takeSign_30
  · rw [if_pos h5] at hm
    refine lv_aload_n hx hb dX10_takeSign_8 rfl (lv_at hl 0 rfl) ?_
    refine lv_dup hx hb dX10_takeSign_9 rfl ?_
    refine pg_i (k := 10) (j := 3) (f := 1003) hx hb hown hU iu10 hw Ta0 (by decide) rfl (hU _ tw46) rfl dX10_takeSign_10 ?_
    refine lv_iconst (v := 1) hx hb dX10_takeSign_13 (by decide) ?_
    refine lv_iadd hx hb dX10_takeSign_14 ?_
    refine pp_i (k := 10) (j := 3) (f := 1003) hx hb hown hU iu10 tyX10_ok nmX10 hw Ta0 (by decide) rfl (hU _ tw46) rfl rfl rfl dX10_takeSign_15 (fun H locs hw => ?_)
    refine lv_goto (tgt := 30) hx hb dX10_takeSign_18 (by decide) ?_
    cases hm
    exact pw_vret hx hb hr hlk hw hE dX10_takeSign_30
abbrev rm_X10_takeNumber : Room := { frames := 1, cells := 0, slots := 0, locals := 40 }
def b_X10_takeNumber_99 (n : Nat) (a0 : Nat) (x1 : Int32) (x2 : Int32) (x3 : Int32) (x4 : Int32) (S : pq_S) : Option (Int32 × pq_S) := cb (m_X11_isWithin n x4 x1 x2 S) fun r32 S_30 => if r32 = 0 then Option.bind (m_X10_refuse n a0 2 x3 S_30) fun S_36 => some (x4, S_36) else some (x4, S_30)
set_option maxHeartbeats 4000000 in
set_option maxRecDepth 100000 in
theorem wb_X10_takeNumber_99 {p : Program} {l : Launch} {e : Env} {s : State} {m : MethodId} {args : Array Value} {below : List Frame} {meth : Method} {c : Code} (cx : Cx p s m args meth c cX10_takeNumber 5 RX10 (some .int)) (C : pq_C) (X : va_W) (S0 : pq_S) (n : Nat) (r : Int32) (S1 : pq_S) : ∀ (a0 : Nat) (x1 : Int32) (x2 : Int32) (x3 : Int32) (x4 : Int32) (S : pq_S) (H : Heap) (locs : List Loc) (ls : Array Slot), PW C X S (pq_F C X S0 s.heap.size) H locs s → Ext S0 S → TY S a0 10 → lv_has ls 5 [(0, .ref a0), (1, .int x1), (2, .int x2), (3, .int x3), (4, .int x4)] → b_X10_takeNumber_99 n a0 x1 x2 x3 x4 S = some (r, S1) → W p l e rm_X10_takeNumber s m args below meth c H locs 0 0 (MQ below (QcI C X S0 s.heap.size r S1) args s 0 0 (pq_F C X S0 s.heap.size)) (F0 m 99 ls []) := by
  obtain ⟨hx, hb, hml, hown, hU, hr, hlk⟩ := id cx
  intro a0 x1 x2 x3 x4 S H locs ls hw hE Ta0 hl hm
  rw [b_X10_takeNumber_99] at hm
  refine lv_iload hx hb dX10_takeNumber_99 (lv_at hl 4 rfl) ?_
  refine lv_iload_n hx hb dX10_takeNumber_101 rfl (lv_at hl 1 rfl) ?_
  refine lv_iload_n hx hb dX10_takeNumber_102 rfl (lv_at hl 2 rfl) ?_
  obtain ⟨r32, S_30, hq31, hm⟩ := cb_some hm
  refine pw_cz (va_runSN (As := [.int x4, .int x1, .int x2]) (rest := []) ⟨hx, hb, hml, hown, hU⟩ (c_X11_isWithin l C X n S hw.wf _ x4 x1 x2  r32 S_30 hq31) ⟨va_cnB (host := "WickNights") 3 hU (pq_g1 tc_X11_isWithin) rfl rfl rfl (hw.nw 95 rfl) (hU _ tw1) cd_X11_isWithin.2 ⟨Nat.le_of_ble_eq_true rfl, Nat.le_of_ble_eq_true rfl⟩, hU _ tw454, trivial⟩ (pw_preS hw) rfl rfl hl.1 rfl (lv_room (Nat.le_of_ble_eq_true rfl)) dX10_takeNumber_103 ⟨Nat.zero_le _, Nat.zero_le _⟩) hw (fun H locs hw hx33 hz34 => ?_)
  have Ta0 : TY S_30 a0 10 := ty_ext hx33 Ta0
  have hE : Ext S0 S_30 := Ext.tr hE hx33
  refine lv_if_ne (tgt := 115) hx hb dX10_takeNumber_106 (by decide) (fun h35 => ?_) (fun h35 => ?_)
  · rw [if_neg h35] at hm
    refine lv_iload hx hb dX10_takeNumber_115 (lv_at hl 4 rfl) ?_
    cases hm
    exact pw_iret hx hb hr rfl hlk hw hE dX10_takeNumber_117
  · rw [if_pos h35] at hm
    refine lv_aload_n hx hb dX10_takeNumber_109 rfl (lv_at hl 0 rfl) ?_
    refine lv_iconst (v := 2) hx hb dX10_takeNumber_110 (by decide) ?_
    refine lv_iload_n hx hb dX10_takeNumber_111 rfl (lv_at hl 3 rfl) ?_
    obtain ⟨S_36, hq37, hm⟩ := bd_some hm
    refine pw_cv (va_runV (As := [.int 2, .int x3]) (rest := []) ⟨hx, hb, hml, hown, hU⟩ (c_X10_refuse l C X n S_30 hw.wf _ a0 2 x3 (Ta0) S_36 hq37) (cwV 2 hU (pq_gV tw584 tw586 ts15 tw2 tc_X10_refuse) rfl rfl rfl cd_X10_refuse ⟨Nat.le_of_ble_eq_true rfl, Nat.le_of_ble_eq_true rfl⟩) (pw_preV hw Ta0 (by decide) rfl) rfl rfl hl.1 rfl (lv_room (Nat.le_of_ble_eq_true rfl)) dX10_takeNumber_112 ⟨Nat.zero_le _, Nat.zero_le _⟩) hw (fun H locs hw hx38 => ?_)
    have Ta0 : TY S_36 a0 10 := ty_ext hx38 Ta0
    have hE : Ext S0 S_36 := Ext.tr hE hx38
    refine lv_iload hx hb dX10_takeNumber_115 (lv_at hl 4 rfl) ?_
    cases hm
    exact pw_iret hx hb hr rfl hlk hw hE dX10_takeNumber_117
def b_X10_takeNumber_33 (n : Nat) : Nat → Nat → Int32 → Int32 → Int32 → Int32 → pq_S → Option (Int32 × pq_S)
  | 0, _, _, _, _, _, _ => none
  | f + 1, a0, x1, x2, x3, x4, S => if (pI S 1002 a0) ≤ (pI S 1003 a0) then b_X10_takeNumber_99 n a0 x1 x2 x3 x4 S else cb (m_X10_byteAt n a0 (pI S 1003 a0) S) fun r17 S_15 => cb (m_X11_isWithin n r17 48 57 S_15) fun r21 S_19 => if r21 = 0 then b_X10_takeNumber_99 n a0 x1 x2 x3 x4 S_19 else cb (m_X10_byteAt n a0 (pI S_19 1003 a0) S_19) fun r27 S_25 => lt_ (if 100000 < (((x4 * (10 : Int32)) + r27) - (48 : Int32)) then 100000 else (((x4 * (10 : Int32)) + r27) - (48 : Int32))) fun v29 => b_X10_takeNumber_33 n f a0 x1 x2 x3 v29 (sI S_25 1003 a0 ((pI S_25 1003 a0) + (1 : Int32)))
set_option maxHeartbeats 4000000 in
set_option maxRecDepth 100000 in
theorem wb_X10_takeNumber_33 {p : Program} {l : Launch} {e : Env} {s : State} {m : MethodId} {args : Array Value} {below : List Frame} {meth : Method} {c : Code} (cx : Cx p s m args meth c cX10_takeNumber 5 RX10 (some .int)) (C : pq_C) (X : va_W) (S0 : pq_S) (n : Nat) (r : Int32) (S1 : pq_S) : ∀ (f : Nat) (a0 : Nat) (x1 : Int32) (x2 : Int32) (x3 : Int32) (x4 : Int32) (S : pq_S) (H : Heap) (locs : List Loc) (ls : Array Slot), PW C X S (pq_F C X S0 s.heap.size) H locs s → Ext S0 S → TY S a0 10 → lv_has ls 5 [(0, .ref a0), (1, .int x1), (2, .int x2), (3, .int x3), (4, .int x4)] → b_X10_takeNumber_33 n f a0 x1 x2 x3 x4 S = some (r, S1) → W p l e rm_X10_takeNumber s m args below meth c H locs 0 0 (MQ below (QcI C X S0 s.heap.size r S1) args s 0 0 (pq_F C X S0 s.heap.size)) (F0 m 33 ls []) := by
  obtain ⟨hx, hb, hml, hown, hU, hr, hlk⟩ := id cx
  intro f
  induction f with
  | zero =>
    intro a0 x1 x2 x3 x4 S H locs ls hw hE Ta0 hl hm
    cases hm
  | succ f ih =>
    intro a0 x1 x2 x3 x4 S H locs ls hw hE Ta0 hl hm
    rw [b_X10_takeNumber_33] at hm
    refine lv_aload_n hx hb dX10_takeNumber_33 rfl (lv_at hl 0 rfl) ?_
    refine pg_i (k := 10) (j := 3) (f := 1003) hx hb hown hU iu10 hw Ta0 (by decide) rfl (hU _ tw46) rfl dX10_takeNumber_34 ?_
    refine lv_aload_n hx hb dX10_takeNumber_37 rfl (lv_at hl 0 rfl) ?_
    refine pg_i (k := 10) (j := 2) (f := 1002) hx hb hown hU iu10 hw Ta0 (by decide) rfl (hU _ tw43) rfl dX10_takeNumber_38 ?_
    refine lv_icmp_ge (tgt := 99) hx hb dX10_takeNumber_41 (by decide) (fun h14 => ?_) (fun h14 => ?_)
    · rw [if_pos h14] at hm
      exact wb_X10_takeNumber_99 cx C X S0 n r S1 a0 x1 x2 x3 x4 S _ _ _ hw hE Ta0 (lv_sub hl [0, 1, 2, 3, 4] rfl) hm
    · rw [if_neg h14] at hm
      refine lv_aload_n hx hb dX10_takeNumber_44 rfl (lv_at hl 0 rfl) ?_
      refine lv_aload_n hx hb dX10_takeNumber_45 rfl (lv_at hl 0 rfl) ?_
      refine pg_i (k := 10) (j := 3) (f := 1003) hx hb hown hU iu10 hw Ta0 (by decide) rfl (hU _ tw46) rfl dX10_takeNumber_46 ?_
      obtain ⟨r17, S_15, hq16, hm⟩ := cb_some hm
      refine pw_ci (va_runV (As := [.int (pI S 1003 a0)]) (rest := []) ⟨hx, hb, hml, hown, hU⟩ (c_X10_byteAt l C X n S hw.wf _ a0 (pI S 1003 a0) (Ta0) r17 S_15 hq16) (cwV 1 hU (pq_gV tw588 tw590 ts16 tw2 tc_X10_byteAt) rfl rfl rfl cd_X10_byteAt ⟨Nat.le_of_ble_eq_true rfl, Nat.le_of_ble_eq_true rfl⟩) (pw_preV hw Ta0 (by decide) rfl) rfl rfl hl.1 rfl (lv_room (Nat.le_of_ble_eq_true rfl)) dX10_takeNumber_49 ⟨Nat.zero_le _, Nat.zero_le _⟩) hw (fun H locs hw hx18 => ?_)
      have Ta0 : TY S_15 a0 10 := ty_ext hx18 Ta0
      have hE : Ext S0 S_15 := Ext.tr hE hx18
      refine lv_bipush (v := 48) hx hb dX10_takeNumber_52 (by decide) ?_
      refine lv_bipush (v := 57) hx hb dX10_takeNumber_54 (by decide) ?_
      obtain ⟨r21, S_19, hq20, hm⟩ := cb_some hm
      refine pw_cz (va_runSN (As := [.int r17, .int 48, .int 57]) (rest := []) ⟨hx, hb, hml, hown, hU⟩ (c_X11_isWithin l C X n S_15 hw.wf _ r17 48 57  r21 S_19 hq20) ⟨va_cnB (host := "WickNights") 3 hU (pq_g1 tc_X11_isWithin) rfl rfl rfl (hw.nw 95 rfl) (hU _ tw1) cd_X11_isWithin.2 ⟨Nat.le_of_ble_eq_true rfl, Nat.le_of_ble_eq_true rfl⟩, hU _ tw454, trivial⟩ (pw_preS hw) rfl rfl hl.1 rfl (lv_room (Nat.le_of_ble_eq_true rfl)) dX10_takeNumber_56 ⟨Nat.zero_le _, Nat.zero_le _⟩) hw (fun H locs hw hx22 hz23 => ?_)
      have Ta0 : TY S_19 a0 10 := ty_ext hx22 Ta0
      have hE : Ext S0 S_19 := Ext.tr hE hx22
      refine lv_if_eq (tgt := 99) hx hb dX10_takeNumber_59 (by decide) (fun h24 => ?_) (fun h24 => ?_)
      · rw [if_pos h24] at hm
        exact wb_X10_takeNumber_99 cx C X S0 n r S1 a0 x1 x2 x3 x4 S_19 _ _ _ hw hE Ta0 (lv_sub hl [0, 1, 2, 3, 4] rfl) hm
      · rw [if_neg h24] at hm
        refine lv_iload hx hb dX10_takeNumber_62 (lv_at hl 4 rfl) ?_
        refine lv_bipush (v := 10) hx hb dX10_takeNumber_64 (by decide) ?_
        refine lv_imul hx hb dX10_takeNumber_66 ?_
        refine lv_aload_n hx hb dX10_takeNumber_67 rfl (lv_at hl 0 rfl) ?_
        refine lv_aload_n hx hb dX10_takeNumber_68 rfl (lv_at hl 0 rfl) ?_
        refine pg_i (k := 10) (j := 3) (f := 1003) hx hb hown hU iu10 hw Ta0 (by decide) rfl (hU _ tw46) rfl dX10_takeNumber_69 ?_
        obtain ⟨r27, S_25, hq26, hm⟩ := cb_some hm
        refine pw_ci (va_runV (As := [.int (pI S_19 1003 a0)]) (rest := [.int (x4 * (10 : Int32))]) ⟨hx, hb, hml, hown, hU⟩ (c_X10_byteAt l C X n S_19 hw.wf _ a0 (pI S_19 1003 a0) (Ta0) r27 S_25 hq26) (cwV 1 hU (pq_gV tw588 tw590 ts16 tw2 tc_X10_byteAt) rfl rfl rfl cd_X10_byteAt ⟨Nat.le_of_ble_eq_true rfl, Nat.le_of_ble_eq_true rfl⟩) (pw_preV hw Ta0 (by decide) rfl) rfl rfl hl.1 rfl (lv_room (Nat.le_of_ble_eq_true rfl)) dX10_takeNumber_72 ⟨Nat.zero_le _, Nat.zero_le _⟩) hw (fun H locs hw hx28 => ?_)
        have Ta0 : TY S_25 a0 10 := ty_ext hx28 Ta0
        have hE : Ext S0 S_25 := Ext.tr hE hx28
        refine lv_iadd hx hb dX10_takeNumber_75 ?_
        refine lv_bipush (v := 48) hx hb dX10_takeNumber_76 (by decide) ?_
        refine lv_isub hx hb dX10_takeNumber_78 ?_
        refine lv_ldc (v := 100000) hx hb hown (hU _ tw670) dX10_takeNumber_79 ?_
        refine va_mmin hx hb (by rw [hml]; exact hl.1.symm) hown (hU _ tw560) (hU _ twm_min_s) (hU _ twm_i) (hU _ twm_min_c) (Nat.le_of_ble_eq_true rfl) (Nat.le_of_ble_eq_true rfl) (Nat.zero_le _) (Nat.zero_le _) dX10_takeNumber_81 ?_
        obtain ⟨v29, ev29, hm⟩ := lt_some hm
        refine lv_nmI ev29 ?_
        refine lv_istore (lv' := [(4, .int v29), (0, .ref a0), (1, .int x1), (2, .int x2), (3, .int x3)]) hx hb dX10_takeNumber_84 hl (by decide) rfl (fun ls hl => ?_)
        refine lv_aload_n hx hb dX10_takeNumber_86 rfl (lv_at hl 1 rfl) ?_
        refine lv_dup hx hb dX10_takeNumber_87 rfl ?_
        refine pg_i (k := 10) (j := 3) (f := 1003) hx hb hown hU iu10 hw Ta0 (by decide) rfl (hU _ tw46) rfl dX10_takeNumber_88 ?_
        refine lv_iconst (v := 1) hx hb dX10_takeNumber_91 (by decide) ?_
        refine lv_iadd hx hb dX10_takeNumber_92 ?_
        refine pp_i (k := 10) (j := 3) (f := 1003) hx hb hown hU iu10 tyX10_ok nmX10 hw Ta0 (by decide) rfl (hU _ tw46) rfl rfl rfl dX10_takeNumber_93 (fun H locs hw => ?_)
        refine lv_goto (tgt := 33) hx hb dX10_takeNumber_96 (by decide) ?_
        exact ih a0 x1 x2 x3 v29 (sI S_25 1003 a0 ((pI S_25 1003 a0) + (1 : Int32))) _ _ _ hw hE Ta0 (lv_sub hl [1, 2, 3, 4, 0] rfl) hm
def m_X10_takeNumber (n : Nat) (a0 : Nat) (x1 : Int32) (x2 : Int32) (S0 : pq_S) : Option (Int32 × pq_S) := cb (m_X10_next n a0 S0) fun r3 S_1 => cb (m_X11_isWithin n r3 48 57 S_1) fun r7 S_5 => if r7 = 0 then Option.bind (m_X10_refuse n a0 1 (pI S_5 1003 a0) S_5) fun S_11 => some (0, S_11) else b_X10_takeNumber_33 n n a0 x1 x2 (pI S_5 1003 a0) 0 S_5
theorem tc_X10_takeNumber : Cond.code yX10_takeNumber cX10_takeNumber 5 (some .int) ∈ pq_U := tw669
theorem cd_X10_takeNumber : yX10_takeNumber.cls = RX10 ∧ yX10_takeNumber.cls ≠ "java/lang/invoke/MethodHandle" ∧ yX10_takeNumber.cls ≠ "java/lang/invoke/VarHandle" ∧ (parseMethodDescriptor yX10_takeNumber.desc).map (fun d => d.parameters.length) = some 2 := by decide +kernel
set_option maxHeartbeats 4000000 in
set_option maxRecDepth 100000 in
theorem c_X10_takeNumber (l : Launch) (C : pq_C) (X : va_W) (n : Nat) (S0 : pq_S) (hF : WF S0) (sz : Nat) (a0 : Nat) (x1 : Int32) (x2 : Int32) (Ta0 : TY S0 a0 10) (r : Int32) (S1 : pq_S) (hm : m_X10_takeNumber n a0 x1 x2 S0 = some (r, S1)) : MI l yX10_takeNumber (.code yX10_takeNumber cX10_takeNumber 5 (some .int) :: pq_U) rm_X10_takeNumber C X S0 sz [.ref a0, .int x1, .int x2] r S1 0 0 := by
  refine Met.ofW (cc := cX10_takeNumber) (maxL := 5) (ret := (some .int)) (by decide) rfl ?_
  intro p e s m args below meth c s₁ B hml hv
  obtain ⟨rfl, hv⟩ := hv
  have hsz := hv.1
  subst hsz
  have hw := pw_entry hF hv
  have hts := atoms_spec (ws := .code yX10_takeNumber cX10_takeNumber 5 (some .int) :: pq_U) B.pre
  have hU : ∀ w ∈ pq_U, w.before _ s = true := fun w h => hts w (List.mem_cons_of_mem _ h)
  have hx := B.exec
  have hb := B.bytes
  have hr := B.returns
  have hown : s.vm.findClass RX10 = some m.cls := findClass_of_methodNamed B.named
  have hlk := B.notSynchronized
  have hl := lv_entry ([.ref a0, .int x1, .int x2]) (n := 5) (Nat.le_of_ble_eq_true rfl)
  rw [lg_entry_eq]
  generalize (lg_sl ([.ref a0, .int x1, .int x2]) ++ List.replicate (5 - (lg_sl ([.ref a0, .int x1, .int x2])).length) Slot.unset).toArray = ls at hl ⊢
  have hl : lv_has ls 5 [(0, .ref a0), (1, .int x1), (2, .int x2)] := hl
  have hE : Ext S0 S0 := Ext.rf _
  have cx : Cx p s m _ meth c cX10_takeNumber 5 RX10 (some .int) := ⟨hx, hb, hml, hown, hU, hr, hlk⟩
  rw [m_X10_takeNumber] at hm
  refine lv_aload_n hx hb dX10_takeNumber_0 rfl (lv_at hl 0 rfl) ?_
  obtain ⟨r3, S_1, hq2, hm⟩ := cb_some hm
  refine pw_ci (va_runV (As := []) (rest := []) ⟨hx, hb, hml, hown, hU⟩ (c_X10_next l C X n S0 hw.wf _ a0 (Ta0) r3 S_1 hq2) (cwV 0 hU (pq_gV tw582 tw572 ts12 tw2 tc_X10_next) rfl rfl rfl cd_X10_next ⟨Nat.le_of_ble_eq_true rfl, Nat.le_of_ble_eq_true rfl⟩) (pw_preV hw Ta0 (by decide) rfl) rfl rfl hl.1 rfl (lv_room (Nat.le_of_ble_eq_true rfl)) dX10_takeNumber_1 ⟨Nat.zero_le _, Nat.zero_le _⟩) hw (fun H locs hw hx4 => ?_)
  have Ta0 : TY S_1 a0 10 := ty_ext hx4 Ta0
  have hE : Ext S0 S_1 := Ext.tr hE hx4
  refine lv_bipush (v := 48) hx hb dX10_takeNumber_4 (by decide) ?_
  refine lv_bipush (v := 57) hx hb dX10_takeNumber_6 (by decide) ?_
  obtain ⟨r7, S_5, hq6, hm⟩ := cb_some hm
  refine pw_cz (va_runSN (As := [.int r3, .int 48, .int 57]) (rest := []) ⟨hx, hb, hml, hown, hU⟩ (c_X11_isWithin l C X n S_1 hw.wf _ r3 48 57  r7 S_5 hq6) ⟨va_cnB (host := "WickNights") 3 hU (pq_g1 tc_X11_isWithin) rfl rfl rfl (hw.nw 95 rfl) (hU _ tw1) cd_X11_isWithin.2 ⟨Nat.le_of_ble_eq_true rfl, Nat.le_of_ble_eq_true rfl⟩, hU _ tw454, trivial⟩ (pw_preS hw) rfl rfl hl.1 rfl (lv_room (Nat.le_of_ble_eq_true rfl)) dX10_takeNumber_8 ⟨Nat.zero_le _, Nat.zero_le _⟩) hw (fun H locs hw hx8 hz9 => ?_)
  have Ta0 : TY S_5 a0 10 := ty_ext hx8 Ta0
  have hE : Ext S0 S_5 := Ext.tr hE hx8
  refine lv_if_ne (tgt := 25) hx hb dX10_takeNumber_11 (by decide) (fun h10 => ?_) (fun h10 => ?_)
  · rw [if_neg h10] at hm
    refine lv_aload_n hx hb dX10_takeNumber_25 rfl (lv_at hl 0 rfl) ?_
    refine pg_i (k := 10) (j := 3) (f := 1003) hx hb hown hU iu10 hw Ta0 (by decide) rfl (hU _ tw46) rfl dX10_takeNumber_26 ?_
    refine lv_istore_n (lv' := [(3, .int (pI S_5 1003 a0)), (0, .ref a0), (1, .int x1), (2, .int x2)]) hx hb dX10_takeNumber_29 rfl hl (by decide) rfl (fun ls hl => ?_)
    refine lv_iconst (v := 0) hx hb dX10_takeNumber_30 (by decide) ?_
    refine lv_istore (lv' := [(4, .int 0), (3, .int (pI S_5 1003 a0)), (0, .ref a0), (1, .int x1), (2, .int x2)]) hx hb dX10_takeNumber_31 hl (by decide) rfl (fun ls hl => ?_)
    exact wb_X10_takeNumber_33 cx C X S0 n r S1 n a0 x1 x2 (pI S_5 1003 a0) 0 S_5 _ _ _ hw hE Ta0 (lv_sub hl [2, 3, 4, 1, 0] rfl) hm
  · rw [if_pos h10] at hm
    refine lv_aload_n hx hb dX10_takeNumber_14 rfl (lv_at hl 0 rfl) ?_
    refine lv_iconst (v := 1) hx hb dX10_takeNumber_15 (by decide) ?_
    refine lv_aload_n hx hb dX10_takeNumber_16 rfl (lv_at hl 0 rfl) ?_
    refine pg_i (k := 10) (j := 3) (f := 1003) hx hb hown hU iu10 hw Ta0 (by decide) rfl (hU _ tw46) rfl dX10_takeNumber_17 ?_
    obtain ⟨S_11, hq12, hm⟩ := bd_some hm
    refine pw_cv (va_runV (As := [.int 1, .int (pI S_5 1003 a0)]) (rest := []) ⟨hx, hb, hml, hown, hU⟩ (c_X10_refuse l C X n S_5 hw.wf _ a0 1 (pI S_5 1003 a0) (Ta0) S_11 hq12) (cwV 2 hU (pq_gV tw584 tw586 ts15 tw2 tc_X10_refuse) rfl rfl rfl cd_X10_refuse ⟨Nat.le_of_ble_eq_true rfl, Nat.le_of_ble_eq_true rfl⟩) (pw_preV hw Ta0 (by decide) rfl) rfl rfl hl.1 rfl (lv_room (Nat.le_of_ble_eq_true rfl)) dX10_takeNumber_20 ⟨Nat.zero_le _, Nat.zero_le _⟩) hw (fun H locs hw hx13 => ?_)
    have Ta0 : TY S_11 a0 10 := ty_ext hx13 Ta0
    have hE : Ext S0 S_11 := Ext.tr hE hx13
    refine lv_iconst (v := 0) hx hb dX10_takeNumber_23 (by decide) ?_
    cases hm
    exact pw_iret hx hb hr rfl hlk hw hE dX10_takeNumber_24
abbrev rm_X10_takeWord : Room := { frames := 1, cells := 0, slots := 0, locals := 22 }
def b_X10_takeWord_31 (n : Nat) : Nat → Nat → pq_S → Option pq_S
  | 0, _, _ => none
  | f + 1, a0, S => if (pI S 1002 a0) ≤ (pI S 1003 a0) then some S else cb (m_X10_byteAt n a0 (pI S 1003 a0) S) fun r17 S_15 => cb (m_X11_isWithin n r17 97 122 S_15) fun r21 S_19 => if r21 = 0 then some S_19 else b_X10_takeWord_31 n f a0 (sI S_19 1003 a0 ((pI S_19 1003 a0) + (1 : Int32)))
set_option maxHeartbeats 4000000 in
set_option maxRecDepth 100000 in
theorem wb_X10_takeWord_31 {p : Program} {l : Launch} {e : Env} {s : State} {m : MethodId} {args : Array Value} {below : List Frame} {meth : Method} {c : Code} (cx : Cx p s m args meth c cX10_takeWord 1 RX10 none) (C : pq_C) (X : va_W) (S0 : pq_S) (n : Nat) (S1 : pq_S) : ∀ (f : Nat) (a0 : Nat) (S : pq_S) (H : Heap) (locs : List Loc) (ls : Array Slot), PW C X S (pq_F C X S0 s.heap.size) H locs s → Ext S0 S → TY S a0 10 → lv_has ls 1 [(0, .ref a0)] → b_X10_takeWord_31 n f a0 S = some S1 → W p l e rm_X10_takeWord s m args below meth c H locs 0 0 (MQ below (QcV C X S0 s.heap.size S1) args s 0 0 (pq_F C X S0 s.heap.size)) (F0 m 31 ls []) := by
  obtain ⟨hx, hb, hml, hown, hU, hr, hlk⟩ := id cx
  intro f
  induction f with
  | zero =>
    intro a0 S H locs ls hw hE Ta0 hl hm
    cases hm
  | succ f ih =>
    intro a0 S H locs ls hw hE Ta0 hl hm
    rw [b_X10_takeWord_31] at hm
    refine lv_aload_n hx hb dX10_takeWord_31 rfl (lv_at hl 0 rfl) ?_
    refine pg_i (k := 10) (j := 3) (f := 1003) hx hb hown hU iu10 hw Ta0 (by decide) rfl (hU _ tw46) rfl dX10_takeWord_32 ?_
    refine lv_aload_n hx hb dX10_takeWord_35 rfl (lv_at hl 0 rfl) ?_
    refine pg_i (k := 10) (j := 2) (f := 1002) hx hb hown hU iu10 hw Ta0 (by decide) rfl (hU _ tw43) rfl dX10_takeWord_36 ?_
    refine lv_icmp_ge (tgt := 73) hx hb dX10_takeWord_39 (by decide) (fun h14 => ?_) (fun h14 => ?_)
    · rw [if_pos h14] at hm
      cases hm
      exact pw_vret hx hb hr hlk hw hE dX10_takeWord_73
    · rw [if_neg h14] at hm
      refine lv_aload_n hx hb dX10_takeWord_42 rfl (lv_at hl 0 rfl) ?_
      refine lv_aload_n hx hb dX10_takeWord_43 rfl (lv_at hl 0 rfl) ?_
      refine pg_i (k := 10) (j := 3) (f := 1003) hx hb hown hU iu10 hw Ta0 (by decide) rfl (hU _ tw46) rfl dX10_takeWord_44 ?_
      obtain ⟨r17, S_15, hq16, hm⟩ := cb_some hm
      refine pw_ci (va_runV (As := [.int (pI S 1003 a0)]) (rest := []) ⟨hx, hb, hml, hown, hU⟩ (c_X10_byteAt l C X n S hw.wf _ a0 (pI S 1003 a0) (Ta0) r17 S_15 hq16) (cwV 1 hU (pq_gV tw588 tw590 ts16 tw2 tc_X10_byteAt) rfl rfl rfl cd_X10_byteAt ⟨Nat.le_of_ble_eq_true rfl, Nat.le_of_ble_eq_true rfl⟩) (pw_preV hw Ta0 (by decide) rfl) rfl rfl hl.1 rfl (lv_room (Nat.le_of_ble_eq_true rfl)) dX10_takeWord_47 ⟨Nat.zero_le _, Nat.zero_le _⟩) hw (fun H locs hw hx18 => ?_)
      have Ta0 : TY S_15 a0 10 := ty_ext hx18 Ta0
      have hE : Ext S0 S_15 := Ext.tr hE hx18
      refine lv_bipush (v := 97) hx hb dX10_takeWord_50 (by decide) ?_
      refine lv_bipush (v := 122) hx hb dX10_takeWord_52 (by decide) ?_
      obtain ⟨r21, S_19, hq20, hm⟩ := cb_some hm
      refine pw_cz (va_runSN (As := [.int r17, .int 97, .int 122]) (rest := []) ⟨hx, hb, hml, hown, hU⟩ (c_X11_isWithin l C X n S_15 hw.wf _ r17 97 122  r21 S_19 hq20) ⟨va_cnB (host := "WickNights") 3 hU (pq_g1 tc_X11_isWithin) rfl rfl rfl (hw.nw 95 rfl) (hU _ tw1) cd_X11_isWithin.2 ⟨Nat.le_of_ble_eq_true rfl, Nat.le_of_ble_eq_true rfl⟩, hU _ tw454, trivial⟩ (pw_preS hw) rfl rfl hl.1 rfl (lv_room (Nat.le_of_ble_eq_true rfl)) dX10_takeWord_54 ⟨Nat.zero_le _, Nat.zero_le _⟩) hw (fun H locs hw hx22 hz23 => ?_)
      have Ta0 : TY S_19 a0 10 := ty_ext hx22 Ta0
      have hE : Ext S0 S_19 := Ext.tr hE hx22
      refine lv_if_eq (tgt := 73) hx hb dX10_takeWord_57 (by decide) (fun h24 => ?_) (fun h24 => ?_)
      · rw [if_pos h24] at hm
        cases hm
        exact pw_vret hx hb hr hlk hw hE dX10_takeWord_73
      · rw [if_neg h24] at hm
        refine lv_aload_n hx hb dX10_takeWord_60 rfl (lv_at hl 0 rfl) ?_
        refine lv_dup hx hb dX10_takeWord_61 rfl ?_
        refine pg_i (k := 10) (j := 3) (f := 1003) hx hb hown hU iu10 hw Ta0 (by decide) rfl (hU _ tw46) rfl dX10_takeWord_62 ?_
        refine lv_iconst (v := 1) hx hb dX10_takeWord_65 (by decide) ?_
        refine lv_iadd hx hb dX10_takeWord_66 ?_
        refine pp_i (k := 10) (j := 3) (f := 1003) hx hb hown hU iu10 tyX10_ok nmX10 hw Ta0 (by decide) rfl (hU _ tw46) rfl rfl rfl dX10_takeWord_67 (fun H locs hw => ?_)
        refine lv_goto (tgt := 31) hx hb dX10_takeWord_70 (by decide) ?_
        exact ih a0 (sI S_19 1003 a0 ((pI S_19 1003 a0) + (1 : Int32))) _ _ _ hw hE Ta0 (lv_sub hl [0] rfl) hm
def b_X10_takeWord_23 (n : Nat) (a0 : Nat) (S : pq_S) : Option pq_S := b_X10_takeWord_31 n n a0 (sI S 1004 a0 (pI S 1003 a0))
set_option maxHeartbeats 4000000 in
set_option maxRecDepth 100000 in
theorem wb_X10_takeWord_23 {p : Program} {l : Launch} {e : Env} {s : State} {m : MethodId} {args : Array Value} {below : List Frame} {meth : Method} {c : Code} (cx : Cx p s m args meth c cX10_takeWord 1 RX10 none) (C : pq_C) (X : va_W) (S0 : pq_S) (n : Nat) (S1 : pq_S) : ∀ (a0 : Nat) (S : pq_S) (H : Heap) (locs : List Loc) (ls : Array Slot), PW C X S (pq_F C X S0 s.heap.size) H locs s → Ext S0 S → TY S a0 10 → lv_has ls 1 [(0, .ref a0)] → b_X10_takeWord_23 n a0 S = some S1 → W p l e rm_X10_takeWord s m args below meth c H locs 0 0 (MQ below (QcV C X S0 s.heap.size S1) args s 0 0 (pq_F C X S0 s.heap.size)) (F0 m 23 ls []) := by
  obtain ⟨hx, hb, hml, hown, hU, hr, hlk⟩ := id cx
  intro a0 S H locs ls hw hE Ta0 hl hm
  rw [b_X10_takeWord_23] at hm
  refine lv_aload_n hx hb dX10_takeWord_23 rfl (lv_at hl 0 rfl) ?_
  refine lv_aload_n hx hb dX10_takeWord_24 rfl (lv_at hl 0 rfl) ?_
  refine pg_i (k := 10) (j := 3) (f := 1003) hx hb hown hU iu10 hw Ta0 (by decide) rfl (hU _ tw46) rfl dX10_takeWord_25 ?_
  refine pp_i (k := 10) (j := 4) (f := 1004) hx hb hown hU iu10 tyX10_ok nmX10 hw Ta0 (by decide) rfl (hU _ tw48) rfl rfl rfl dX10_takeWord_28 (fun H locs hw => ?_)
  exact wb_X10_takeWord_31 cx C X S0 n S1 n a0 (sI S 1004 a0 (pI S 1003 a0)) _ _ _ hw hE Ta0 (lv_sub hl [0] rfl) hm
def m_X10_takeWord (n : Nat) (a0 : Nat) (S0 : pq_S) : Option pq_S := cb (m_X10_next n a0 S0) fun r3 S_1 => cb (m_X11_isWithin n r3 97 122 S_1) fun r7 S_5 => if r7 = 0 then Option.bind (m_X10_refuse n a0 1 (pI S_5 1003 a0) S_5) fun S_11 => b_X10_takeWord_23 n a0 S_11 else b_X10_takeWord_23 n a0 S_5
theorem tc_X10_takeWord : Cond.code yX10_takeWord cX10_takeWord 1 none ∈ pq_U := tw581
theorem cd_X10_takeWord : yX10_takeWord.cls = RX10 ∧ yX10_takeWord.cls ≠ "java/lang/invoke/MethodHandle" ∧ yX10_takeWord.cls ≠ "java/lang/invoke/VarHandle" ∧ (parseMethodDescriptor yX10_takeWord.desc).map (fun d => d.parameters.length) = some 0 := by decide +kernel
set_option maxHeartbeats 4000000 in
set_option maxRecDepth 100000 in
theorem c_X10_takeWord (l : Launch) (C : pq_C) (X : va_W) (n : Nat) (S0 : pq_S) (hF : WF S0) (sz : Nat) (a0 : Nat) (Ta0 : TY S0 a0 10) (S1 : pq_S) (hm : m_X10_takeWord n a0 S0 = some S1) : MV l yX10_takeWord (.code yX10_takeWord cX10_takeWord 1 none :: pq_U) rm_X10_takeWord C X S0 sz [.ref a0] S1 0 0 := by
  refine Met.ofW (cc := cX10_takeWord) (maxL := 1) (ret := none) (by decide) rfl ?_
  intro p e s m args below meth c s₁ B hml hv
  obtain ⟨rfl, hv⟩ := hv
  have hsz := hv.1
  subst hsz
  have hw := pw_entry hF hv
  have hts := atoms_spec (ws := .code yX10_takeWord cX10_takeWord 1 none :: pq_U) B.pre
  have hU : ∀ w ∈ pq_U, w.before _ s = true := fun w h => hts w (List.mem_cons_of_mem _ h)
  have hx := B.exec
  have hb := B.bytes
  have hr := B.returns
  have hown : s.vm.findClass RX10 = some m.cls := findClass_of_methodNamed B.named
  have hlk := B.notSynchronized
  have hl := lv_entry ([.ref a0]) (n := 1) (Nat.le_of_ble_eq_true rfl)
  rw [lg_entry_eq]
  generalize (lg_sl ([.ref a0]) ++ List.replicate (1 - (lg_sl ([.ref a0])).length) Slot.unset).toArray = ls at hl ⊢
  have hl : lv_has ls 1 [(0, .ref a0)] := hl
  have hE : Ext S0 S0 := Ext.rf _
  have cx : Cx p s m _ meth c cX10_takeWord 1 RX10 none := ⟨hx, hb, hml, hown, hU, hr, hlk⟩
  rw [m_X10_takeWord] at hm
  refine lv_aload_n hx hb dX10_takeWord_0 rfl (lv_at hl 0 rfl) ?_
  obtain ⟨r3, S_1, hq2, hm⟩ := cb_some hm
  refine pw_ci (va_runV (As := []) (rest := []) ⟨hx, hb, hml, hown, hU⟩ (c_X10_next l C X n S0 hw.wf _ a0 (Ta0) r3 S_1 hq2) (cwV 0 hU (pq_gV tw582 tw572 ts12 tw2 tc_X10_next) rfl rfl rfl cd_X10_next ⟨Nat.le_of_ble_eq_true rfl, Nat.le_of_ble_eq_true rfl⟩) (pw_preV hw Ta0 (by decide) rfl) rfl rfl hl.1 rfl (lv_room (Nat.le_of_ble_eq_true rfl)) dX10_takeWord_1 ⟨Nat.zero_le _, Nat.zero_le _⟩) hw (fun H locs hw hx4 => ?_)
  have Ta0 : TY S_1 a0 10 := ty_ext hx4 Ta0
  have hE : Ext S0 S_1 := Ext.tr hE hx4
  refine lv_bipush (v := 97) hx hb dX10_takeWord_4 (by decide) ?_
  refine lv_bipush (v := 122) hx hb dX10_takeWord_6 (by decide) ?_
  obtain ⟨r7, S_5, hq6, hm⟩ := cb_some hm
  refine pw_cz (va_runSN (As := [.int r3, .int 97, .int 122]) (rest := []) ⟨hx, hb, hml, hown, hU⟩ (c_X11_isWithin l C X n S_1 hw.wf _ r3 97 122  r7 S_5 hq6) ⟨va_cnB (host := "WickNights") 3 hU (pq_g1 tc_X11_isWithin) rfl rfl rfl (hw.nw 95 rfl) (hU _ tw1) cd_X11_isWithin.2 ⟨Nat.le_of_ble_eq_true rfl, Nat.le_of_ble_eq_true rfl⟩, hU _ tw454, trivial⟩ (pw_preS hw) rfl rfl hl.1 rfl (lv_room (Nat.le_of_ble_eq_true rfl)) dX10_takeWord_8 ⟨Nat.zero_le _, Nat.zero_le _⟩) hw (fun H locs hw hx8 hz9 => ?_)
  have Ta0 : TY S_5 a0 10 := ty_ext hx8 Ta0
  have hE : Ext S0 S_5 := Ext.tr hE hx8
  refine lv_if_ne (tgt := 23) hx hb dX10_takeWord_11 (by decide) (fun h10 => ?_) (fun h10 => ?_)
  · rw [if_neg h10] at hm
    exact wb_X10_takeWord_23 cx C X S0 n S1 a0 S_5 _ _ _ hw hE Ta0 (lv_sub hl [0] rfl) hm
  · rw [if_pos h10] at hm
    refine lv_aload_n hx hb dX10_takeWord_14 rfl (lv_at hl 0 rfl) ?_
    refine lv_iconst (v := 1) hx hb dX10_takeWord_15 (by decide) ?_
    refine lv_aload_n hx hb dX10_takeWord_16 rfl (lv_at hl 0 rfl) ?_
    refine pg_i (k := 10) (j := 3) (f := 1003) hx hb hown hU iu10 hw Ta0 (by decide) rfl (hU _ tw46) rfl dX10_takeWord_17 ?_
    obtain ⟨S_11, hq12, hm⟩ := bd_some hm
    refine pw_cv (va_runV (As := [.int 1, .int (pI S_5 1003 a0)]) (rest := []) ⟨hx, hb, hml, hown, hU⟩ (c_X10_refuse l C X n S_5 hw.wf _ a0 1 (pI S_5 1003 a0) (Ta0) S_11 hq12) (cwV 2 hU (pq_gV tw584 tw586 ts15 tw2 tc_X10_refuse) rfl rfl rfl cd_X10_refuse ⟨Nat.le_of_ble_eq_true rfl, Nat.le_of_ble_eq_true rfl⟩) (pw_preV hw Ta0 (by decide) rfl) rfl rfl hl.1 rfl (lv_room (Nat.le_of_ble_eq_true rfl)) dX10_takeWord_20 ⟨Nat.zero_le _, Nat.zero_le _⟩) hw (fun H locs hw hx13 => ?_)
    have Ta0 : TY S_11 a0 10 := ty_ext hx13 Ta0
    have hE : Ext S0 S_11 := Ext.tr hE hx13
    exact wb_X10_takeWord_23 cx C X S0 n S1 a0 S_11 _ _ _ hw hE Ta0 (lv_sub hl [0] rfl) hm
abbrev rm_X10_isWord : Room := { frames := 4, cells := 0, slots := 0, locals := 85 }
def b_X10_isWord_20 (n : Nat) : Nat → Nat → Nat → Int32 → pq_S → Option (Int32 × pq_S)
  | 0, _, _, _, _ => none
  | f + 1, a0, a1, x2, S => if (tx_len a1) ≤ x2 then some (1, S) else cb (m_X10_byteAt n a0 ((pI S 1004 a0) + x2) S) fun r5 S_3 => ck (ixt x2 a1) (dixt _ _) (if r5 = (tx_ch a1 x2) then b_X10_isWord_20 n f a0 a1 (x2 + 1) S_3 else some (0, S_3))
set_option maxHeartbeats 4000000 in
set_option maxRecDepth 100000 in
theorem wb_X10_isWord_20 {p : Program} {l : Launch} {e : Env} {s : State} {m : MethodId} {args : Array Value} {below : List Frame} {meth : Method} {c : Code} (cx : Cx p s m args meth c cX10_isWord 3 RX10 (some .boolean)) (C : pq_C) (X : va_W) (S0 : pq_S) (n : Nat) (r : Int32) (S1 : pq_S) : ∀ (f : Nat) (a0 : Nat) (a1 : Nat) (x2 : Int32) (S : pq_S) (H : Heap) (locs : List Loc) (ls : Array Slot), PW C X S (pq_F C X S0 s.heap.size) H locs s → Ext S0 S → TY S a0 10 → a1 < pq_ns → lv_has ls 3 [(0, .ref a0), (1, .ref (C.2.2.2.2.2.2.1 a1)), (2, .int x2)] → b_X10_isWord_20 n f a0 a1 x2 S = some (r, S1) → W p l e rm_X10_isWord s m args below meth c H locs 0 0 (MQ below (QcZ C X S0 s.heap.size r S1) args s 0 0 (pq_F C X S0 s.heap.size)) (F0 m 20 ls []) := by
  obtain ⟨hx, hb, hml, hown, hU, hr, hlk⟩ := id cx
  intro f
  induction f with
  | zero =>
    intro a0 a1 x2 S H locs ls hw hE Ta0 Ta1 hl hm
    cases hm
  | succ f ih =>
    intro a0 a1 x2 S H locs ls hw hE Ta0 Ta1 hl hm
    rw [b_X10_isWord_20] at hm
    refine lv_iload_n hx hb dX10_isWord_20 rfl (lv_at hl 2 rfl) ?_
    refine lv_aload_n hx hb dX10_isWord_21 rfl (lv_at hl 1 rfl) ?_
    refine pw_ci (va_runV (As := []) (rest := [.int x2]) ⟨hx, hb, hml, hown, hU⟩ (c_J0_length_8abf5 l C X S hw.wf _ a1 Ta1) (cwV 0 hU (pq_gV tw601 tw602 tw603 tw20 tc_J0_length_8abf5) rfl rfl rfl cd_J0_length_8abf5 ⟨Nat.le_of_ble_eq_true rfl, Nat.le_of_ble_eq_true rfl⟩) (pw_preT hw Ta1) rfl rfl hl.1 rfl (lv_room (Nat.le_of_ble_eq_true rfl)) dX10_isWord_22 ⟨Nat.zero_le _, Nat.zero_le _⟩) hw (fun H locs hw _ => ?_)
    refine lv_icmp_ge (tgt := 54) hx hb dX10_isWord_25 (by decide) (fun h2 => ?_) (fun h2 => ?_)
    · rw [if_pos h2] at hm
      refine lv_iconst (v := 1) hx hb dX10_isWord_54 (by decide) ?_
      cases hm
      exact pw_zret hx hb hr bz_1 hlk hw hE dX10_isWord_55
    · rw [if_neg h2] at hm
      refine lv_aload_n hx hb dX10_isWord_28 rfl (lv_at hl 0 rfl) ?_
      refine lv_aload_n hx hb dX10_isWord_29 rfl (lv_at hl 0 rfl) ?_
      refine pg_i (k := 10) (j := 4) (f := 1004) hx hb hown hU iu10 hw Ta0 (by decide) rfl (hU _ tw48) rfl dX10_isWord_30 ?_
      refine lv_iload_n hx hb dX10_isWord_33 rfl (lv_at hl 2 rfl) ?_
      refine lv_iadd hx hb dX10_isWord_34 ?_
      obtain ⟨r5, S_3, hq4, hm⟩ := cb_some hm
      refine pw_ci (va_runV (As := [.int ((pI S 1004 a0) + x2)]) (rest := []) ⟨hx, hb, hml, hown, hU⟩ (c_X10_byteAt l C X n S hw.wf _ a0 ((pI S 1004 a0) + x2) (Ta0) r5 S_3 hq4) (cwV 1 hU (pq_gV tw588 tw590 ts16 tw2 tc_X10_byteAt) rfl rfl rfl cd_X10_byteAt ⟨Nat.le_of_ble_eq_true rfl, Nat.le_of_ble_eq_true rfl⟩) (pw_preV hw Ta0 (by decide) rfl) rfl rfl hl.1 rfl (lv_room (Nat.le_of_ble_eq_true rfl)) dX10_isWord_35 ⟨Nat.zero_le _, Nat.zero_le _⟩) hw (fun H locs hw hx6 => ?_)
      have Ta0 : TY S_3 a0 10 := ty_ext hx6 Ta0
      have hE : Ext S0 S_3 := Ext.tr hE hx6
      refine lv_aload_n hx hb dX10_isWord_38 rfl (lv_at hl 1 rfl) ?_
      refine lv_iload_n hx hb dX10_isWord_39 rfl (lv_at hl 2 rfl) ?_
      obtain ⟨hi7, hm⟩ := ck_some hm
      refine pw_ci (va_runV (As := [.int x2]) (rest := [.int r5]) ⟨hx, hb, hml, hown, hU⟩ (c_J0_charAt_5068e l C X S_3 hw.wf _ a1 Ta1 x2 hi7.1 hi7.2) (cwV 1 hU (pq_gV tw611 tw612 tw613 tw20 tc_J0_charAt_5068e) rfl rfl rfl cd_J0_charAt_5068e ⟨Nat.le_of_ble_eq_true rfl, Nat.le_of_ble_eq_true rfl⟩) (pw_preT hw Ta1) rfl rfl hl.1 rfl (lv_room (Nat.le_of_ble_eq_true rfl)) dX10_isWord_40 ⟨Nat.zero_le _, Nat.zero_le _⟩) hw (fun H locs hw _ => ?_)
      refine lv_icmp_eq (tgt := 48) hx hb dX10_isWord_43 (by decide) (fun h8 => ?_) (fun h8 => ?_)
      · rw [if_pos h8] at hm
        refine lv_iinc (v := (x2 + 1)) (lv' := [(2, .int (x2 + 1)), (0, .ref a0), (1, .ref (C.2.2.2.2.2.2.1 a1))]) hx hb dX10_isWord_48 hl (k := 2) rfl rfl (by decide) rfl (fun ls hl => ?_)
        refine lv_goto (tgt := 20) hx hb dX10_isWord_51 (by decide) ?_
        exact ih a0 a1 (x2 + 1) S_3 _ _ _ hw hE Ta0 Ta1 (lv_sub hl [1, 2, 0] rfl) hm
      · rw [if_neg h8] at hm
        refine lv_iconst (v := 0) hx hb dX10_isWord_46 (by decide) ?_
        cases hm
        exact pw_zret hx hb hr bz_0 hlk hw hE dX10_isWord_47
def m_X10_isWord (n : Nat) (a0 : Nat) (a1 : Nat) (S0 : pq_S) : Option (Int32 × pq_S) := if ((pI S0 1003 a0) - (pI S0 1004 a0)) = (tx_len a1) then b_X10_isWord_20 n n a0 a1 0 S0 else some (0, S0)
theorem tc_X10_isWord : Cond.code yX10_isWord cX10_isWord 3 (some .boolean) ∈ pq_U := tw600
theorem cd_X10_isWord : yX10_isWord.cls = RX10 ∧ yX10_isWord.cls ≠ "java/lang/invoke/MethodHandle" ∧ yX10_isWord.cls ≠ "java/lang/invoke/VarHandle" ∧ (parseMethodDescriptor yX10_isWord.desc).map (fun d => d.parameters.length) = some 1 := by decide +kernel
set_option maxHeartbeats 4000000 in
set_option maxRecDepth 100000 in
theorem c_X10_isWord (l : Launch) (C : pq_C) (X : va_W) (n : Nat) (S0 : pq_S) (hF : WF S0) (sz : Nat) (a0 : Nat) (a1 : Nat) (Ta0 : TY S0 a0 10) (Ta1 : a1 < pq_ns) (r : Int32) (S1 : pq_S) (hm : m_X10_isWord n a0 a1 S0 = some (r, S1)) : MZ l yX10_isWord (.code yX10_isWord cX10_isWord 3 (some .boolean) :: pq_U) rm_X10_isWord C X S0 sz [.ref a0, .ref (C.2.2.2.2.2.2.1 a1)] r S1 0 0 := by
  refine Met.ofW (cc := cX10_isWord) (maxL := 3) (ret := (some .boolean)) (by decide) rfl ?_
  intro p e s m args below meth c s₁ B hml hv
  obtain ⟨rfl, hv⟩ := hv
  have hsz := hv.1
  subst hsz
  have hw := pw_entry hF hv
  have hts := atoms_spec (ws := .code yX10_isWord cX10_isWord 3 (some .boolean) :: pq_U) B.pre
  have hU : ∀ w ∈ pq_U, w.before _ s = true := fun w h => hts w (List.mem_cons_of_mem _ h)
  have hx := B.exec
  have hb := B.bytes
  have hr := B.returns
  have hown : s.vm.findClass RX10 = some m.cls := findClass_of_methodNamed B.named
  have hlk := B.notSynchronized
  have hl := lv_entry ([.ref a0, .ref (C.2.2.2.2.2.2.1 a1)]) (n := 3) (Nat.le_of_ble_eq_true rfl)
  rw [lg_entry_eq]
  generalize (lg_sl ([.ref a0, .ref (C.2.2.2.2.2.2.1 a1)]) ++ List.replicate (3 - (lg_sl ([.ref a0, .ref (C.2.2.2.2.2.2.1 a1)])).length) Slot.unset).toArray = ls at hl ⊢
  have hl : lv_has ls 3 [(0, .ref a0), (1, .ref (C.2.2.2.2.2.2.1 a1))] := hl
  have hE : Ext S0 S0 := Ext.rf _
  have cx : Cx p s m _ meth c cX10_isWord 3 RX10 (some .boolean) := ⟨hx, hb, hml, hown, hU, hr, hlk⟩
  rw [m_X10_isWord] at hm
  refine lv_aload_n hx hb dX10_isWord_0 rfl (lv_at hl 0 rfl) ?_
  refine pg_i (k := 10) (j := 3) (f := 1003) hx hb hown hU iu10 hw Ta0 (by decide) rfl (hU _ tw46) rfl dX10_isWord_1 ?_
  refine lv_aload_n hx hb dX10_isWord_4 rfl (lv_at hl 0 rfl) ?_
  refine pg_i (k := 10) (j := 4) (f := 1004) hx hb hown hU iu10 hw Ta0 (by decide) rfl (hU _ tw48) rfl dX10_isWord_5 ?_
  refine lv_isub hx hb dX10_isWord_8 ?_
  refine lv_aload_n hx hb dX10_isWord_9 rfl (lv_at hl 1 rfl) ?_
  refine pw_ci (va_runV (As := []) (rest := [.int ((pI S0 1003 a0) - (pI S0 1004 a0))]) ⟨hx, hb, hml, hown, hU⟩ (c_J0_length_8abf5 l C X S0 hw.wf _ a1 Ta1) (cwV 0 hU (pq_gV tw601 tw602 tw603 tw20 tc_J0_length_8abf5) rfl rfl rfl cd_J0_length_8abf5 ⟨Nat.le_of_ble_eq_true rfl, Nat.le_of_ble_eq_true rfl⟩) (pw_preT hw Ta1) rfl rfl hl.1 rfl (lv_room (Nat.le_of_ble_eq_true rfl)) dX10_isWord_10 ⟨Nat.zero_le _, Nat.zero_le _⟩) hw (fun H locs hw _ => ?_)
  refine lv_icmp_eq (tgt := 18) hx hb dX10_isWord_13 (by decide) (fun h1 => ?_) (fun h1 => ?_)
  · rw [if_pos h1] at hm
    refine lv_iconst (v := 0) hx hb dX10_isWord_18 (by decide) ?_
    refine lv_istore_n (lv' := [(2, .int 0), (0, .ref a0), (1, .ref (C.2.2.2.2.2.2.1 a1))]) hx hb dX10_isWord_19 rfl hl (by decide) rfl (fun ls hl => ?_)
    exact wb_X10_isWord_20 cx C X S0 n r S1 n a0 a1 0 S0 _ _ _ hw hE Ta0 Ta1 (lv_sub hl [1, 2, 0] rfl) hm
  · rw [if_neg h1] at hm
    refine lv_iconst (v := 0) hx hb dX10_isWord_16 (by decide) ?_
    cases hm
    exact pw_zret hx hb hr bz_0 hlk hw hE dX10_isWord_17
abbrev rmg_optW (d : Nat) : Room := { frames := 1 + d, cells := 0, slots := 0, locals := 40 + d * 34 }
theorem rmg_optW_l (d : Nat) {q : Nat} (h : q ≤ 15) : 8 + (q + 11) + (rmg_optW d).locals ≤ (rmg_optW (d + 1)).locals := by show 8 + (q + 11) + (40 + d * 34) ≤ 40 + (d + 1) * 34; omega
theorem tc_X11_optionWorth : Cond.code yX11_optionWorth cX11_optionWorth 15 (some .long) ∈ pq_U := tw1172
theorem cd_X11_optionWorth : yX11_optionWorth.cls = RX11 ∧ yX11_optionWorth.cls ≠ "java/lang/invoke/MethodHandle" ∧ yX11_optionWorth.cls ≠ "java/lang/invoke/VarHandle" ∧ (parseMethodDescriptor yX11_optionWorth.desc).map (fun d => d.parameters.length) = some 7 := by decide +kernel
def HG_optW (n d : Nat) (rec : (Int32 → Int32 → Int32 → Int32 → Int32 → Int32 → Int32 → pq_S → Option (Int64 × pq_S))) : Prop := (∀ (l : Launch) (C : pq_C) (X : va_W) (S0 : pq_S) (_ : WF S0) (sz : Nat) (x0 : Int32) (x1 : Int32) (x2 : Int32) (x3 : Int32) (x4 : Int32) (x5 : Int32) (x6 : Int32)  (r : Int64) (S1 : pq_S), rec x0 x1 x2 x3 x4 x5 x6 S0 = some (r, S1) → MJ l yX11_optionWorth (.code yX11_optionWorth cX11_optionWorth 15 (some .long) :: pq_U) (rmg_optW d) C X S0 sz [.int x0, .int x1, .int x2, .int x3, .int x4, .int x5, .int x6] r S1 0 0)
def g_X11_optionWorth (n : Nat) (rec : (Int32 → Int32 → Int32 → Int32 → Int32 → Int32 → Int32 → pq_S → Option (Int64 × pq_S))) (x0 : Int32) (x1 : Int32) (x2 : Int32) (x3 : Int32) (x4 : Int32) (x5 : Int32) (x6 : Int32) (S0 : pq_S) : Option (Int64 × pq_S) := cb (m_X11_scale n x5 S0) fun r3 S_1 => lt_ ((Int32.toInt64 (if (x0 - x4) < 0 then 0 else (x0 - x4))) * r3) fun v5 => if 0 < x5 then cb (rec (x0 + x1) x1 x2 x3 x4 (x5 - (1 : Int32)) x6 S_1) fun r9 S_7 => cb (rec (if (x0 - x2) < 0 then 0 else (x0 - x2)) x1 x2 x3 x4 (x5 - (1 : Int32)) x6 S_7) fun r13 S_11 => lt_ (((Int32.toInt64 x3) * r9) + ((Int32.toInt64 ((16 : Int32) - x3)) * r13)) fun v15 => if x6 = 0 then some ((if v15 < v5 then v5 else v15), S_11) else some (v15, S_11) else some (v5, S_1)
set_option maxHeartbeats 4000000 in
set_option maxRecDepth 100000 in
theorem cg_X11_optionWorth (n d : Nat) (rec : (Int32 → Int32 → Int32 → Int32 → Int32 → Int32 → Int32 → pq_S → Option (Int64 × pq_S))) (hrec : HG_optW n d rec) (l : Launch) (C : pq_C) (X : va_W) (S0 : pq_S) (hF : WF S0) (sz : Nat) (x0 : Int32) (x1 : Int32) (x2 : Int32) (x3 : Int32) (x4 : Int32) (x5 : Int32) (x6 : Int32)  (r : Int64) (S1 : pq_S) (hm : g_X11_optionWorth n rec x0 x1 x2 x3 x4 x5 x6 S0 = some (r, S1)) : MJ l yX11_optionWorth (.code yX11_optionWorth cX11_optionWorth 15 (some .long) :: pq_U) (rmg_optW (d + 1)) C X S0 sz [.int x0, .int x1, .int x2, .int x3, .int x4, .int x5, .int x6] r S1 0 0 := by
  refine Met.ofW (cc := cX11_optionWorth) (maxL := 15) (ret := (some .long)) (by decide) rfl ?_
  intro p e s m args below meth c s₁ B hml hv
  obtain ⟨rfl, hv⟩ := hv
  have hsz := hv.1
  subst hsz
  have hw := pw_entry hF hv
  have hts := atoms_spec (ws := .code yX11_optionWorth cX11_optionWorth 15 (some .long) :: pq_U) B.pre
  have hU : ∀ w ∈ pq_U, w.before _ s = true := fun w h => hts w (List.mem_cons_of_mem _ h)
  have hx := B.exec
  have hb := B.bytes
  have hr := B.returns
  have hown : s.vm.findClass RX11 = some m.cls := findClass_of_methodNamed B.named
  have hlk := B.notSynchronized
  have hl := lv_entry ([.int x0, .int x1, .int x2, .int x3, .int x4, .int x5, .int x6]) (n := 15) (Nat.le_of_ble_eq_true rfl)
  rw [lg_entry_eq]
  generalize (lg_sl ([.int x0, .int x1, .int x2, .int x3, .int x4, .int x5, .int x6]) ++ List.replicate (15 - (lg_sl ([.int x0, .int x1, .int x2, .int x3, .int x4, .int x5, .int x6])).length) Slot.unset).toArray = ls at hl ⊢
  have hl : lv_has ls 15 [(0, .int x0), (1, .int x1), (2, .int x2), (3, .int x3), (4, .int x4), (5, .int x5), (6, .int x6)] := hl
  have hE : Ext S0 S0 := Ext.rf _
  have cx : Cx p s m _ meth c cX11_optionWorth 15 RX11 (some .long) := ⟨hx, hb, hml, hown, hU, hr, hlk⟩
  rw [g_X11_optionWorth] at hm
  refine lv_iload_n hx hb dX11_optionWorth_0 rfl (lv_at hl 0 rfl) ?_
  refine lv_iload hx hb dX11_optionWorth_1 (lv_at hl 4 rfl) ?_
  refine lv_isub hx hb dX11_optionWorth_3 ?_
  refine lv_iconst (v := 0) hx hb dX11_optionWorth_4 (by decide) ?_
  refine va_mmax hx hb (by rw [hml]; exact hl.1.symm) hown (hU _ tw1173) (hU _ twm_max_s) (hU _ twm_i) (hU _ twm_max_c) (Nat.le_trans (Nat.le_of_ble_eq_true rfl) (Nat.le_add_right _ _)) (Nat.le_trans (Nat.le_of_ble_eq_true rfl) (Nat.le_add_right _ _)) (Nat.zero_le _) (Nat.zero_le _) dX11_optionWorth_5 ?_
  refine lv_i2l (v := (Int32.toInt64 (if (x0 - x4) < 0 then 0 else (x0 - x4)))) hx hb dX11_optionWorth_8 rfl ?_
  refine lv_iload hx hb dX11_optionWorth_9 (lv_at hl 5 rfl) ?_
  obtain ⟨r3, S_1, hq2, hm⟩ := cb_some hm
  refine pw_cj (va_runS (As := [.int x5]) (rest := [.long (Int32.toInt64 (if (x0 - x4) < 0 then 0 else (x0 - x4)))]) ⟨hx, hb, hml, hown, hU⟩ (c_X11_scale l C X n S0 hw.wf _ x5  r3 S_1 hq2) ⟨callB_of 1 hU (pq_g1 tc_X11_scale) rfl rfl rfl (hU _ tw1) (hU _ tw1174) cd_X11_scale.2 ⟨Nat.le_trans (Nat.le_of_ble_eq_true rfl) (Nat.le_add_right _ _), Nat.le_trans (Nat.le_of_ble_eq_true rfl) (Nat.le_add_right _ _)⟩, hU _ tw1175⟩ (pw_preS hw) rfl rfl hl.1 rfl (lv_room (Nat.le_of_ble_eq_true rfl)) dX11_optionWorth_11 ⟨Nat.zero_le _, Nat.zero_le _⟩) hw (fun H locs hw hx4 => ?_)
  have hE : Ext S0 S_1 := Ext.tr hE hx4
  refine lv_lmul hx hb dX11_optionWorth_14 ?_
  obtain ⟨v5, ev5, hm⟩ := lt_some hm
  refine lv_nmJ ev5 ?_
  refine lv_lstore (lv' := [(7, .long v5), (0, .int x0), (1, .int x1), (2, .int x2), (3, .int x3), (4, .int x4), (5, .int x5), (6, .int x6)]) hx hb dX11_optionWorth_15 hl (by decide) rfl (fun ls hl => ?_)
  refine lv_iload hx hb dX11_optionWorth_17 (lv_at hl 6 rfl) ?_
  refine lv_if_gt (tgt := 25) hx hb dX11_optionWorth_19 (by decide) (fun h6 => ?_) (fun h6 => ?_)
  · rw [if_pos h6] at hm
    refine lv_iload_n hx hb dX11_optionWorth_25 rfl (lv_at hl 1 rfl) ?_
    refine lv_iload_n hx hb dX11_optionWorth_26 rfl (lv_at hl 2 rfl) ?_
    refine lv_iadd hx hb dX11_optionWorth_27 ?_
    refine lv_iload_n hx hb dX11_optionWorth_28 rfl (lv_at hl 2 rfl) ?_
    refine lv_iload_n hx hb dX11_optionWorth_29 rfl (lv_at hl 3 rfl) ?_
    refine lv_iload_n hx hb dX11_optionWorth_30 rfl (lv_at hl 4 rfl) ?_
    refine lv_iload hx hb dX11_optionWorth_31 (lv_at hl 5 rfl) ?_
    refine lv_iload hx hb dX11_optionWorth_33 (lv_at hl 6 rfl) ?_
    refine lv_iconst (v := 1) hx hb dX11_optionWorth_35 (by decide) ?_
    refine lv_isub hx hb dX11_optionWorth_36 ?_
    refine lv_iload hx hb dX11_optionWorth_37 (lv_at hl 7 rfl) ?_
    obtain ⟨r9, S_7, hq8, hm⟩ := cb_some hm
    refine pw_cj (va_runS (As := [.int (x0 + x1), .int x1, .int x2, .int x3, .int x4, .int (x5 - (1 : Int32)), .int x6]) (rest := []) ⟨hx, hb, hml, hown, hU⟩ (hrec l C X S_1 hw.wf _ (x0 + x1) x1 x2 x3 x4 (x5 - (1 : Int32)) x6  r9 S_7 hq8) ⟨callB_of 7 hU (pq_g1 tc_X11_optionWorth) rfl rfl rfl (hU _ tw1) (hU _ tw1170) cd_X11_optionWorth.2 ⟨Nat.le_refl _, rmg_optW_l d (by decide)⟩, hU _ tw1171⟩ (pw_preS hw) rfl rfl hl.1 rfl (lv_room (Nat.le_of_ble_eq_true rfl)) dX11_optionWorth_39 ⟨Nat.zero_le _, Nat.zero_le _⟩) hw (fun H locs hw hx10 => ?_)
    have hE : Ext S0 S_7 := Ext.tr hE hx10
    refine lv_lstore (lv' := [(9, .long r9), (7, .long v5), (0, .int x0), (1, .int x1), (2, .int x2), (3, .int x3), (4, .int x4), (5, .int x5), (6, .int x6)]) hx hb dX11_optionWorth_42 hl (by decide) rfl (fun ls hl => ?_)
    refine lv_iload_n hx hb dX11_optionWorth_44 rfl (lv_at hl 2 rfl) ?_
    refine lv_iload_n hx hb dX11_optionWorth_45 rfl (lv_at hl 4 rfl) ?_
    refine lv_isub hx hb dX11_optionWorth_46 ?_
    refine lv_iconst (v := 0) hx hb dX11_optionWorth_47 (by decide) ?_
    refine va_mmax hx hb (by rw [hml]; exact hl.1.symm) hown (hU _ tw1173) (hU _ twm_max_s) (hU _ twm_i) (hU _ twm_max_c) (Nat.le_trans (Nat.le_of_ble_eq_true rfl) (Nat.le_add_right _ _)) (Nat.le_trans (Nat.le_of_ble_eq_true rfl) (Nat.le_add_right _ _)) (Nat.zero_le _) (Nat.zero_le _) dX11_optionWorth_48 ?_
    refine lv_iload_n hx hb dX11_optionWorth_51 rfl (lv_at hl 3 rfl) ?_
    refine lv_iload_n hx hb dX11_optionWorth_52 rfl (lv_at hl 4 rfl) ?_
    refine lv_iload_n hx hb dX11_optionWorth_53 rfl (lv_at hl 5 rfl) ?_
    refine lv_iload hx hb dX11_optionWorth_54 (lv_at hl 6 rfl) ?_
    refine lv_iload hx hb dX11_optionWorth_56 (lv_at hl 7 rfl) ?_
    refine lv_iconst (v := 1) hx hb dX11_optionWorth_58 (by decide) ?_
    refine lv_isub hx hb dX11_optionWorth_59 ?_
    refine lv_iload hx hb dX11_optionWorth_60 (lv_at hl 8 rfl) ?_
    obtain ⟨r13, S_11, hq12, hm⟩ := cb_some hm
    refine pw_cj (va_runS (As := [.int (if (x0 - x2) < 0 then 0 else (x0 - x2)), .int x1, .int x2, .int x3, .int x4, .int (x5 - (1 : Int32)), .int x6]) (rest := []) ⟨hx, hb, hml, hown, hU⟩ (hrec l C X S_7 hw.wf _ (if (x0 - x2) < 0 then 0 else (x0 - x2)) x1 x2 x3 x4 (x5 - (1 : Int32)) x6  r13 S_11 hq12) ⟨callB_of 7 hU (pq_g1 tc_X11_optionWorth) rfl rfl rfl (hU _ tw1) (hU _ tw1170) cd_X11_optionWorth.2 ⟨Nat.le_refl _, rmg_optW_l d (by decide)⟩, hU _ tw1171⟩ (pw_preS hw) rfl rfl hl.1 rfl (lv_room (Nat.le_of_ble_eq_true rfl)) dX11_optionWorth_62 ⟨Nat.zero_le _, Nat.zero_le _⟩) hw (fun H locs hw hx14 => ?_)
    have hE : Ext S0 S_11 := Ext.tr hE hx14
    refine lv_lstore (lv' := [(11, .long r13), (9, .long r9), (7, .long v5), (0, .int x0), (1, .int x1), (2, .int x2), (3, .int x3), (4, .int x4), (5, .int x5), (6, .int x6)]) hx hb dX11_optionWorth_65 hl (by decide) rfl (fun ls hl => ?_)
    refine lv_iload_n hx hb dX11_optionWorth_67 rfl (lv_at hl 6 rfl) ?_
    refine lv_i2l (v := (Int32.toInt64 x3)) hx hb dX11_optionWorth_68 rfl ?_
    refine lv_lload hx hb dX11_optionWorth_69 (lv_at hl 1 rfl) ?_
    refine lv_lmul hx hb dX11_optionWorth_71 ?_
    refine lv_bipush (v := 16) hx hb dX11_optionWorth_72 (by decide) ?_
    refine lv_iload_n hx hb dX11_optionWorth_74 rfl (lv_at hl 6 rfl) ?_
    refine lv_isub hx hb dX11_optionWorth_75 ?_
    refine lv_i2l (v := (Int32.toInt64 ((16 : Int32) - x3))) hx hb dX11_optionWorth_76 rfl ?_
    refine lv_lload hx hb dX11_optionWorth_77 (lv_at hl 0 rfl) ?_
    refine lv_lmul hx hb dX11_optionWorth_79 ?_
    refine lv_ladd hx hb dX11_optionWorth_80 ?_
    obtain ⟨v15, ev15, hm⟩ := lt_some hm
    refine lv_nmJ ev15 ?_
    refine lv_lstore (lv' := [(13, .long v15), (11, .long r13), (9, .long r9), (7, .long v5), (0, .int x0), (1, .int x1), (2, .int x2), (3, .int x3), (4, .int x4), (5, .int x5), (6, .int x6)]) hx hb dX11_optionWorth_81 hl (by decide) rfl (fun ls hl => ?_)
    refine lv_iload hx hb dX11_optionWorth_83 (lv_at hl 10 rfl) ?_
    refine lv_if_eq (tgt := 93) hx hb dX11_optionWorth_85 (by decide) (fun h16 => ?_) (fun h16 => ?_)
    · rw [if_pos h16] at hm
      refine lv_lload hx hb dX11_optionWorth_93 (lv_at hl 3 rfl) ?_
      refine lv_lload hx hb dX11_optionWorth_95 (lv_at hl 0 rfl) ?_
      refine va_mmax_long hx hb (by rw [hml]; exact hl.1.symm) hown (hU _ tw1177) (hU _ twm_maxl_s) (hU _ twm_i) (hU _ twm_maxl_c) (Nat.le_trans (Nat.le_of_ble_eq_true rfl) (Nat.le_add_right _ _)) (Nat.le_trans (Nat.le_of_ble_eq_true rfl) (Nat.le_add_right _ _)) (Nat.zero_le _) (Nat.zero_le _) dX11_optionWorth_97 ?_
      cases hm
      exact pw_jret hx hb hr hlk hw hE dX11_optionWorth_100
    · rw [if_neg h16] at hm
      refine lv_lload hx hb dX11_optionWorth_88 (lv_at hl 0 rfl) ?_
      refine lv_goto (tgt := 100) hx hb dX11_optionWorth_90 (by decide) ?_
      cases hm
      exact pw_jret hx hb hr hlk hw hE dX11_optionWorth_100
  · rw [if_neg h6] at hm
    refine lv_lload hx hb dX11_optionWorth_22 (lv_at hl 0 rfl) ?_
    cases hm
    exact pw_jret hx hb hr hlk hw hE dX11_optionWorth_24
def m_optW_d (n : Nat) : Nat → ((Int32 → Int32 → Int32 → Int32 → Int32 → Int32 → Int32 → pq_S → Option (Int64 × pq_S)))
  | 0 => (fun _ _ _ _ _ _ _ _ => none)
  | d + 1 => (g_X11_optionWorth n (m_optW_d n d))
theorem hg_optW (n : Nat) : ∀ d : Nat, HG_optW n d (m_optW_d n d) := by
  intro d
  induction d with
  | zero =>
    exact fun _ _ _ _ _ _ _ _ _ _ _ _ _ _ _ hm => by cases hm
  | succ d ih =>
    exact (fun q0 q1 q2 q3 q4 q5 q6 q7 q8 q9 q10 q11 q12 q13 q14 hm => cg_X11_optionWorth n d _ ih q0 q1 q2 q3 q4 q5 q6 q7 q8 q9 q10 q11 q12 q13 q14 hm)
def m_X11_optionWorth (n : Nat) (x0 : Int32) (x1 : Int32) (x2 : Int32) (x3 : Int32) (x4 : Int32) (x5 : Int32) (x6 : Int32) (S : pq_S) : Option (Int64 × pq_S) := (m_optW_d n 64) x0 x1 x2 x3 x4 x5 x6 S
abbrev rm_X11_optionWorth : Room := { frames := 65, cells := 0, slots := 0, locals := 2216 }
theorem c_X11_optionWorth (l : Launch) (C : pq_C) (X : va_W) (n : Nat) (S0 : pq_S) (hF : WF S0) (sz : Nat) (x0 : Int32) (x1 : Int32) (x2 : Int32) (x3 : Int32) (x4 : Int32) (x5 : Int32) (x6 : Int32)  (r : Int64) (S1 : pq_S) (hm : m_X11_optionWorth n x0 x1 x2 x3 x4 x5 x6 S0 = some (r, S1)) : MJ l yX11_optionWorth (.code yX11_optionWorth cX11_optionWorth 15 (some .long) :: pq_U) rm_X11_optionWorth C X S0 sz [.int x0, .int x1, .int x2, .int x3, .int x4, .int x5, .int x6] r S1 0 0 := (hg_optW n 64) l C X S0 hF sz x0 x1 x2 x3 x4 x5 x6  r S1 hm
abbrev rmg_worO (d : Nat) : Room := { frames := 0 + d, cells := 0, slots := 0, locals := 0 + d * 30 }
theorem rmg_worO_l (d : Nat) {q : Nat} (h : q ≤ 11) : 8 + (q + 11) + (rmg_worO d).locals ≤ (rmg_worO (d + 1)).locals := by show 8 + (q + 11) + (0 + d * 30) ≤ 0 + (d + 1) * 30; omega
theorem tc_X12_worthOf : Cond.code yX12_worthOf cX12_worthOf 11 (some .long) ∈ pq_U := tw1997
theorem cd_X12_worthOf : yX12_worthOf.cls = RX12 ∧ yX12_worthOf.cls ≠ "java/lang/invoke/MethodHandle" ∧ yX12_worthOf.cls ≠ "java/lang/invoke/VarHandle" ∧ (parseMethodDescriptor yX12_worthOf.desc).map (fun d => d.parameters.length) = some 3 := by decide +kernel
def HG_worO (n d : Nat) (rec : (Nat → Int32 → Int32 → Int32 → pq_S → Option (Int64 × pq_S))) : Prop := (∀ (l : Launch) (C : pq_C) (X : va_W) (S0 : pq_S) (_ : WF S0) (sz : Nat) (a0 : Nat) (x1 : Int32) (x2 : Int32) (x3 : Int32) (_Ta0 : TY S0 a0 12) (r : Int64) (S1 : pq_S), rec a0 x1 x2 x3 S0 = some (r, S1) → MJ l yX12_worthOf (.code yX12_worthOf cX12_worthOf 11 (some .long) :: pq_U) (rmg_worO d) C X S0 sz [.ref a0, .int x1, .int x2, .int x3] r S1 0 0)
def b_X12_worthOf_110 (n : Nat) (rec : (Nat → Int32 → Int32 → Int32 → pq_S → Option (Int64 × pq_S))) (x7 : Int64) (S : pq_S) : Option (Int64 × pq_S) := some (x7, S)
set_option maxHeartbeats 4000000 in
set_option maxRecDepth 100000 in
theorem wb_X12_worthOf_110 {p : Program} {l : Launch} {e : Env} {s : State} {m : MethodId} {args : Array Value} {below : List Frame} {meth : Method} {c : Code} (cx : Cx p s m args meth c cX12_worthOf 11 RX12 (some .long)) (C : pq_C) (X : va_W) (S0 : pq_S) (n : Nat) (d : Nat) (rec : (Nat → Int32 → Int32 → Int32 → pq_S → Option (Int64 × pq_S))) (hrec : HG_worO n d rec) (r : Int64) (S1 : pq_S) : ∀ (x7 : Int64) (S : pq_S) (H : Heap) (locs : List Loc) (ls : Array Slot), PW C X S (pq_F C X S0 s.heap.size) H locs s → Ext S0 S → lv_has ls 11 [(7, .long x7)] → b_X12_worthOf_110 n rec x7 S = some (r, S1) → W p l e (rmg_worO (d + 1)) s m args below meth c H locs 0 0 (MQ below (QcJ C X S0 s.heap.size r S1) args s 0 0 (pq_F C X S0 s.heap.size)) (F0 m 110 ls []) := by
  obtain ⟨hx, hb, hml, hown, hU, hr, hlk⟩ := id cx
  intro x7 S H locs ls hw hE hl hm
  rw [b_X12_worthOf_110] at hm
  refine lv_lload hx hb dX12_worthOf_110 (lv_at hl 0 rfl) ?_
  refine lv_goto (tgt := 117) hx hb dX12_worthOf_112 (by decide) ?_
  cases hm
  exact pw_jret hx hb hr hlk hw hE dX12_worthOf_117
def b_X12_worthOf_46 (n : Nat) (rec : (Nat → Int32 → Int32 → Int32 → pq_S → Option (Int64 × pq_S))) (a0 : Nat) (x1 : Int32) (x2 : Int32) (x3 : Int32) (x4 : Int64) (z0 : Int32) (S : pq_S) : Option (Int64 × pq_S) := cb (rec a0 (x1 + (pI S 1255 a0)) (x2 - (1 : Int32)) x3 S) fun r6 S_4 => cb (rec a0 z0 (x2 - (1 : Int32)) x3 S_4) fun r10 S_8 => lt_ (((Int32.toInt64 (pI S 1257 a0)) * r6) + ((Int32.toInt64 ((16 : Int32) - (pI S_4 1257 a0))) * r10)) fun v12 => lt_ (x4 <<< (Int32.toInt64 ((4 : Int32) * x2) &&& (63 : Int64))) fun v13 => if x3 = 0 then if (lg_cmp v12 v13) ≤ 0 then some (v13, S_8) else b_X12_worthOf_110 n rec v12 S_8 else b_X12_worthOf_110 n rec v12 S_8
set_option maxHeartbeats 4000000 in
set_option maxRecDepth 100000 in
theorem wb_X12_worthOf_46 {p : Program} {l : Launch} {e : Env} {s : State} {m : MethodId} {args : Array Value} {below : List Frame} {meth : Method} {c : Code} (cx : Cx p s m args meth c cX12_worthOf 11 RX12 (some .long)) (C : pq_C) (X : va_W) (S0 : pq_S) (n : Nat) (d : Nat) (rec : (Nat → Int32 → Int32 → Int32 → pq_S → Option (Int64 × pq_S))) (hrec : HG_worO n d rec) (r : Int64) (S1 : pq_S) : ∀ (a0 : Nat) (x1 : Int32) (x2 : Int32) (x3 : Int32) (x4 : Int64) (z0 : Int32) (S : pq_S) (H : Heap) (locs : List Loc) (ls : Array Slot), PW C X S (pq_F C X S0 s.heap.size) H locs s → Ext S0 S → TY S a0 12 → lv_has ls 11 [(0, .ref a0), (1, .int x1), (2, .int x2), (3, .int x3), (4, .long x4)] → b_X12_worthOf_46 n rec a0 x1 x2 x3 x4 z0 S = some (r, S1) → W p l e (rmg_worO (d + 1)) s m args below meth c H locs 0 0 (MQ below (QcJ C X S0 s.heap.size r S1) args s 0 0 (pq_F C X S0 s.heap.size)) (F0 m 46 ls [.int z0]) := by
  obtain ⟨hx, hb, hml, hown, hU, hr, hlk⟩ := id cx
  intro a0 x1 x2 x3 x4 z0 S H locs ls hw hE Ta0 hl hm
  rw [b_X12_worthOf_46] at hm
  refine lv_istore (lv' := [(6, .int z0), (0, .ref a0), (1, .int x1), (2, .int x2), (3, .int x3), (4, .long x4)]) hx hb dX12_worthOf_46 hl (by decide) rfl (fun ls hl => ?_)
  refine lv_aload_n hx hb dX12_worthOf_48 rfl (lv_at hl 1 rfl) ?_
  refine pg_i (k := 12) (j := 57) (f := 1257) hx hb hown hU iu12 hw Ta0 (by decide) rfl (hU _ tw1528) rfl dX12_worthOf_49 ?_
  refine lv_i2l (v := (Int32.toInt64 (pI S 1257 a0))) hx hb dX12_worthOf_52 rfl ?_
  refine lv_aload_n hx hb dX12_worthOf_53 rfl (lv_at hl 1 rfl) ?_
  refine lv_iload_n hx hb dX12_worthOf_54 rfl (lv_at hl 2 rfl) ?_
  refine lv_aload_n hx hb dX12_worthOf_55 rfl (lv_at hl 1 rfl) ?_
  refine pg_i (k := 12) (j := 55) (f := 1255) hx hb hown hU iu12 hw Ta0 (by decide) rfl (hU _ tw1526) rfl dX12_worthOf_56 ?_
  refine lv_iadd hx hb dX12_worthOf_59 ?_
  refine lv_iload_n hx hb dX12_worthOf_60 rfl (lv_at hl 3 rfl) ?_
  refine lv_iconst (v := 1) hx hb dX12_worthOf_61 (by decide) ?_
  refine lv_isub hx hb dX12_worthOf_62 ?_
  refine lv_iload_n hx hb dX12_worthOf_63 rfl (lv_at hl 4 rfl) ?_
  obtain ⟨r6, S_4, hq5, hm⟩ := cb_some hm
  refine pw_cj (va_runV (As := [.int (x1 + (pI S 1255 a0)), .int (x2 - (1 : Int32)), .int x3]) (rest := [.long (Int32.toInt64 (pI S 1257 a0))]) ⟨hx, hb, hml, hown, hU⟩ (hrec l C X S hw.wf _ a0 (x1 + (pI S 1255 a0)) (x2 - (1 : Int32)) x3 (Ta0) r6 S_4 hq5) (cwV 3 hU (pq_gV tw1994 tw1996 ts168 tw14 tc_X12_worthOf) rfl rfl rfl cd_X12_worthOf ⟨Nat.le_refl _, rmg_worO_l d (by decide)⟩) (pw_preV hw Ta0 (by decide) rfl) rfl rfl hl.1 rfl (lv_room (Nat.le_of_ble_eq_true rfl)) dX12_worthOf_64 ⟨Nat.zero_le _, Nat.zero_le _⟩) hw (fun H locs hw hx7 => ?_)
  have Ta0 : TY S_4 a0 12 := ty_ext hx7 Ta0
  have hE : Ext S0 S_4 := Ext.tr hE hx7
  refine lv_lmul hx hb dX12_worthOf_67 ?_
  refine lv_bipush (v := 16) hx hb dX12_worthOf_68 (by decide) ?_
  refine lv_aload_n hx hb dX12_worthOf_70 rfl (lv_at hl 1 rfl) ?_
  refine pg_i (k := 12) (j := 57) (f := 1257) hx hb hown hU iu12 hw Ta0 (by decide) rfl (hU _ tw1528) rfl dX12_worthOf_71 ?_
  refine lv_isub hx hb dX12_worthOf_74 ?_
  refine lv_i2l (v := (Int32.toInt64 ((16 : Int32) - (pI S_4 1257 a0)))) hx hb dX12_worthOf_75 rfl ?_
  refine lv_aload_n hx hb dX12_worthOf_76 rfl (lv_at hl 1 rfl) ?_
  refine lv_iload hx hb dX12_worthOf_77 (lv_at hl 0 rfl) ?_
  refine lv_iload_n hx hb dX12_worthOf_79 rfl (lv_at hl 3 rfl) ?_
  refine lv_iconst (v := 1) hx hb dX12_worthOf_80 (by decide) ?_
  refine lv_isub hx hb dX12_worthOf_81 ?_
  refine lv_iload_n hx hb dX12_worthOf_82 rfl (lv_at hl 4 rfl) ?_
  obtain ⟨r10, S_8, hq9, hm⟩ := cb_some hm
  refine pw_cj (va_runV (As := [.int z0, .int (x2 - (1 : Int32)), .int x3]) (rest := [.long (Int32.toInt64 ((16 : Int32) - (pI S_4 1257 a0))), .long ((Int32.toInt64 (pI S 1257 a0)) * r6)]) ⟨hx, hb, hml, hown, hU⟩ (hrec l C X S_4 hw.wf _ a0 z0 (x2 - (1 : Int32)) x3 (Ta0) r10 S_8 hq9) (cwV 3 hU (pq_gV tw1994 tw1996 ts168 tw14 tc_X12_worthOf) rfl rfl rfl cd_X12_worthOf ⟨Nat.le_refl _, rmg_worO_l d (by decide)⟩) (pw_preV hw Ta0 (by decide) rfl) rfl rfl hl.1 rfl (lv_room (Nat.le_of_ble_eq_true rfl)) dX12_worthOf_83 ⟨Nat.zero_le _, Nat.zero_le _⟩) hw (fun H locs hw hx11 => ?_)
  have Ta0 : TY S_8 a0 12 := ty_ext hx11 Ta0
  have hE : Ext S0 S_8 := Ext.tr hE hx11
  refine lv_lmul hx hb dX12_worthOf_86 ?_
  refine lv_ladd hx hb dX12_worthOf_87 ?_
  obtain ⟨v12, ev12, hm⟩ := lt_some hm
  refine lv_nmJ ev12 ?_
  refine lv_lstore (lv' := [(7, .long v12), (6, .int z0), (0, .ref a0), (1, .int x1), (2, .int x2), (3, .int x3), (4, .long x4)]) hx hb dX12_worthOf_88 hl (by decide) rfl (fun ls hl => ?_)
  refine lv_lload hx hb dX12_worthOf_90 (lv_at hl 6 rfl) ?_
  refine lv_iconst (v := 4) hx hb dX12_worthOf_92 (by decide) ?_
  refine lv_iload_n hx hb dX12_worthOf_93 rfl (lv_at hl 4 rfl) ?_
  refine lv_imul hx hb dX12_worthOf_94 ?_
  refine lv_lshl (v := (x4 <<< (Int32.toInt64 ((4 : Int32) * x2) &&& (63 : Int64)))) hx hb dX12_worthOf_95 rfl ?_
  obtain ⟨v13, ev13, hm⟩ := lt_some hm
  refine lv_nmJ ev13 ?_
  refine lv_lstore (lv' := [(9, .long v13), (7, .long v12), (6, .int z0), (0, .ref a0), (1, .int x1), (2, .int x2), (3, .int x3), (4, .long x4)]) hx hb dX12_worthOf_96 hl (by decide) rfl (fun ls hl => ?_)
  refine lv_iload_n hx hb dX12_worthOf_98 rfl (lv_at hl 6 rfl) ?_
  refine lv_if_ne (tgt := 110) hx hb dX12_worthOf_99 (by decide) (fun h14 => ?_) (fun h14 => ?_)
  · rw [if_neg h14] at hm
    exact wb_X12_worthOf_110 cx C X S0 n d rec hrec r S1 v12 S_8 _ _ _ hw hE  (lv_sub hl [1] rfl) hm
  · rw [if_pos h14] at hm
    refine lv_lload hx hb dX12_worthOf_102 (lv_at hl 1 rfl) ?_
    refine lv_lload hx hb dX12_worthOf_104 (lv_at hl 0 rfl) ?_
    refine W.lcmp hx hb dX12_worthOf_106 ?_
    refine lv_if_le (tgt := 115) hx hb dX12_worthOf_107 (by decide) (fun h15 => ?_) (fun h15 => ?_)
    · rw [if_pos h15] at hm
      refine lv_lload hx hb dX12_worthOf_115 (lv_at hl 0 rfl) ?_
      cases hm
      exact pw_jret hx hb hr hlk hw hE dX12_worthOf_117
    · rw [if_neg h15] at hm
      exact wb_X12_worthOf_110 cx C X S0 n d rec hrec r S1 v12 S_8 _ _ _ hw hE  (lv_sub hl [1] rfl) hm
def b_X12_worthOf_19 (n : Nat) (rec : (Nat → Int32 → Int32 → Int32 → pq_S → Option (Int64 × pq_S))) (a0 : Nat) (x1 : Int32) (x2 : Int32) (x3 : Int32) (z0 : Int64) (S : pq_S) : Option (Int64 × pq_S) := if x2 = 0 then some (z0, S) else if x1 ≤ (pI S 1256 a0) then b_X12_worthOf_46 n rec a0 x1 x2 x3 z0 0 S else b_X12_worthOf_46 n rec a0 x1 x2 x3 z0 (x1 - (pI S 1256 a0)) S
set_option maxHeartbeats 4000000 in
set_option maxRecDepth 100000 in
theorem wb_X12_worthOf_19 {p : Program} {l : Launch} {e : Env} {s : State} {m : MethodId} {args : Array Value} {below : List Frame} {meth : Method} {c : Code} (cx : Cx p s m args meth c cX12_worthOf 11 RX12 (some .long)) (C : pq_C) (X : va_W) (S0 : pq_S) (n : Nat) (d : Nat) (rec : (Nat → Int32 → Int32 → Int32 → pq_S → Option (Int64 × pq_S))) (hrec : HG_worO n d rec) (r : Int64) (S1 : pq_S) : ∀ (a0 : Nat) (x1 : Int32) (x2 : Int32) (x3 : Int32) (z0 : Int64) (S : pq_S) (H : Heap) (locs : List Loc) (ls : Array Slot), PW C X S (pq_F C X S0 s.heap.size) H locs s → Ext S0 S → TY S a0 12 → lv_has ls 11 [(0, .ref a0), (1, .int x1), (2, .int x2), (3, .int x3)] → b_X12_worthOf_19 n rec a0 x1 x2 x3 z0 S = some (r, S1) → W p l e (rmg_worO (d + 1)) s m args below meth c H locs 0 0 (MQ below (QcJ C X S0 s.heap.size r S1) args s 0 0 (pq_F C X S0 s.heap.size)) (F0 m 19 ls [.long z0]) := by
  obtain ⟨hx, hb, hml, hown, hU, hr, hlk⟩ := id cx
  intro a0 x1 x2 x3 z0 S H locs ls hw hE Ta0 hl hm
  rw [b_X12_worthOf_19] at hm
  refine lv_lstore (lv' := [(4, .long z0), (0, .ref a0), (1, .int x1), (2, .int x2), (3, .int x3)]) hx hb dX12_worthOf_19 hl (by decide) rfl (fun ls hl => ?_)
  refine lv_iload_n hx hb dX12_worthOf_21 rfl (lv_at hl 3 rfl) ?_
  refine lv_if_ne (tgt := 28) hx hb dX12_worthOf_22 (by decide) (fun h2 => ?_) (fun h2 => ?_)
  · rw [if_neg h2] at hm
    refine lv_iload_n hx hb dX12_worthOf_28 rfl (lv_at hl 2 rfl) ?_
    refine lv_aload_n hx hb dX12_worthOf_29 rfl (lv_at hl 1 rfl) ?_
    refine pg_i (k := 12) (j := 56) (f := 1256) hx hb hown hU iu12 hw Ta0 (by decide) rfl (hU _ tw1527) rfl dX12_worthOf_30 ?_
    refine lv_icmp_le (tgt := 45) hx hb dX12_worthOf_33 (by decide) (fun h3 => ?_) (fun h3 => ?_)
    · rw [if_pos h3] at hm
      refine lv_iconst (v := 0) hx hb dX12_worthOf_45 (by decide) ?_
      exact wb_X12_worthOf_46 cx C X S0 n d rec hrec r S1 a0 x1 x2 x3 z0 0 S _ _ _ hw hE Ta0 (lv_sub hl [1, 2, 3, 4, 0] rfl) hm
    · rw [if_neg h3] at hm
      refine lv_iload_n hx hb dX12_worthOf_36 rfl (lv_at hl 2 rfl) ?_
      refine lv_aload_n hx hb dX12_worthOf_37 rfl (lv_at hl 1 rfl) ?_
      refine pg_i (k := 12) (j := 56) (f := 1256) hx hb hown hU iu12 hw Ta0 (by decide) rfl (hU _ tw1527) rfl dX12_worthOf_38 ?_
      refine lv_isub hx hb dX12_worthOf_41 ?_
      refine lv_goto (tgt := 46) hx hb dX12_worthOf_42 (by decide) ?_
      exact wb_X12_worthOf_46 cx C X S0 n d rec hrec r S1 a0 x1 x2 x3 z0 (x1 - (pI S 1256 a0)) S _ _ _ hw hE Ta0 (lv_sub hl [1, 2, 3, 4, 0] rfl) hm
  · rw [if_pos h2] at hm
    refine lv_lload hx hb dX12_worthOf_25 (lv_at hl 0 rfl) ?_
    cases hm
    exact pw_jret hx hb hr hlk hw hE dX12_worthOf_27
def g_X12_worthOf (n : Nat) (rec : (Nat → Int32 → Int32 → Int32 → pq_S → Option (Int64 × pq_S))) (a0 : Nat) (x1 : Int32) (x2 : Int32) (x3 : Int32) (S0 : pq_S) : Option (Int64 × pq_S) := if x1 ≤ (pI S0 1258 a0) then b_X12_worthOf_19 n rec a0 x1 x2 x3 0 S0 else b_X12_worthOf_19 n rec a0 x1 x2 x3 (Int32.toInt64 (x1 - (pI S0 1258 a0))) S0
set_option maxHeartbeats 4000000 in
set_option maxRecDepth 100000 in
theorem cg_X12_worthOf (n d : Nat) (rec : (Nat → Int32 → Int32 → Int32 → pq_S → Option (Int64 × pq_S))) (hrec : HG_worO n d rec) (l : Launch) (C : pq_C) (X : va_W) (S0 : pq_S) (hF : WF S0) (sz : Nat) (a0 : Nat) (x1 : Int32) (x2 : Int32) (x3 : Int32) (Ta0 : TY S0 a0 12) (r : Int64) (S1 : pq_S) (hm : g_X12_worthOf n rec a0 x1 x2 x3 S0 = some (r, S1)) : MJ l yX12_worthOf (.code yX12_worthOf cX12_worthOf 11 (some .long) :: pq_U) (rmg_worO (d + 1)) C X S0 sz [.ref a0, .int x1, .int x2, .int x3] r S1 0 0 := by
  refine Met.ofW (cc := cX12_worthOf) (maxL := 11) (ret := (some .long)) (by decide) rfl ?_
  intro p e s m args below meth c s₁ B hml hv
  obtain ⟨rfl, hv⟩ := hv
  have hsz := hv.1
  subst hsz
  have hw := pw_entry hF hv
  have hts := atoms_spec (ws := .code yX12_worthOf cX12_worthOf 11 (some .long) :: pq_U) B.pre
  have hU : ∀ w ∈ pq_U, w.before _ s = true := fun w h => hts w (List.mem_cons_of_mem _ h)
  have hx := B.exec
  have hb := B.bytes
  have hr := B.returns
  have hown : s.vm.findClass RX12 = some m.cls := findClass_of_methodNamed B.named
  have hlk := B.notSynchronized
  have hl := lv_entry ([.ref a0, .int x1, .int x2, .int x3]) (n := 11) (Nat.le_of_ble_eq_true rfl)
  rw [lg_entry_eq]
  generalize (lg_sl ([.ref a0, .int x1, .int x2, .int x3]) ++ List.replicate (11 - (lg_sl ([.ref a0, .int x1, .int x2, .int x3])).length) Slot.unset).toArray = ls at hl ⊢
  have hl : lv_has ls 11 [(0, .ref a0), (1, .int x1), (2, .int x2), (3, .int x3)] := hl
  have hE : Ext S0 S0 := Ext.rf _
  have cx : Cx p s m _ meth c cX12_worthOf 11 RX12 (some .long) := ⟨hx, hb, hml, hown, hU, hr, hlk⟩
  rw [g_X12_worthOf] at hm
  refine lv_iload_n hx hb dX12_worthOf_0 rfl (lv_at hl 1 rfl) ?_
  refine lv_aload_n hx hb dX12_worthOf_1 rfl (lv_at hl 0 rfl) ?_
  refine pg_i (k := 12) (j := 58) (f := 1258) hx hb hown hU iu12 hw Ta0 (by decide) rfl (hU _ tw1529) rfl dX12_worthOf_2 ?_
  refine lv_icmp_le (tgt := 18) hx hb dX12_worthOf_5 (by decide) (fun h1 => ?_) (fun h1 => ?_)
  · rw [if_pos h1] at hm
    refine lv_lconst (v := 0) hx hb dX12_worthOf_18 (by decide) ?_
    exact wb_X12_worthOf_19 cx C X S0 n d rec hrec r S1 a0 x1 x2 x3 0 S0 _ _ _ hw hE Ta0 (lv_sub hl [0, 1, 2, 3] rfl) hm
  · rw [if_neg h1] at hm
    refine lv_iload_n hx hb dX12_worthOf_8 rfl (lv_at hl 1 rfl) ?_
    refine lv_aload_n hx hb dX12_worthOf_9 rfl (lv_at hl 0 rfl) ?_
    refine pg_i (k := 12) (j := 58) (f := 1258) hx hb hown hU iu12 hw Ta0 (by decide) rfl (hU _ tw1529) rfl dX12_worthOf_10 ?_
    refine lv_isub hx hb dX12_worthOf_13 ?_
    refine lv_i2l (v := (Int32.toInt64 (x1 - (pI S0 1258 a0)))) hx hb dX12_worthOf_14 rfl ?_
    refine lv_goto (tgt := 19) hx hb dX12_worthOf_15 (by decide) ?_
    exact wb_X12_worthOf_19 cx C X S0 n d rec hrec r S1 a0 x1 x2 x3 (Int32.toInt64 (x1 - (pI S0 1258 a0))) S0 _ _ _ hw hE Ta0 (lv_sub hl [0, 1, 2, 3] rfl) hm
def m_worO_d (n : Nat) : Nat → ((Nat → Int32 → Int32 → Int32 → pq_S → Option (Int64 × pq_S)))
  | 0 => (fun _ _ _ _ _ => none)
  | d + 1 => (g_X12_worthOf n (m_worO_d n d))
theorem hg_worO (n : Nat) : ∀ d : Nat, HG_worO n d (m_worO_d n d) := by
  intro d
  induction d with
  | zero =>
    exact fun _ _ _ _ _ _ _ _ _ _ _ _ _ hm => by cases hm
  | succ d ih =>
    exact (fun q0 q1 q2 q3 q4 q5 q6 q7 q8 q9 q10 q11 q12 hm => cg_X12_worthOf n d _ ih q0 q1 q2 q3 q4 q5 q6 q7 q8 q9 q10 q11 q12 hm)
def m_X12_worthOf (n : Nat) (a0 : Nat) (x1 : Int32) (x2 : Int32) (x3 : Int32) (S : pq_S) : Option (Int64 × pq_S) := (m_worO_d n 64) a0 x1 x2 x3 S
abbrev rm_X12_worthOf : Room := { frames := 64, cells := 0, slots := 0, locals := 1920 }
theorem c_X12_worthOf (l : Launch) (C : pq_C) (X : va_W) (n : Nat) (S0 : pq_S) (hF : WF S0) (sz : Nat) (a0 : Nat) (x1 : Int32) (x2 : Int32) (x3 : Int32) (Ta0 : TY S0 a0 12) (r : Int64) (S1 : pq_S) (hm : m_X12_worthOf n a0 x1 x2 x3 S0 = some (r, S1)) : MJ l yX12_worthOf (.code yX12_worthOf cX12_worthOf 11 (some .long) :: pq_U) rm_X12_worthOf C X S0 sz [.ref a0, .int x1, .int x2, .int x3] r S1 0 0 := (hg_worO n 64) l C X S0 hF sz a0 x1 x2 x3 Ta0 r S1 hm
abbrev rmg_fitO (d : Nat) : Room := { frames := 0 + d, cells := 0, slots := 0, locals := 0 + d * 25 }
theorem rmg_fitO_l (d : Nat) {q : Nat} (h : q ≤ 6) : 8 + (q + 11) + (rmg_fitO d).locals ≤ (rmg_fitO (d + 1)).locals := by show 8 + (q + 11) + (0 + d * 25) ≤ 0 + (d + 1) * 25; omega
theorem tc_X12_fitsOn : Cond.code yX12_fitsOn cX12_fitsOn 6 (some .boolean) ∈ pq_U := tw2020
theorem cd_X12_fitsOn : yX12_fitsOn.cls = RX12 ∧ yX12_fitsOn.cls ≠ "java/lang/invoke/MethodHandle" ∧ yX12_fitsOn.cls ≠ "java/lang/invoke/VarHandle" ∧ (parseMethodDescriptor yX12_fitsOn.desc).map (fun d => d.parameters.length) = some 2 := by decide +kernel
def HG_fitO (n d : Nat) (rec : (Nat → Int32 → Int32 → pq_S → Option (Int32 × pq_S))) : Prop := (∀ (l : Launch) (C : pq_C) (X : va_W) (S0 : pq_S) (_ : WF S0) (sz : Nat) (a0 : Nat) (x1 : Int32) (x2 : Int32) (_Ta0 : TY S0 a0 12) (r : Int32) (S1 : pq_S), rec a0 x1 x2 S0 = some (r, S1) → MZ l yX12_fitsOn (.code yX12_fitsOn cX12_fitsOn 6 (some .boolean) :: pq_U) (rmg_fitO d) C X S0 sz [.ref a0, .int x1, .int x2] r S1 0 0)
def b_X12_fitsOn_101 (n : Nat) (rec : (Nat → Int32 → Int32 → pq_S → Option (Int32 × pq_S))) (k20 : Nat → Int32 → Int32 → Int32 → Int32 → pq_S → Option (Int32 × pq_S)) (a0 : Nat) (x1 : Int32) (x2 : Int32) (x3 : Int32) (x4 : Int32) (S : pq_S) : Option (Int32 × pq_S) := k20 a0 x1 x2 x3 (x4 + 1) S
set_option maxHeartbeats 4000000 in
set_option maxRecDepth 100000 in
theorem wb_X12_fitsOn_101 {p : Program} {l : Launch} {e : Env} {s : State} {m : MethodId} {args : Array Value} {below : List Frame} {meth : Method} {c : Code} (cx : Cx p s m args meth c cX12_fitsOn 6 RX12 (some .boolean)) (C : pq_C) (X : va_W) (S0 : pq_S) (n : Nat) (d : Nat) (rec : (Nat → Int32 → Int32 → pq_S → Option (Int32 × pq_S))) (hrec : HG_fitO n d rec) (r : Int32) (S1 : pq_S) (k20 : Nat → Int32 → Int32 → Int32 → Int32 → pq_S → Option (Int32 × pq_S)) (hk20 : ∀ (a0 : Nat) (x1 : Int32) (x2 : Int32) (x3 : Int32) (x4 : Int32) (S : pq_S) (H : Heap) (locs : List Loc) (ls : Array Slot), PW C X S (pq_F C X S0 s.heap.size) H locs s → Ext S0 S → TY S a0 12 → lv_has ls 6 [(0, .ref a0), (1, .int x1), (2, .int x2), (3, .int x3), (4, .int x4)] → k20 a0 x1 x2 x3 x4 S = some (r, S1) → W p l e (rmg_fitO (d + 1)) s m args below meth c H locs 0 0 (MQ below (QcZ C X S0 s.heap.size r S1) args s 0 0 (pq_F C X S0 s.heap.size)) (F0 m 29 ls [])) : ∀ (a0 : Nat) (x1 : Int32) (x2 : Int32) (x3 : Int32) (x4 : Int32) (S : pq_S) (H : Heap) (locs : List Loc) (ls : Array Slot), PW C X S (pq_F C X S0 s.heap.size) H locs s → Ext S0 S → TY S a0 12 → lv_has ls 6 [(0, .ref a0), (1, .int x1), (2, .int x2), (3, .int x3), (4, .int x4)] → b_X12_fitsOn_101 n rec k20 a0 x1 x2 x3 x4 S = some (r, S1) → W p l e (rmg_fitO (d + 1)) s m args below meth c H locs 0 0 (MQ below (QcZ C X S0 s.heap.size r S1) args s 0 0 (pq_F C X S0 s.heap.size)) (F0 m 101 ls []) := by
  obtain ⟨hx, hb, hml, hown, hU, hr, hlk⟩ := id cx
  intro a0 x1 x2 x3 x4 S H locs ls hw hE Ta0 hl hm
  rw [b_X12_fitsOn_101] at hm
  refine lv_iinc (v := (x4 + 1)) (lv' := [(4, .int (x4 + 1)), (0, .ref a0), (1, .int x1), (2, .int x2), (3, .int x3)]) hx hb dX12_fitsOn_101 hl (k := 4) rfl rfl (by decide) rfl (fun ls hl => ?_)
  refine lv_goto (tgt := 29) hx hb dX12_fitsOn_104 (by decide) ?_
  exact hk20 a0 x1 x2 x3 (x4 + 1) S _ _ _ hw hE Ta0 (lv_sub hl [1, 2, 3, 4, 0] rfl) hm
def b_X12_fitsOn_29 (n : Nat) (rec : (Nat → Int32 → Int32 → pq_S → Option (Int32 × pq_S))) : Nat → Nat → Int32 → Int32 → Int32 → Int32 → pq_S → Option (Int32 × pq_S)
  | 0, _, _, _, _, _, _ => none
  | f + 1, a0, x1, x2, x3, x4, S => if x2 ≤ x4 then some (0, S) else Option.bind (pR S 1260 a0) fun q8 => ck (ix x4 (pN S q8)) (dix _ _) (if x3 ≤ (pA S q8 (Int32.toNatClampNeg x4)) then Option.bind (pR S 1260 a0) fun q11 => ck (ix x4 (pN S q11)) (dix _ _) (ck (ix x4 (pN S q11)) (dix _ _) (lt_ (sA S q11 (Int32.toNatClampNeg x4) ((pA S q11 (Int32.toNatClampNeg x4)) - x3)) fun S_14 => Option.bind (pR S_14 1259 a0) fun q15 => Option.bind (pR S_14 1252 a0) fun q16 => ck (ix x1 (pN S_14 q16)) (dix _ _) (ck (ix (pA S_14 q16 (Int32.toNatClampNeg x1)) (pN S_14 q15)) (dix _ _) (lt_ (sA S_14 q15 (Int32.toNatClampNeg (pA S_14 q16 (Int32.toNatClampNeg x1))) x4) fun S_19 => cb (rec a0 (x1 + (1 : Int32)) x2 S_19) fun r22 S_20 => Option.bind (pR S_20 1260 a0) fun q25 => ck (ix x4 (pN S_20 q25)) (dix _ _) (ck (ix x4 (pN S_20 q25)) (dix _ _) (lt_ (sA S_20 q25 (Int32.toNatClampNeg x4) ((pA S_20 q25 (Int32.toNatClampNeg x4)) + x3)) fun S_28 => if r22 = 0 then b_X12_fitsOn_101 n rec (b_X12_fitsOn_29 n rec f) a0 x1 x2 x3 x4 S_28 else some (1, S_28))))))) else b_X12_fitsOn_101 n rec (b_X12_fitsOn_29 n rec f) a0 x1 x2 x3 x4 S)
set_option maxHeartbeats 4000000 in
set_option maxRecDepth 100000 in
theorem wb_X12_fitsOn_29 {p : Program} {l : Launch} {e : Env} {s : State} {m : MethodId} {args : Array Value} {below : List Frame} {meth : Method} {c : Code} (cx : Cx p s m args meth c cX12_fitsOn 6 RX12 (some .boolean)) (C : pq_C) (X : va_W) (S0 : pq_S) (n : Nat) (d : Nat) (rec : (Nat → Int32 → Int32 → pq_S → Option (Int32 × pq_S))) (hrec : HG_fitO n d rec) (r : Int32) (S1 : pq_S) : ∀ (f : Nat) (a0 : Nat) (x1 : Int32) (x2 : Int32) (x3 : Int32) (x4 : Int32) (S : pq_S) (H : Heap) (locs : List Loc) (ls : Array Slot), PW C X S (pq_F C X S0 s.heap.size) H locs s → Ext S0 S → TY S a0 12 → lv_has ls 6 [(0, .ref a0), (1, .int x1), (2, .int x2), (3, .int x3), (4, .int x4)] → b_X12_fitsOn_29 n rec f a0 x1 x2 x3 x4 S = some (r, S1) → W p l e (rmg_fitO (d + 1)) s m args below meth c H locs 0 0 (MQ below (QcZ C X S0 s.heap.size r S1) args s 0 0 (pq_F C X S0 s.heap.size)) (F0 m 29 ls []) := by
  obtain ⟨hx, hb, hml, hown, hU, hr, hlk⟩ := id cx
  intro f
  induction f with
  | zero =>
    intro a0 x1 x2 x3 x4 S H locs ls hw hE Ta0 hl hm
    cases hm
  | succ f ih =>
    intro a0 x1 x2 x3 x4 S H locs ls hw hE Ta0 hl hm
    rw [b_X12_fitsOn_29] at hm
    refine lv_iload hx hb dX12_fitsOn_29 (lv_at hl 4 rfl) ?_
    refine lv_iload_n hx hb dX12_fitsOn_31 rfl (lv_at hl 2 rfl) ?_
    refine lv_icmp_ge (tgt := 107) hx hb dX12_fitsOn_32 (by decide) (fun h7 => ?_) (fun h7 => ?_)
    · rw [if_pos h7] at hm
      refine lv_iconst (v := 0) hx hb dX12_fitsOn_107 (by decide) ?_
      cases hm
      exact pw_zret hx hb hr bz_0 hlk hw hE dX12_fitsOn_108
    · rw [if_neg h7] at hm
      refine lv_aload_n hx hb dX12_fitsOn_35 rfl (lv_at hl 0 rfl) ?_
      obtain ⟨q8, hq8, hm⟩ := bd_some hm
      have Tq8 : TY S q8 14 := hw.wf.ref (k := 12) (j := 60) Ta0 (by decide) (by decide) hq8
      refine pg_rb (k := 12) (j := 60) (f := 1260) hx hb hown hU iu12 hw Ta0 (by decide) rfl (hU _ tw1531) rfl hq8 dX12_fitsOn_36 ?_
      refine lv_iload hx hb dX12_fitsOn_39 (lv_at hl 4 rfl) ?_
      obtain ⟨hi9, hm⟩ := ck_some hm
      refine pw_iald hx hb hw Tq8 hi9 dX12_fitsOn_41 ?_
      refine lv_iload_n hx hb dX12_fitsOn_42 rfl (lv_at hl 3 rfl) ?_
      refine lv_icmp_ge (tgt := 49) hx hb dX12_fitsOn_43 (by decide) (fun h10 => ?_) (fun h10 => ?_)
      · rw [if_pos h10] at hm
        refine lv_aload_n hx hb dX12_fitsOn_49 rfl (lv_at hl 0 rfl) ?_
        obtain ⟨q11, hq11, hm⟩ := bd_some hm
        have Tq11 : TY S q11 14 := hw.wf.ref (k := 12) (j := 60) Ta0 (by decide) (by decide) hq11
        refine pg_rb (k := 12) (j := 60) (f := 1260) hx hb hown hU iu12 hw Ta0 (by decide) rfl (hU _ tw1531) rfl hq11 dX12_fitsOn_50 ?_
        refine lv_iload hx hb dX12_fitsOn_53 (lv_at hl 4 rfl) ?_
        refine lv_dup2_11 hx hb dX12_fitsOn_55 rfl rfl ?_
        obtain ⟨hi12, hm⟩ := ck_some hm
        refine pw_iald hx hb hw Tq11 hi12 dX12_fitsOn_56 ?_
        refine lv_iload_n hx hb dX12_fitsOn_57 rfl (lv_at hl 3 rfl) ?_
        refine lv_isub hx hb dX12_fitsOn_58 ?_
        obtain ⟨hi13, hm⟩ := ck_some hm
        refine pw_iast hx hb hw Tq11 hi13 dX12_fitsOn_59 (fun H locs hw => ?_)
        obtain ⟨S_14, eS_14, hm⟩ := lt_some hm
        rw [← eS_14] at hw
        have Ta0 : TY S_14 a0 12 := by rw [eS_14]; exact Ta0
        have hE : Ext S0 S_14 := by rw [eS_14]; exact hE
        refine lv_aload_n hx hb dX12_fitsOn_60 rfl (lv_at hl 0 rfl) ?_
        obtain ⟨q15, hq15, hm⟩ := bd_some hm
        have Tq15 : TY S_14 q15 14 := hw.wf.ref (k := 12) (j := 59) Ta0 (by decide) (by decide) hq15
        refine pg_rb (k := 12) (j := 59) (f := 1259) hx hb hown hU iu12 hw Ta0 (by decide) rfl (hU _ tw1530) rfl hq15 dX12_fitsOn_61 ?_
        refine lv_aload_n hx hb dX12_fitsOn_64 rfl (lv_at hl 0 rfl) ?_
        obtain ⟨q16, hq16, hm⟩ := bd_some hm
        have Tq16 : TY S_14 q16 14 := hw.wf.ref (k := 12) (j := 52) Ta0 (by decide) (by decide) hq16
        refine pg_rb (k := 12) (j := 52) (f := 1252) hx hb hown hU iu12 hw Ta0 (by decide) rfl (hU _ tw1523) rfl hq16 dX12_fitsOn_65 ?_
        refine lv_iload_n hx hb dX12_fitsOn_68 rfl (lv_at hl 1 rfl) ?_
        obtain ⟨hi17, hm⟩ := ck_some hm
        refine pw_iald hx hb hw Tq16 hi17 dX12_fitsOn_69 ?_
        refine lv_iload hx hb dX12_fitsOn_70 (lv_at hl 4 rfl) ?_
        obtain ⟨hi18, hm⟩ := ck_some hm
        refine pw_iast hx hb hw Tq15 hi18 dX12_fitsOn_72 (fun H locs hw => ?_)
        obtain ⟨S_19, eS_19, hm⟩ := lt_some hm
        rw [← eS_19] at hw
        have Ta0 : TY S_19 a0 12 := by rw [eS_19]; exact Ta0
        have hE : Ext S0 S_19 := by rw [eS_19]; exact hE
        refine lv_aload_n hx hb dX12_fitsOn_73 rfl (lv_at hl 0 rfl) ?_
        refine lv_iload_n hx hb dX12_fitsOn_74 rfl (lv_at hl 1 rfl) ?_
        refine lv_iconst (v := 1) hx hb dX12_fitsOn_75 (by decide) ?_
        refine lv_iadd hx hb dX12_fitsOn_76 ?_
        refine lv_iload_n hx hb dX12_fitsOn_77 rfl (lv_at hl 2 rfl) ?_
        obtain ⟨r22, S_20, hq21, hm⟩ := cb_some hm
        refine pw_cz (va_runV (As := [.int (x1 + (1 : Int32)), .int x2]) (rest := []) ⟨hx, hb, hml, hown, hU⟩ (hrec l C X S_19 hw.wf _ a0 (x1 + (1 : Int32)) x2 (Ta0) r22 S_20 hq21) (cwV 2 hU (pq_gV tw2017 tw2019 ts170 tw14 tc_X12_fitsOn) rfl rfl rfl cd_X12_fitsOn ⟨Nat.le_refl _, rmg_fitO_l d (by decide)⟩) (pw_preV hw Ta0 (by decide) rfl) rfl rfl hl.1 rfl (lv_room (Nat.le_of_ble_eq_true rfl)) dX12_fitsOn_78 ⟨Nat.zero_le _, Nat.zero_le _⟩) hw (fun H locs hw hx23 hz24 => ?_)
        have Ta0 : TY S_20 a0 12 := ty_ext hx23 Ta0
        have hE : Ext S0 S_20 := Ext.tr hE hx23
        refine lv_istore (lv' := [(5, .int r22), (0, .ref a0), (1, .int x1), (2, .int x2), (3, .int x3), (4, .int x4)]) hx hb dX12_fitsOn_81 hl (by decide) rfl (fun ls hl => ?_)
        refine lv_aload_n hx hb dX12_fitsOn_83 rfl (lv_at hl 1 rfl) ?_
        obtain ⟨q25, hq25, hm⟩ := bd_some hm
        have Tq25 : TY S_20 q25 14 := hw.wf.ref (k := 12) (j := 60) Ta0 (by decide) (by decide) hq25
        refine pg_rb (k := 12) (j := 60) (f := 1260) hx hb hown hU iu12 hw Ta0 (by decide) rfl (hU _ tw1531) rfl hq25 dX12_fitsOn_84 ?_
        refine lv_iload hx hb dX12_fitsOn_87 (lv_at hl 5 rfl) ?_
        refine lv_dup2_11 hx hb dX12_fitsOn_89 rfl rfl ?_
        obtain ⟨hi26, hm⟩ := ck_some hm
        refine pw_iald hx hb hw Tq25 hi26 dX12_fitsOn_90 ?_
        refine lv_iload_n hx hb dX12_fitsOn_91 rfl (lv_at hl 4 rfl) ?_
        refine lv_iadd hx hb dX12_fitsOn_92 ?_
        obtain ⟨hi27, hm⟩ := ck_some hm
        refine pw_iast hx hb hw Tq25 hi27 dX12_fitsOn_93 (fun H locs hw => ?_)
        obtain ⟨S_28, eS_28, hm⟩ := lt_some hm
        rw [← eS_28] at hw
        have Ta0 : TY S_28 a0 12 := by rw [eS_28]; exact Ta0
        have hE : Ext S0 S_28 := by rw [eS_28]; exact hE
        refine lv_iload hx hb dX12_fitsOn_94 (lv_at hl 0 rfl) ?_
        refine lv_if_eq (tgt := 101) hx hb dX12_fitsOn_96 (by decide) (fun h29 => ?_) (fun h29 => ?_)
        · rw [if_pos h29] at hm
          exact wb_X12_fitsOn_101 cx C X S0 n d rec hrec r S1 _ ih a0 x1 x2 x3 x4 S_28 _ _ _ hw hE Ta0 (lv_sub hl [1, 2, 3, 4, 5] rfl) hm
        · rw [if_neg h29] at hm
          refine lv_iconst (v := 1) hx hb dX12_fitsOn_99 (by decide) ?_
          cases hm
          exact pw_zret hx hb hr bz_1 hlk hw hE dX12_fitsOn_100
      · rw [if_neg h10] at hm
        refine lv_goto (tgt := 101) hx hb dX12_fitsOn_46 (by decide) ?_
        exact wb_X12_fitsOn_101 cx C X S0 n d rec hrec r S1 _ ih a0 x1 x2 x3 x4 S _ _ _ hw hE Ta0 (lv_sub hl [0, 1, 2, 3, 4] rfl) hm
def g_X12_fitsOn (n : Nat) (rec : (Nat → Int32 → Int32 → pq_S → Option (Int32 × pq_S))) (a0 : Nat) (x1 : Int32) (x2 : Int32) (S0 : pq_S) : Option (Int32 × pq_S) := if x1 = (pI S0 1261 a0) then some (1, S0) else Option.bind (pR S0 1215 a0) fun q2 => Option.bind (pR S0 1252 a0) fun q3 => ck (ix x1 (pN S0 q3)) (dix _ _) (ck (ix (((4 : Int32) * (pA S0 q3 (Int32.toNatClampNeg x1))) + (1 : Int32)) (pN S0 q2)) (dix _ _) (lt_ (pA S0 q2 (Int32.toNatClampNeg (((4 : Int32) * (pA S0 q3 (Int32.toNatClampNeg x1))) + (1 : Int32)))) fun v6 => b_X12_fitsOn_29 n rec n a0 x1 x2 v6 0 S0))
set_option maxHeartbeats 4000000 in
set_option maxRecDepth 100000 in
theorem cg_X12_fitsOn (n d : Nat) (rec : (Nat → Int32 → Int32 → pq_S → Option (Int32 × pq_S))) (hrec : HG_fitO n d rec) (l : Launch) (C : pq_C) (X : va_W) (S0 : pq_S) (hF : WF S0) (sz : Nat) (a0 : Nat) (x1 : Int32) (x2 : Int32) (Ta0 : TY S0 a0 12) (r : Int32) (S1 : pq_S) (hm : g_X12_fitsOn n rec a0 x1 x2 S0 = some (r, S1)) : MZ l yX12_fitsOn (.code yX12_fitsOn cX12_fitsOn 6 (some .boolean) :: pq_U) (rmg_fitO (d + 1)) C X S0 sz [.ref a0, .int x1, .int x2] r S1 0 0 := by
  refine Met.ofW (cc := cX12_fitsOn) (maxL := 6) (ret := (some .boolean)) (by decide) rfl ?_
  intro p e s m args below meth c s₁ B hml hv
  obtain ⟨rfl, hv⟩ := hv
  have hsz := hv.1
  subst hsz
  have hw := pw_entry hF hv
  have hts := atoms_spec (ws := .code yX12_fitsOn cX12_fitsOn 6 (some .boolean) :: pq_U) B.pre
  have hU : ∀ w ∈ pq_U, w.before _ s = true := fun w h => hts w (List.mem_cons_of_mem _ h)
  have hx := B.exec
  have hb := B.bytes
  have hr := B.returns
  have hown : s.vm.findClass RX12 = some m.cls := findClass_of_methodNamed B.named
  have hlk := B.notSynchronized
  have hl := lv_entry ([.ref a0, .int x1, .int x2]) (n := 6) (Nat.le_of_ble_eq_true rfl)
  rw [lg_entry_eq]
  generalize (lg_sl ([.ref a0, .int x1, .int x2]) ++ List.replicate (6 - (lg_sl ([.ref a0, .int x1, .int x2])).length) Slot.unset).toArray = ls at hl ⊢
  have hl : lv_has ls 6 [(0, .ref a0), (1, .int x1), (2, .int x2)] := hl
  have hE : Ext S0 S0 := Ext.rf _
  have cx : Cx p s m _ meth c cX12_fitsOn 6 RX12 (some .boolean) := ⟨hx, hb, hml, hown, hU, hr, hlk⟩
  rw [g_X12_fitsOn] at hm
  refine lv_iload_n hx hb dX12_fitsOn_0 rfl (lv_at hl 1 rfl) ?_
  refine lv_aload_n hx hb dX12_fitsOn_1 rfl (lv_at hl 0 rfl) ?_
  refine pg_i (k := 12) (j := 61) (f := 1261) hx hb hown hU iu12 hw Ta0 (by decide) rfl (hU _ tw1532) rfl dX12_fitsOn_2 ?_
  refine lv_icmp_ne (tgt := 10) hx hb dX12_fitsOn_5 (by decide) (fun h1 => ?_) (fun h1 => ?_)
  · rw [if_neg h1] at hm
    refine lv_aload_n hx hb dX12_fitsOn_10 rfl (lv_at hl 0 rfl) ?_
    obtain ⟨q2, hq2, hm⟩ := bd_some hm
    have Tq2 : TY S0 q2 14 := hw.wf.ref (k := 12) (j := 15) Ta0 (by decide) (by decide) hq2
    refine pg_rb (k := 12) (j := 15) (f := 1215) hx hb hown hU iu12 hw Ta0 (by decide) rfl (hU _ tw1486) rfl hq2 dX12_fitsOn_11 ?_
    refine lv_iconst (v := 4) hx hb dX12_fitsOn_14 (by decide) ?_
    refine lv_aload_n hx hb dX12_fitsOn_15 rfl (lv_at hl 0 rfl) ?_
    obtain ⟨q3, hq3, hm⟩ := bd_some hm
    have Tq3 : TY S0 q3 14 := hw.wf.ref (k := 12) (j := 52) Ta0 (by decide) (by decide) hq3
    refine pg_rb (k := 12) (j := 52) (f := 1252) hx hb hown hU iu12 hw Ta0 (by decide) rfl (hU _ tw1523) rfl hq3 dX12_fitsOn_16 ?_
    refine lv_iload_n hx hb dX12_fitsOn_19 rfl (lv_at hl 1 rfl) ?_
    obtain ⟨hi4, hm⟩ := ck_some hm
    refine pw_iald hx hb hw Tq3 hi4 dX12_fitsOn_20 ?_
    refine lv_imul hx hb dX12_fitsOn_21 ?_
    refine lv_iconst (v := 1) hx hb dX12_fitsOn_22 (by decide) ?_
    refine lv_iadd hx hb dX12_fitsOn_23 ?_
    obtain ⟨hi5, hm⟩ := ck_some hm
    refine pw_iald hx hb hw Tq2 hi5 dX12_fitsOn_24 ?_
    obtain ⟨v6, ev6, hm⟩ := lt_some hm
    refine lv_nmI ev6 ?_
    refine lv_istore_n (lv' := [(3, .int v6), (0, .ref a0), (1, .int x1), (2, .int x2)]) hx hb dX12_fitsOn_25 rfl hl (by decide) rfl (fun ls hl => ?_)
    refine lv_iconst (v := 0) hx hb dX12_fitsOn_26 (by decide) ?_
    refine lv_istore (lv' := [(4, .int 0), (3, .int v6), (0, .ref a0), (1, .int x1), (2, .int x2)]) hx hb dX12_fitsOn_27 hl (by decide) rfl (fun ls hl => ?_)
    exact wb_X12_fitsOn_29 cx C X S0 n d rec hrec r S1 n a0 x1 x2 v6 0 S0 _ _ _ hw hE Ta0 (lv_sub hl [2, 3, 4, 1, 0] rfl) hm
  · rw [if_pos h1] at hm
    refine lv_iconst (v := 1) hx hb dX12_fitsOn_8 (by decide) ?_
    cases hm
    exact pw_zret hx hb hr bz_1 hlk hw hE dX12_fitsOn_9
def m_fitO_d (n : Nat) : Nat → ((Nat → Int32 → Int32 → pq_S → Option (Int32 × pq_S)))
  | 0 => (fun _ _ _ _ => none)
  | d + 1 => (g_X12_fitsOn n (m_fitO_d n d))
theorem hg_fitO (n : Nat) : ∀ d : Nat, HG_fitO n d (m_fitO_d n d) := by
  intro d
  induction d with
  | zero =>
    exact fun _ _ _ _ _ _ _ _ _ _ _ _ hm => by cases hm
  | succ d ih =>
    exact (fun q0 q1 q2 q3 q4 q5 q6 q7 q8 q9 q10 q11 hm => cg_X12_fitsOn n d _ ih q0 q1 q2 q3 q4 q5 q6 q7 q8 q9 q10 q11 hm)
def m_X12_fitsOn (n : Nat) (a0 : Nat) (x1 : Int32) (x2 : Int32) (S : pq_S) : Option (Int32 × pq_S) := (m_fitO_d n 64) a0 x1 x2 S
abbrev rm_X12_fitsOn : Room := { frames := 64, cells := 0, slots := 0, locals := 1600 }
theorem c_X12_fitsOn (l : Launch) (C : pq_C) (X : va_W) (n : Nat) (S0 : pq_S) (hF : WF S0) (sz : Nat) (a0 : Nat) (x1 : Int32) (x2 : Int32) (Ta0 : TY S0 a0 12) (r : Int32) (S1 : pq_S) (hm : m_X12_fitsOn n a0 x1 x2 S0 = some (r, S1)) : MZ l yX12_fitsOn (.code yX12_fitsOn cX12_fitsOn 6 (some .boolean) :: pq_U) rm_X12_fitsOn C X S0 sz [.ref a0, .int x1, .int x2] r S1 0 0 := (hg_fitO n 64) l C X S0 hF sz a0 x1 x2 Ta0 r S1 hm
