abbrev rm_X0_clear : Room := { frames := 1, cells := 0, slots := 0, locals := 23 }
def m_X0_clear (n : Nat) (a0 : Nat) (S0 : pq_S) : Option pq_S := Option.bind (pR (sI S0 1 a0 0) 0 a0) fun q1 => Option.bind (m_J7_fill_53178 n q1 (-1) (sI S0 1 a0 0)) fun S_2 => some S_2
theorem tc_X0_clear : Cond.code yX0_clear cX0_clear 1 none ∈ pq_U := tw729
theorem cd_X0_clear : yX0_clear.cls = RX0 ∧ yX0_clear.cls ≠ "java/lang/invoke/MethodHandle" ∧ yX0_clear.cls ≠ "java/lang/invoke/VarHandle" ∧ (parseMethodDescriptor yX0_clear.desc).map (fun d => d.parameters.length) = some 0 := by decide +kernel
set_option maxHeartbeats 4000000 in
set_option maxRecDepth 100000 in
theorem c_X0_clear (l : Launch) (C : pq_C) (X : va_W) (n : Nat) (S0 : pq_S) (hF : WF S0) (sz : Nat) (a0 : Nat) (Ta0 : TY S0 a0 0) (S1 : pq_S) (hm : m_X0_clear n a0 S0 = some S1) : MV l yX0_clear (.code yX0_clear cX0_clear 1 none :: pq_U) rm_X0_clear C X S0 sz [.ref a0] S1 0 0 := by
  refine Met.ofW (cc := cX0_clear) (maxL := 1) (ret := none) (by decide) rfl ?_
  intro p e s m args below meth c s₁ B hml hv
  obtain ⟨rfl, hv⟩ := hv
  have hsz := hv.1
  subst hsz
  have hw := pw_entry hF hv
  have hts := atoms_spec (ws := .code yX0_clear cX0_clear 1 none :: pq_U) B.pre
  have hU : ∀ w ∈ pq_U, w.before _ s = true := fun w h => hts w (List.mem_cons_of_mem _ h)
  have hx := B.exec
  have hb := B.bytes
  have hr := B.returns
  have hown : s.vm.findClass RX0 = some m.cls := findClass_of_methodNamed B.named
  have hlk := B.notSynchronized
  have hl := lv_entry ([.ref a0]) (n := 1) (Nat.le_of_ble_eq_true rfl)
  rw [lg_entry_eq]
  generalize (lg_sl ([.ref a0]) ++ List.replicate (1 - (lg_sl ([.ref a0])).length) Slot.unset).toArray = ls at hl ⊢
  have hl : lv_has ls 1 [(0, .ref a0)] := hl
  have hE : Ext S0 S0 := Ext.rf _
  have cx : Cx p s m _ meth c cX0_clear 1 RX0 none := ⟨hx, hb, hml, hown, hU, hr, hlk⟩
  rw [m_X0_clear] at hm
  refine lv_aload_n hx hb dX0_clear_0 rfl (lv_at hl 0 rfl) ?_
  refine lv_iconst (v := 0) hx hb dX0_clear_1 (by decide) ?_
  refine pp_i (k := 0) (j := 1) (f := 1) hx hb hown hU iu0 tyX0_ok nmX0 hw Ta0 (by decide) rfl (hU _ tw339) rfl rfl rfl dX0_clear_2 (fun H locs hw => ?_)
  refine lv_aload_n hx hb dX0_clear_5 rfl (lv_at hl 0 rfl) ?_
  obtain ⟨q1, hq1, hm⟩ := bd_some hm
  have Tq1 : TY (sI S0 1 a0 0) q1 14 := hw.wf.ref (k := 0) (j := 0) Ta0 (by decide) (by decide) hq1
  refine pg_rb (k := 0) (j := 0) (f := 0) hx hb hown hU iu0 hw Ta0 (by decide) rfl (hU _ tw338) rfl hq1 dX0_clear_6 ?_
  refine lv_iconst (v := (-1)) hx hb dX0_clear_9 (by decide) ?_
  obtain ⟨S_2, hq3, hm⟩ := bd_some hm
  refine pw_cv (va_runS (As := [.ref q1, .int (-1)]) (rest := []) ⟨hx, hb, hml, hown, hU⟩ (c_J7_fill_53178 l C X n (sI S0 1 a0 0) hw.wf _ q1 (-1) (Tq1) S_2 hq3) ⟨callB_of 2 hU (pq_g1 tc_J7_fill_53178) rfl rfl rfl (hU _ tw12) (hU _ tw335) cd_J7_fill_53178.2 ⟨Nat.le_of_ble_eq_true rfl, Nat.le_of_ble_eq_true rfl⟩, hU _ tw336⟩ (pw_preS hw) rfl rfl hl.1 rfl (lv_room (Nat.le_of_ble_eq_true rfl)) dX0_clear_10 ⟨Nat.zero_le _, Nat.zero_le _⟩) hw (fun H locs hw hx4 => ?_)
  have Ta0 : TY S_2 a0 0 := ty_ext hx4 Ta0
  have hE : Ext S0 S_2 := Ext.tr hE hx4
  cases hm
  exact pw_vret hx hb hr hlk hw hE dX0_clear_13
abbrev rm_X0_copyFrom : Room := { frames := 1, cells := 0, slots := 0, locals := 80 }
def m_X0_copyFrom (n : Nat) (a0 : Nat) (a1 : Nat) (S0 : pq_S) : Option pq_S := Option.bind (pR (sI S0 1 a0 (pI S0 1 a1)) 0 a1) fun q1 => Option.bind (pR (sI S0 1 a0 (pI S0 1 a1)) 0 a0) fun q2 => Option.bind (pR (sI S0 1 a0 (pI S0 1 a1)) 0 a1) fun q3 => Option.bind (pR (sI S0 1 a0 (pI S0 1 a1)) 0 a0) fun q4 => ck (cpk 0 0 (if (Int32.ofNat (pN (sI S0 1 a0 (pI S0 1 a1)) q4)) < (Int32.ofNat (pN (sI S0 1 a0 (pI S0 1 a1)) q3)) then (Int32.ofNat (pN (sI S0 1 a0 (pI S0 1 a1)) q4)) else (Int32.ofNat (pN (sI S0 1 a0 (pI S0 1 a1)) q3))) (pN (sI S0 1 a0 (pI S0 1 a1)) q1) (pN (sI S0 1 a0 (pI S0 1 a1)) q2)) (dcpk _ _ _ _ _) (lt_ (sF (sI S0 1 a0 (pI S0 1 a1)) q2 (va_cpy (pA (sI S0 1 a0 (pI S0 1 a1)) q1) (pA (sI S0 1 a0 (pI S0 1 a1)) q2) (Int32.toNatClampNeg 0) (Int32.toNatClampNeg 0) (Int32.toNatClampNeg (if (Int32.ofNat (pN (sI S0 1 a0 (pI S0 1 a1)) q4)) < (Int32.ofNat (pN (sI S0 1 a0 (pI S0 1 a1)) q3)) then (Int32.ofNat (pN (sI S0 1 a0 (pI S0 1 a1)) q4)) else (Int32.ofNat (pN (sI S0 1 a0 (pI S0 1 a1)) q3)))))) fun S_6 => some S_6)
theorem tc_X0_copyFrom : Cond.code yX0_copyFrom cX0_copyFrom 2 none ∈ pq_U := tw974
theorem cd_X0_copyFrom : yX0_copyFrom.cls = RX0 ∧ yX0_copyFrom.cls ≠ "java/lang/invoke/MethodHandle" ∧ yX0_copyFrom.cls ≠ "java/lang/invoke/VarHandle" ∧ (parseMethodDescriptor yX0_copyFrom.desc).map (fun d => d.parameters.length) = some 1 := by decide +kernel
set_option maxHeartbeats 4000000 in
set_option maxRecDepth 100000 in
theorem c_X0_copyFrom (l : Launch) (C : pq_C) (X : va_W) (n : Nat) (S0 : pq_S) (hF : WF S0) (sz : Nat) (a0 : Nat) (a1 : Nat) (Ta0 : TY S0 a0 0) (Ta1 : TY S0 a1 0) (S1 : pq_S) (hm : m_X0_copyFrom n a0 a1 S0 = some S1) : MV l yX0_copyFrom (.code yX0_copyFrom cX0_copyFrom 2 none :: pq_U) rm_X0_copyFrom C X S0 sz [.ref a0, .ref a1] S1 0 0 := by
  refine Met.ofW (cc := cX0_copyFrom) (maxL := 2) (ret := none) (by decide) rfl ?_
  intro p e s m args below meth c s₁ B hml hv
  obtain ⟨rfl, hv⟩ := hv
  have hsz := hv.1
  subst hsz
  have hw := pw_entry hF hv
  have hts := atoms_spec (ws := .code yX0_copyFrom cX0_copyFrom 2 none :: pq_U) B.pre
  have hU : ∀ w ∈ pq_U, w.before _ s = true := fun w h => hts w (List.mem_cons_of_mem _ h)
  have hx := B.exec
  have hb := B.bytes
  have hr := B.returns
  have hown : s.vm.findClass RX0 = some m.cls := findClass_of_methodNamed B.named
  have hlk := B.notSynchronized
  have hl := lv_entry ([.ref a0, .ref a1]) (n := 2) (Nat.le_of_ble_eq_true rfl)
  rw [lg_entry_eq]
  generalize (lg_sl ([.ref a0, .ref a1]) ++ List.replicate (2 - (lg_sl ([.ref a0, .ref a1])).length) Slot.unset).toArray = ls at hl ⊢
  have hl : lv_has ls 2 [(0, .ref a0), (1, .ref a1)] := hl
  have hE : Ext S0 S0 := Ext.rf _
  have cx : Cx p s m _ meth c cX0_copyFrom 2 RX0 none := ⟨hx, hb, hml, hown, hU, hr, hlk⟩
  rw [m_X0_copyFrom] at hm
  refine lv_aload_n hx hb dX0_copyFrom_0 rfl (lv_at hl 0 rfl) ?_
  refine lv_aload_n hx hb dX0_copyFrom_1 rfl (lv_at hl 1 rfl) ?_
  refine pg_i (k := 0) (j := 1) (f := 1) hx hb hown hU iu0 hw Ta1 (by decide) rfl (hU _ tw339) rfl dX0_copyFrom_2 ?_
  refine pp_i (k := 0) (j := 1) (f := 1) hx hb hown hU iu0 tyX0_ok nmX0 hw Ta0 (by decide) rfl (hU _ tw339) rfl rfl rfl dX0_copyFrom_5 (fun H locs hw => ?_)
  refine lv_aload_n hx hb dX0_copyFrom_8 rfl (lv_at hl 1 rfl) ?_
  obtain ⟨q1, hq1, hm⟩ := bd_some hm
  have Tq1 : TY (sI S0 1 a0 (pI S0 1 a1)) q1 14 := hw.wf.ref (k := 0) (j := 0) Ta1 (by decide) (by decide) hq1
  refine pg_rb (k := 0) (j := 0) (f := 0) hx hb hown hU iu0 hw Ta1 (by decide) rfl (hU _ tw338) rfl hq1 dX0_copyFrom_9 ?_
  refine lv_iconst (v := 0) hx hb dX0_copyFrom_12 (by decide) ?_
  refine lv_aload_n hx hb dX0_copyFrom_13 rfl (lv_at hl 0 rfl) ?_
  obtain ⟨q2, hq2, hm⟩ := bd_some hm
  have Tq2 : TY (sI S0 1 a0 (pI S0 1 a1)) q2 14 := hw.wf.ref (k := 0) (j := 0) Ta0 (by decide) (by decide) hq2
  refine pg_rb (k := 0) (j := 0) (f := 0) hx hb hown hU iu0 hw Ta0 (by decide) rfl (hU _ tw338) rfl hq2 dX0_copyFrom_14 ?_
  refine lv_iconst (v := 0) hx hb dX0_copyFrom_17 (by decide) ?_
  refine lv_aload_n hx hb dX0_copyFrom_18 rfl (lv_at hl 1 rfl) ?_
  obtain ⟨q3, hq3, hm⟩ := bd_some hm
  have Tq3 : TY (sI S0 1 a0 (pI S0 1 a1)) q3 14 := hw.wf.ref (k := 0) (j := 0) Ta1 (by decide) (by decide) hq3
  refine pg_rb (k := 0) (j := 0) (f := 0) hx hb hown hU iu0 hw Ta1 (by decide) rfl (hU _ tw338) rfl hq3 dX0_copyFrom_19 ?_
  refine pw_alenI (v := (Int32.ofNat (pN (sI S0 1 a0 (pI S0 1 a1)) q3))) hx hb hw Tq3 rfl dX0_copyFrom_22 ?_
  refine lv_aload_n hx hb dX0_copyFrom_23 rfl (lv_at hl 0 rfl) ?_
  obtain ⟨q4, hq4, hm⟩ := bd_some hm
  have Tq4 : TY (sI S0 1 a0 (pI S0 1 a1)) q4 14 := hw.wf.ref (k := 0) (j := 0) Ta0 (by decide) (by decide) hq4
  refine pg_rb (k := 0) (j := 0) (f := 0) hx hb hown hU iu0 hw Ta0 (by decide) rfl (hU _ tw338) rfl hq4 dX0_copyFrom_24 ?_
  refine pw_alenI (v := (Int32.ofNat (pN (sI S0 1 a0 (pI S0 1 a1)) q4))) hx hb hw Tq4 rfl dX0_copyFrom_27 ?_
  refine va_mmin hx hb (by rw [hml]; exact hl.1.symm) hown (hU _ tw975) (hU _ twm_min_s) (hU _ twm_i) (hU _ twm_min_c) (Nat.le_of_ble_eq_true rfl) (Nat.le_of_ble_eq_true rfl) (Nat.zero_le _) (Nat.zero_le _) dX0_copyFrom_28 ?_
  obtain ⟨hc5, hm⟩ := ck_some hm
  refine pw_copy hx hb (by rw [hml]; exact hl.1.symm) hown (hU _ tw976) (hU _ tw448) (hU _ tw447) (hU _ tw24) hw Tq1 Tq2 hc5 (Nat.le_of_ble_eq_true rfl) (Nat.le_of_ble_eq_true rfl) dX0_copyFrom_31 (fun H locs hw => ?_)
  obtain ⟨S_6, eS_6, hm⟩ := lt_some hm
  rw [← eS_6] at hw
  have Ta0 : TY S_6 a0 0 := by rw [eS_6]; exact Ta0
  have Ta1 : TY S_6 a1 0 := by rw [eS_6]; exact Ta1
  have hE : Ext S0 S_6 := by rw [eS_6]; exact hE
  cases hm
  exact pw_vret hx hb hr hlk hw hE dX0_copyFrom_34
abbrev rm_X1_bitOf : Room := { frames := 0, cells := 0, slots := 0, locals := 0 }
def m_X1_bitOf (n : Nat) (x0 : Int32) (x1 : Int32) (S0 : pq_S) : Option (Int32 × pq_S) := if x1 < 0 then some (0, S0) else some (((x0 >>> (x1 &&& (31 : Int32))) &&& (1 : Int32)), S0)
theorem tc_X1_bitOf : Cond.code yX1_bitOf cX1_bitOf 2 (some .int) ∈ pq_U := tw1291
theorem cd_X1_bitOf : yX1_bitOf.cls = RX1 ∧ yX1_bitOf.cls ≠ "java/lang/invoke/MethodHandle" ∧ yX1_bitOf.cls ≠ "java/lang/invoke/VarHandle" ∧ (parseMethodDescriptor yX1_bitOf.desc).map (fun d => d.parameters.length) = some 2 := by decide +kernel
set_option maxHeartbeats 4000000 in
set_option maxRecDepth 100000 in
theorem c_X1_bitOf (l : Launch) (C : pq_C) (X : va_W) (n : Nat) (S0 : pq_S) (hF : WF S0) (sz : Nat) (x0 : Int32) (x1 : Int32)  (r : Int32) (S1 : pq_S) (hm : m_X1_bitOf n x0 x1 S0 = some (r, S1)) : MI l yX1_bitOf (.code yX1_bitOf cX1_bitOf 2 (some .int) :: pq_U) rm_X1_bitOf C X S0 sz [.int x0, .int x1] r S1 0 0 := by
  refine Met.ofW (cc := cX1_bitOf) (maxL := 2) (ret := (some .int)) (by decide) rfl ?_
  intro p e s m args below meth c s₁ B hml hv
  obtain ⟨rfl, hv⟩ := hv
  have hsz := hv.1
  subst hsz
  have hw := pw_entry hF hv
  have hts := atoms_spec (ws := .code yX1_bitOf cX1_bitOf 2 (some .int) :: pq_U) B.pre
  have hU : ∀ w ∈ pq_U, w.before _ s = true := fun w h => hts w (List.mem_cons_of_mem _ h)
  have hx := B.exec
  have hb := B.bytes
  have hr := B.returns
  have hown : s.vm.findClass RX1 = some m.cls := findClass_of_methodNamed B.named
  have hlk := B.notSynchronized
  have hl := lv_entry ([.int x0, .int x1]) (n := 2) (Nat.le_of_ble_eq_true rfl)
  rw [lg_entry_eq]
  generalize (lg_sl ([.int x0, .int x1]) ++ List.replicate (2 - (lg_sl ([.int x0, .int x1])).length) Slot.unset).toArray = ls at hl ⊢
  have hl : lv_has ls 2 [(0, .int x0), (1, .int x1)] := hl
  have hE : Ext S0 S0 := Ext.rf _
  have cx : Cx p s m _ meth c cX1_bitOf 2 RX1 (some .int) := ⟨hx, hb, hml, hown, hU, hr, hlk⟩
  rw [m_X1_bitOf] at hm
  refine lv_iload_n hx hb dX1_bitOf_0 rfl (lv_at hl 1 rfl) ?_
  refine lv_if_lt (tgt := 12) hx hb dX1_bitOf_1 (by decide) (fun h1 => ?_) (fun h1 => ?_)
  · rw [if_pos h1] at hm
    refine lv_iconst (v := 0) hx hb dX1_bitOf_12 (by decide) ?_
    cases hm
    exact pw_iret hx hb hr rfl hlk hw hE dX1_bitOf_13
  · rw [if_neg h1] at hm
    refine lv_iload_n hx hb dX1_bitOf_4 rfl (lv_at hl 0 rfl) ?_
    refine lv_iload_n hx hb dX1_bitOf_5 rfl (lv_at hl 1 rfl) ?_
    refine lv_ishr hx hb dX1_bitOf_6 ?_
    refine lv_iconst (v := 1) hx hb dX1_bitOf_7 (by decide) ?_
    refine lv_iand hx hb dX1_bitOf_8 ?_
    refine lv_goto (tgt := 13) hx hb dX1_bitOf_9 (by decide) ?_
    cases hm
    exact pw_iret hx hb hr rfl hlk hw hE dX1_bitOf_13
abbrev rm_X2_append : Room := { frames := 0, cells := 0, slots := 0, locals := 0 }
def m_X2_append (n : Nat) (a0 : Nat) (x1 : Int32) (S0 : pq_S) : Option pq_S := Option.bind (pR S0 200 a0) fun q1 => if (Int32.ofNat (pN S0 q1)) ≤ (pI S0 203 a0) then some S0 else Option.bind (pR S0 200 a0) fun q3 => ck (ix (pI S0 203 a0) (pN S0 q3)) (dix _ _) (lt_ (sI (sA S0 q3 (Int32.toNatClampNeg (pI S0 203 a0)) x1) 203 a0 ((pI (sA S0 q3 (Int32.toNatClampNeg (pI S0 203 a0)) x1) 203 a0) + (1 : Int32))) fun S_5 => some S_5)
theorem tc_X2_append : Cond.code yX2_append cX2_append 2 none ∈ pq_U := tw759
theorem cd_X2_append : yX2_append.cls = RX2 ∧ yX2_append.cls ≠ "java/lang/invoke/MethodHandle" ∧ yX2_append.cls ≠ "java/lang/invoke/VarHandle" ∧ (parseMethodDescriptor yX2_append.desc).map (fun d => d.parameters.length) = some 1 := by decide +kernel
set_option maxHeartbeats 4000000 in
set_option maxRecDepth 100000 in
theorem c_X2_append (l : Launch) (C : pq_C) (X : va_W) (n : Nat) (S0 : pq_S) (hF : WF S0) (sz : Nat) (a0 : Nat) (x1 : Int32) (Ta0 : TY S0 a0 2) (S1 : pq_S) (hm : m_X2_append n a0 x1 S0 = some S1) : MV l yX2_append (.code yX2_append cX2_append 2 none :: pq_U) rm_X2_append C X S0 sz [.ref a0, .int x1] S1 0 0 := by
  refine Met.ofW (cc := cX2_append) (maxL := 2) (ret := none) (by decide) rfl ?_
  intro p e s m args below meth c s₁ B hml hv
  obtain ⟨rfl, hv⟩ := hv
  have hsz := hv.1
  subst hsz
  have hw := pw_entry hF hv
  have hts := atoms_spec (ws := .code yX2_append cX2_append 2 none :: pq_U) B.pre
  have hU : ∀ w ∈ pq_U, w.before _ s = true := fun w h => hts w (List.mem_cons_of_mem _ h)
  have hx := B.exec
  have hb := B.bytes
  have hr := B.returns
  have hown : s.vm.findClass RX2 = some m.cls := findClass_of_methodNamed B.named
  have hlk := B.notSynchronized
  have hl := lv_entry ([.ref a0, .int x1]) (n := 2) (Nat.le_of_ble_eq_true rfl)
  rw [lg_entry_eq]
  generalize (lg_sl ([.ref a0, .int x1]) ++ List.replicate (2 - (lg_sl ([.ref a0, .int x1])).length) Slot.unset).toArray = ls at hl ⊢
  have hl : lv_has ls 2 [(0, .ref a0), (1, .int x1)] := hl
  have hE : Ext S0 S0 := Ext.rf _
  have cx : Cx p s m _ meth c cX2_append 2 RX2 none := ⟨hx, hb, hml, hown, hU, hr, hlk⟩
  rw [m_X2_append] at hm
  refine lv_aload_n hx hb dX2_append_0 rfl (lv_at hl 0 rfl) ?_
  refine pg_i (k := 2) (j := 3) (f := 203) hx hb hown hU iu2 hw Ta0 (by decide) rfl (hU _ tw191) rfl dX2_append_1 ?_
  refine lv_aload_n hx hb dX2_append_4 rfl (lv_at hl 0 rfl) ?_
  obtain ⟨q1, hq1, hm⟩ := bd_some hm
  have Tq1 : TY S0 q1 14 := hw.wf.ref (k := 2) (j := 0) Ta0 (by decide) (by decide) hq1
  refine pg_rb (k := 2) (j := 0) (f := 200) hx hb hown hU iu2 hw Ta0 (by decide) rfl (hU _ tw188) rfl hq1 dX2_append_5 ?_
  refine pw_alenI (v := (Int32.ofNat (pN S0 q1))) hx hb hw Tq1 rfl dX2_append_8 ?_
  refine lv_icmp_ge (tgt := 32) hx hb dX2_append_9 (by decide) (fun h2 => ?_) (fun h2 => ?_)
  · rw [if_pos h2] at hm
    cases hm
    exact pw_vret hx hb hr hlk hw hE dX2_append_32
  · rw [if_neg h2] at hm
    refine lv_aload_n hx hb dX2_append_12 rfl (lv_at hl 0 rfl) ?_
    obtain ⟨q3, hq3, hm⟩ := bd_some hm
    have Tq3 : TY S0 q3 14 := hw.wf.ref (k := 2) (j := 0) Ta0 (by decide) (by decide) hq3
    refine pg_rb (k := 2) (j := 0) (f := 200) hx hb hown hU iu2 hw Ta0 (by decide) rfl (hU _ tw188) rfl hq3 dX2_append_13 ?_
    refine lv_aload_n hx hb dX2_append_16 rfl (lv_at hl 0 rfl) ?_
    refine pg_i (k := 2) (j := 3) (f := 203) hx hb hown hU iu2 hw Ta0 (by decide) rfl (hU _ tw191) rfl dX2_append_17 ?_
    refine lv_iload_n hx hb dX2_append_20 rfl (lv_at hl 1 rfl) ?_
    obtain ⟨hi4, hm⟩ := ck_some hm
    refine pw_iast hx hb hw Tq3 hi4 dX2_append_21 (fun H locs hw => ?_)
    refine lv_aload_n hx hb dX2_append_22 rfl (lv_at hl 0 rfl) ?_
    refine lv_dup hx hb dX2_append_23 rfl ?_
    refine pg_i (k := 2) (j := 3) (f := 203) hx hb hown hU iu2 hw Ta0 (by decide) rfl (hU _ tw191) rfl dX2_append_24 ?_
    refine lv_iconst (v := 1) hx hb dX2_append_27 (by decide) ?_
    refine lv_iadd hx hb dX2_append_28 ?_
    refine pp_i (k := 2) (j := 3) (f := 203) hx hb hown hU iu2 tyX2_ok nmX2 hw Ta0 (by decide) rfl (hU _ tw191) rfl rfl rfl dX2_append_29 (fun H locs hw => ?_)
    obtain ⟨S_5, eS_5, hm⟩ := lt_some hm
    rw [← eS_5] at hw
    have Ta0 : TY S_5 a0 2 := by rw [eS_5]; exact Ta0
    have hE : Ext S0 S_5 := by rw [eS_5]; exact hE
    cases hm
    exact pw_vret hx hb hr hlk hw hE dX2_append_32
abbrev rm_X2_copyFrom : Room := { frames := 1, cells := 0, slots := 0, locals := 80 }
def m_X2_copyFrom (n : Nat) (a0 : Nat) (a1 : Nat) (S0 : pq_S) : Option pq_S := Option.bind (pR (sI S0 203 a0 (pI S0 203 a1)) 200 a1) fun q1 => Option.bind (pR (sI S0 203 a0 (pI S0 203 a1)) 200 a0) fun q2 => Option.bind (pR (sI S0 203 a0 (pI S0 203 a1)) 200 a1) fun q3 => Option.bind (pR (sI S0 203 a0 (pI S0 203 a1)) 200 a0) fun q4 => ck (cpk 0 0 (if (Int32.ofNat (pN (sI S0 203 a0 (pI S0 203 a1)) q4)) < (Int32.ofNat (pN (sI S0 203 a0 (pI S0 203 a1)) q3)) then (Int32.ofNat (pN (sI S0 203 a0 (pI S0 203 a1)) q4)) else (Int32.ofNat (pN (sI S0 203 a0 (pI S0 203 a1)) q3))) (pN (sI S0 203 a0 (pI S0 203 a1)) q1) (pN (sI S0 203 a0 (pI S0 203 a1)) q2)) (dcpk _ _ _ _ _) (lt_ (sF (sI S0 203 a0 (pI S0 203 a1)) q2 (va_cpy (pA (sI S0 203 a0 (pI S0 203 a1)) q1) (pA (sI S0 203 a0 (pI S0 203 a1)) q2) (Int32.toNatClampNeg 0) (Int32.toNatClampNeg 0) (Int32.toNatClampNeg (if (Int32.ofNat (pN (sI S0 203 a0 (pI S0 203 a1)) q4)) < (Int32.ofNat (pN (sI S0 203 a0 (pI S0 203 a1)) q3)) then (Int32.ofNat (pN (sI S0 203 a0 (pI S0 203 a1)) q4)) else (Int32.ofNat (pN (sI S0 203 a0 (pI S0 203 a1)) q3)))))) fun S_6 => some S_6)
theorem tc_X2_copyFrom : Cond.code yX2_copyFrom cX2_copyFrom 2 none ∈ pq_U := tw791
theorem cd_X2_copyFrom : yX2_copyFrom.cls = RX2 ∧ yX2_copyFrom.cls ≠ "java/lang/invoke/MethodHandle" ∧ yX2_copyFrom.cls ≠ "java/lang/invoke/VarHandle" ∧ (parseMethodDescriptor yX2_copyFrom.desc).map (fun d => d.parameters.length) = some 1 := by decide +kernel
set_option maxHeartbeats 4000000 in
set_option maxRecDepth 100000 in
theorem c_X2_copyFrom (l : Launch) (C : pq_C) (X : va_W) (n : Nat) (S0 : pq_S) (hF : WF S0) (sz : Nat) (a0 : Nat) (a1 : Nat) (Ta0 : TY S0 a0 2) (Ta1 : TY S0 a1 2) (S1 : pq_S) (hm : m_X2_copyFrom n a0 a1 S0 = some S1) : MV l yX2_copyFrom (.code yX2_copyFrom cX2_copyFrom 2 none :: pq_U) rm_X2_copyFrom C X S0 sz [.ref a0, .ref a1] S1 0 0 := by
  refine Met.ofW (cc := cX2_copyFrom) (maxL := 2) (ret := none) (by decide) rfl ?_
  intro p e s m args below meth c s₁ B hml hv
  obtain ⟨rfl, hv⟩ := hv
  have hsz := hv.1
  subst hsz
  have hw := pw_entry hF hv
  have hts := atoms_spec (ws := .code yX2_copyFrom cX2_copyFrom 2 none :: pq_U) B.pre
  have hU : ∀ w ∈ pq_U, w.before _ s = true := fun w h => hts w (List.mem_cons_of_mem _ h)
  have hx := B.exec
  have hb := B.bytes
  have hr := B.returns
  have hown : s.vm.findClass RX2 = some m.cls := findClass_of_methodNamed B.named
  have hlk := B.notSynchronized
  have hl := lv_entry ([.ref a0, .ref a1]) (n := 2) (Nat.le_of_ble_eq_true rfl)
  rw [lg_entry_eq]
  generalize (lg_sl ([.ref a0, .ref a1]) ++ List.replicate (2 - (lg_sl ([.ref a0, .ref a1])).length) Slot.unset).toArray = ls at hl ⊢
  have hl : lv_has ls 2 [(0, .ref a0), (1, .ref a1)] := hl
  have hE : Ext S0 S0 := Ext.rf _
  have cx : Cx p s m _ meth c cX2_copyFrom 2 RX2 none := ⟨hx, hb, hml, hown, hU, hr, hlk⟩
  rw [m_X2_copyFrom] at hm
  refine lv_aload_n hx hb dX2_copyFrom_0 rfl (lv_at hl 0 rfl) ?_
  refine lv_aload_n hx hb dX2_copyFrom_1 rfl (lv_at hl 1 rfl) ?_
  refine pg_i (k := 2) (j := 3) (f := 203) hx hb hown hU iu2 hw Ta1 (by decide) rfl (hU _ tw191) rfl dX2_copyFrom_2 ?_
  refine pp_i (k := 2) (j := 3) (f := 203) hx hb hown hU iu2 tyX2_ok nmX2 hw Ta0 (by decide) rfl (hU _ tw191) rfl rfl rfl dX2_copyFrom_5 (fun H locs hw => ?_)
  refine lv_aload_n hx hb dX2_copyFrom_8 rfl (lv_at hl 1 rfl) ?_
  obtain ⟨q1, hq1, hm⟩ := bd_some hm
  have Tq1 : TY (sI S0 203 a0 (pI S0 203 a1)) q1 14 := hw.wf.ref (k := 2) (j := 0) Ta1 (by decide) (by decide) hq1
  refine pg_rb (k := 2) (j := 0) (f := 200) hx hb hown hU iu2 hw Ta1 (by decide) rfl (hU _ tw188) rfl hq1 dX2_copyFrom_9 ?_
  refine lv_iconst (v := 0) hx hb dX2_copyFrom_12 (by decide) ?_
  refine lv_aload_n hx hb dX2_copyFrom_13 rfl (lv_at hl 0 rfl) ?_
  obtain ⟨q2, hq2, hm⟩ := bd_some hm
  have Tq2 : TY (sI S0 203 a0 (pI S0 203 a1)) q2 14 := hw.wf.ref (k := 2) (j := 0) Ta0 (by decide) (by decide) hq2
  refine pg_rb (k := 2) (j := 0) (f := 200) hx hb hown hU iu2 hw Ta0 (by decide) rfl (hU _ tw188) rfl hq2 dX2_copyFrom_14 ?_
  refine lv_iconst (v := 0) hx hb dX2_copyFrom_17 (by decide) ?_
  refine lv_aload_n hx hb dX2_copyFrom_18 rfl (lv_at hl 1 rfl) ?_
  obtain ⟨q3, hq3, hm⟩ := bd_some hm
  have Tq3 : TY (sI S0 203 a0 (pI S0 203 a1)) q3 14 := hw.wf.ref (k := 2) (j := 0) Ta1 (by decide) (by decide) hq3
  refine pg_rb (k := 2) (j := 0) (f := 200) hx hb hown hU iu2 hw Ta1 (by decide) rfl (hU _ tw188) rfl hq3 dX2_copyFrom_19 ?_
  refine pw_alenI (v := (Int32.ofNat (pN (sI S0 203 a0 (pI S0 203 a1)) q3))) hx hb hw Tq3 rfl dX2_copyFrom_22 ?_
  refine lv_aload_n hx hb dX2_copyFrom_23 rfl (lv_at hl 0 rfl) ?_
  obtain ⟨q4, hq4, hm⟩ := bd_some hm
  have Tq4 : TY (sI S0 203 a0 (pI S0 203 a1)) q4 14 := hw.wf.ref (k := 2) (j := 0) Ta0 (by decide) (by decide) hq4
  refine pg_rb (k := 2) (j := 0) (f := 200) hx hb hown hU iu2 hw Ta0 (by decide) rfl (hU _ tw188) rfl hq4 dX2_copyFrom_24 ?_
  refine pw_alenI (v := (Int32.ofNat (pN (sI S0 203 a0 (pI S0 203 a1)) q4))) hx hb hw Tq4 rfl dX2_copyFrom_27 ?_
  refine va_mmin hx hb (by rw [hml]; exact hl.1.symm) hown (hU _ tw792) (hU _ twm_min_s) (hU _ twm_i) (hU _ twm_min_c) (Nat.le_of_ble_eq_true rfl) (Nat.le_of_ble_eq_true rfl) (Nat.zero_le _) (Nat.zero_le _) dX2_copyFrom_28 ?_
  obtain ⟨hc5, hm⟩ := ck_some hm
  refine pw_copy hx hb (by rw [hml]; exact hl.1.symm) hown (hU _ tw793) (hU _ tw448) (hU _ tw447) (hU _ tw24) hw Tq1 Tq2 hc5 (Nat.le_of_ble_eq_true rfl) (Nat.le_of_ble_eq_true rfl) dX2_copyFrom_31 (fun H locs hw => ?_)
  obtain ⟨S_6, eS_6, hm⟩ := lt_some hm
  rw [← eS_6] at hw
  have Ta0 : TY S_6 a0 2 := by rw [eS_6]; exact Ta0
  have Ta1 : TY S_6 a1 2 := by rw [eS_6]; exact Ta1
  have hE : Ext S0 S_6 := by rw [eS_6]; exact hE
  cases hm
  exact pw_vret hx hb hr hlk hw hE dX2_copyFrom_34
abbrev rm_X2_isTold : Room := { frames := 0, cells := 0, slots := 0, locals := 0 }
def m_X2_isTold (n : Nat) (a0 : Nat) (S0 : pq_S) : Option (Int32 × pq_S) := if (pI S0 203 a0) ≤ 0 then some (0, S0) else some (1, S0)
theorem tc_X2_isTold : Cond.code yX2_isTold cX2_isTold 1 (some .boolean) ∈ pq_U := tw876
theorem cd_X2_isTold : yX2_isTold.cls = RX2 ∧ yX2_isTold.cls ≠ "java/lang/invoke/MethodHandle" ∧ yX2_isTold.cls ≠ "java/lang/invoke/VarHandle" ∧ (parseMethodDescriptor yX2_isTold.desc).map (fun d => d.parameters.length) = some 0 := by decide +kernel
set_option maxHeartbeats 4000000 in
set_option maxRecDepth 100000 in
theorem c_X2_isTold (l : Launch) (C : pq_C) (X : va_W) (n : Nat) (S0 : pq_S) (hF : WF S0) (sz : Nat) (a0 : Nat) (Ta0 : TY S0 a0 2) (r : Int32) (S1 : pq_S) (hm : m_X2_isTold n a0 S0 = some (r, S1)) : MZ l yX2_isTold (.code yX2_isTold cX2_isTold 1 (some .boolean) :: pq_U) rm_X2_isTold C X S0 sz [.ref a0] r S1 0 0 := by
  refine Met.ofW (cc := cX2_isTold) (maxL := 1) (ret := (some .boolean)) (by decide) rfl ?_
  intro p e s m args below meth c s₁ B hml hv
  obtain ⟨rfl, hv⟩ := hv
  have hsz := hv.1
  subst hsz
  have hw := pw_entry hF hv
  have hts := atoms_spec (ws := .code yX2_isTold cX2_isTold 1 (some .boolean) :: pq_U) B.pre
  have hU : ∀ w ∈ pq_U, w.before _ s = true := fun w h => hts w (List.mem_cons_of_mem _ h)
  have hx := B.exec
  have hb := B.bytes
  have hr := B.returns
  have hown : s.vm.findClass RX2 = some m.cls := findClass_of_methodNamed B.named
  have hlk := B.notSynchronized
  have hl := lv_entry ([.ref a0]) (n := 1) (Nat.le_of_ble_eq_true rfl)
  rw [lg_entry_eq]
  generalize (lg_sl ([.ref a0]) ++ List.replicate (1 - (lg_sl ([.ref a0])).length) Slot.unset).toArray = ls at hl ⊢
  have hl : lv_has ls 1 [(0, .ref a0)] := hl
  have hE : Ext S0 S0 := Ext.rf _
  have cx : Cx p s m _ meth c cX2_isTold 1 RX2 (some .boolean) := ⟨hx, hb, hml, hown, hU, hr, hlk⟩
  rw [m_X2_isTold] at hm
  refine lv_aload_n hx hb dX2_isTold_0 rfl (lv_at hl 0 rfl) ?_
  refine pg_i (k := 2) (j := 3) (f := 203) hx hb hown hU iu2 hw Ta0 (by decide) rfl (hU _ tw191) rfl dX2_isTold_1 ?_
  refine lv_if_le (tgt := 11) hx hb dX2_isTold_4 (by decide) (fun h1 => ?_) (fun h1 => ?_)
  · rw [if_pos h1] at hm
    refine lv_iconst (v := 0) hx hb dX2_isTold_11 (by decide) ?_
    cases hm
    exact pw_zret hx hb hr bz_0 hlk hw hE dX2_isTold_12
  · rw [if_neg h1] at hm
    refine lv_iconst (v := 1) hx hb dX2_isTold_7 (by decide) ?_
    refine lv_goto (tgt := 12) hx hb dX2_isTold_8 (by decide) ?_
    cases hm
    exact pw_zret hx hb hr bz_1 hlk hw hE dX2_isTold_12
abbrev rm_X2_joined : Room := { frames := 1, cells := 0, slots := 0, locals := 40 }
def m_X2_joined (n : Nat) (x0 : Int32) (x1 : Int32) (x2 : Int32) (S0 : pq_S) : Option (Int32 × pq_S) := if x0 = 2000 then some ((x1 + x2), S0) else if x0 = 2001 then some ((x1 - x2), S0) else if x0 = 2002 then some ((x1 * x2), S0) else if x0 = 2003 then if x2 = 0 then some (0, S0) else ck (¬ x2 = 0) (dne _) (some ((x1 / x2), S0)) else if x0 = 2004 then some ((if x2 < x1 then x2 else x1), S0) else some ((if x1 < x2 then x2 else x1), S0)
theorem tc_X2_joined : Cond.code yX2_joined cX2_joined 3 (some .int) ∈ pq_U := tw891
theorem cd_X2_joined : yX2_joined.cls = RX2 ∧ yX2_joined.cls ≠ "java/lang/invoke/MethodHandle" ∧ yX2_joined.cls ≠ "java/lang/invoke/VarHandle" ∧ (parseMethodDescriptor yX2_joined.desc).map (fun d => d.parameters.length) = some 3 := by decide +kernel
set_option maxHeartbeats 4000000 in
set_option maxRecDepth 100000 in
theorem c_X2_joined (l : Launch) (C : pq_C) (X : va_W) (n : Nat) (S0 : pq_S) (hF : WF S0) (sz : Nat) (x0 : Int32) (x1 : Int32) (x2 : Int32)  (r : Int32) (S1 : pq_S) (hm : m_X2_joined n x0 x1 x2 S0 = some (r, S1)) : MI l yX2_joined (.code yX2_joined cX2_joined 3 (some .int) :: pq_U) rm_X2_joined C X S0 sz [.int x0, .int x1, .int x2] r S1 0 0 := by
  refine Met.ofW (cc := cX2_joined) (maxL := 3) (ret := (some .int)) (by decide) rfl ?_
  intro p e s m args below meth c s₁ B hml hv
  obtain ⟨rfl, hv⟩ := hv
  have hsz := hv.1
  subst hsz
  have hw := pw_entry hF hv
  have hts := atoms_spec (ws := .code yX2_joined cX2_joined 3 (some .int) :: pq_U) B.pre
  have hU : ∀ w ∈ pq_U, w.before _ s = true := fun w h => hts w (List.mem_cons_of_mem _ h)
  have hx := B.exec
  have hb := B.bytes
  have hr := B.returns
  have hown : s.vm.findClass RX2 = some m.cls := findClass_of_methodNamed B.named
  have hlk := B.notSynchronized
  have hl := lv_entry ([.int x0, .int x1, .int x2]) (n := 3) (Nat.le_of_ble_eq_true rfl)
  rw [lg_entry_eq]
  generalize (lg_sl ([.int x0, .int x1, .int x2]) ++ List.replicate (3 - (lg_sl ([.int x0, .int x1, .int x2])).length) Slot.unset).toArray = ls at hl ⊢
  have hl : lv_has ls 3 [(0, .int x0), (1, .int x1), (2, .int x2)] := hl
  have hE : Ext S0 S0 := Ext.rf _
  have cx : Cx p s m _ meth c cX2_joined 3 RX2 (some .int) := ⟨hx, hb, hml, hown, hU, hr, hlk⟩
  rw [m_X2_joined] at hm
  refine lv_iload_n hx hb dX2_joined_0 rfl (lv_at hl 0 rfl) ?_
  by_cases h1 : x0 = 2000
  · rw [if_pos h1] at hm
    refine lv_tsIn (v := 2000) h1 ?_
    refine lv_tableIn (tgt := 36) hx hb dX2_joined_1 (by decide) (by decide) rfl (by decide) ?_
    refine lv_iload_n hx hb dX2_joined_36 rfl (lv_at hl 1 rfl) ?_
    refine lv_iload_n hx hb dX2_joined_37 rfl (lv_at hl 2 rfl) ?_
    refine lv_iadd hx hb dX2_joined_38 ?_
    cases hm
    exact pw_iret hx hb hr rfl hlk hw hE dX2_joined_39
  · rw [if_neg h1] at hm
    by_cases h2 : x0 = 2001
    · rw [if_pos h2] at hm
      refine lv_tsIn (v := 2001) h2 ?_
      refine lv_tableIn (tgt := 40) hx hb dX2_joined_1 (by decide) (by decide) rfl (by decide) ?_
      refine lv_iload_n hx hb dX2_joined_40 rfl (lv_at hl 1 rfl) ?_
      refine lv_iload_n hx hb dX2_joined_41 rfl (lv_at hl 2 rfl) ?_
      refine lv_isub hx hb dX2_joined_42 ?_
      cases hm
      exact pw_iret hx hb hr rfl hlk hw hE dX2_joined_43
    · rw [if_neg h2] at hm
      by_cases h3 : x0 = 2002
      · rw [if_pos h3] at hm
        refine lv_tsIn (v := 2002) h3 ?_
        refine lv_tableIn (tgt := 44) hx hb dX2_joined_1 (by decide) (by decide) rfl (by decide) ?_
        refine lv_iload_n hx hb dX2_joined_44 rfl (lv_at hl 1 rfl) ?_
        refine lv_iload_n hx hb dX2_joined_45 rfl (lv_at hl 2 rfl) ?_
        refine lv_imul hx hb dX2_joined_46 ?_
        cases hm
        exact pw_iret hx hb hr rfl hlk hw hE dX2_joined_47
      · rw [if_neg h3] at hm
        by_cases h4 : x0 = 2003
        · rw [if_pos h4] at hm
          refine lv_tsIn (v := 2003) h4 ?_
          refine lv_tableIn (tgt := 48) hx hb dX2_joined_1 (by decide) (by decide) rfl (by decide) ?_
          refine lv_iload_n hx hb dX2_joined_48 rfl (lv_at hl 2 rfl) ?_
          refine lv_if_ne (tgt := 56) hx hb dX2_joined_49 (by decide) (fun h5 => ?_) (fun h5 => ?_)
          · rw [if_neg h5] at hm
            refine lv_iload_n hx hb dX2_joined_56 rfl (lv_at hl 1 rfl) ?_
            refine lv_iload_n hx hb dX2_joined_57 rfl (lv_at hl 2 rfl) ?_
            obtain ⟨hn6, hm⟩ := ck_some hm
            refine lv_idiv hx hb dX2_joined_58 hn6 ?_
            cases hm
            exact pw_iret hx hb hr rfl hlk hw hE dX2_joined_59
          · rw [if_pos h5] at hm
            refine lv_iconst (v := 0) hx hb dX2_joined_52 (by decide) ?_
            refine lv_goto (tgt := 59) hx hb dX2_joined_53 (by decide) ?_
            cases hm
            exact pw_iret hx hb hr rfl hlk hw hE dX2_joined_59
        · rw [if_neg h4] at hm
          by_cases h7 : x0 = 2004
          · rw [if_pos h7] at hm
            refine lv_tsIn (v := 2004) h7 ?_
            refine lv_tableIn (tgt := 60) hx hb dX2_joined_1 (by decide) (by decide) rfl (by decide) ?_
            refine lv_iload_n hx hb dX2_joined_60 rfl (lv_at hl 1 rfl) ?_
            refine lv_iload_n hx hb dX2_joined_61 rfl (lv_at hl 2 rfl) ?_
            refine va_mmin hx hb (by rw [hml]; exact hl.1.symm) hown (hU _ tw792) (hU _ twm_min_s) (hU _ twm_i) (hU _ twm_min_c) (Nat.le_of_ble_eq_true rfl) (Nat.le_of_ble_eq_true rfl) (Nat.zero_le _) (Nat.zero_le _) dX2_joined_62 ?_
            cases hm
            exact pw_iret hx hb hr rfl hlk hw hE dX2_joined_65
          · rw [if_neg h7] at hm
            refine lv_tableOut (tgt := 66) hx hb dX2_joined_1 (ts_out (lo := 2000) (hi := 2004) (fun j hj1 hj2 => ?_)) (by decide) ?_
            · have hj : j = 2000 ∨ j = 2001 ∨ j = 2002 ∨ j = 2003 ∨ j = 2004 := by clear hm; omega
              rcases hj with rfl | rfl | rfl | rfl | rfl
              · exact h1
              · exact h2
              · exact h3
              · exact h4
              · exact h7
            refine lv_iload_n hx hb dX2_joined_66 rfl (lv_at hl 1 rfl) ?_
            refine lv_iload_n hx hb dX2_joined_67 rfl (lv_at hl 2 rfl) ?_
            refine va_mmax hx hb (by rw [hml]; exact hl.1.symm) hown (hU _ tw892) (hU _ twm_max_s) (hU _ twm_i) (hU _ twm_max_c) (Nat.le_of_ble_eq_true rfl) (Nat.le_of_ble_eq_true rfl) (Nat.zero_le _) (Nat.zero_le _) dX2_joined_68 ?_
            cases hm
            exact pw_iret hx hb hr rfl hlk hw hE dX2_joined_71
abbrev rm_X2_push : Room := { frames := 0, cells := 0, slots := 0, locals := 0 }
def m_X2_push (n : Nat) (a0 : Nat) (x1 : Int32) (S0 : pq_S) : Option pq_S := if (pI S0 204 a0) < 0 then some S0 else Option.bind (pR S0 202 a0) fun q2 => if (Int32.ofNat (pN S0 q2)) ≤ (pI S0 204 a0) then some S0 else Option.bind (pR S0 202 a0) fun q4 => ck (ix (pI S0 204 a0) (pN S0 q4)) (dix _ _) (lt_ (sI (sA S0 q4 (Int32.toNatClampNeg (pI S0 204 a0)) x1) 204 a0 ((pI (sA S0 q4 (Int32.toNatClampNeg (pI S0 204 a0)) x1) 204 a0) + (1 : Int32))) fun S_6 => some S_6)
theorem tc_X2_push : Cond.code yX2_push cX2_push 2 none ∈ pq_U := tw884
theorem cd_X2_push : yX2_push.cls = RX2 ∧ yX2_push.cls ≠ "java/lang/invoke/MethodHandle" ∧ yX2_push.cls ≠ "java/lang/invoke/VarHandle" ∧ (parseMethodDescriptor yX2_push.desc).map (fun d => d.parameters.length) = some 1 := by decide +kernel
set_option maxHeartbeats 4000000 in
set_option maxRecDepth 100000 in
theorem c_X2_push (l : Launch) (C : pq_C) (X : va_W) (n : Nat) (S0 : pq_S) (hF : WF S0) (sz : Nat) (a0 : Nat) (x1 : Int32) (Ta0 : TY S0 a0 2) (S1 : pq_S) (hm : m_X2_push n a0 x1 S0 = some S1) : MV l yX2_push (.code yX2_push cX2_push 2 none :: pq_U) rm_X2_push C X S0 sz [.ref a0, .int x1] S1 0 0 := by
  refine Met.ofW (cc := cX2_push) (maxL := 2) (ret := none) (by decide) rfl ?_
  intro p e s m args below meth c s₁ B hml hv
  obtain ⟨rfl, hv⟩ := hv
  have hsz := hv.1
  subst hsz
  have hw := pw_entry hF hv
  have hts := atoms_spec (ws := .code yX2_push cX2_push 2 none :: pq_U) B.pre
  have hU : ∀ w ∈ pq_U, w.before _ s = true := fun w h => hts w (List.mem_cons_of_mem _ h)
  have hx := B.exec
  have hb := B.bytes
  have hr := B.returns
  have hown : s.vm.findClass RX2 = some m.cls := findClass_of_methodNamed B.named
  have hlk := B.notSynchronized
  have hl := lv_entry ([.ref a0, .int x1]) (n := 2) (Nat.le_of_ble_eq_true rfl)
  rw [lg_entry_eq]
  generalize (lg_sl ([.ref a0, .int x1]) ++ List.replicate (2 - (lg_sl ([.ref a0, .int x1])).length) Slot.unset).toArray = ls at hl ⊢
  have hl : lv_has ls 2 [(0, .ref a0), (1, .int x1)] := hl
  have hE : Ext S0 S0 := Ext.rf _
  have cx : Cx p s m _ meth c cX2_push 2 RX2 none := ⟨hx, hb, hml, hown, hU, hr, hlk⟩
  rw [m_X2_push] at hm
  refine lv_aload_n hx hb dX2_push_0 rfl (lv_at hl 0 rfl) ?_
  refine pg_i (k := 2) (j := 4) (f := 204) hx hb hown hU iu2 hw Ta0 (by decide) rfl (hU _ tw193) rfl dX2_push_1 ?_
  refine lv_if_lt (tgt := 39) hx hb dX2_push_4 (by decide) (fun h1 => ?_) (fun h1 => ?_)
  · rw [if_pos h1] at hm
    cases hm
    exact pw_vret hx hb hr hlk hw hE dX2_push_39
  · rw [if_neg h1] at hm
    refine lv_aload_n hx hb dX2_push_7 rfl (lv_at hl 0 rfl) ?_
    refine pg_i (k := 2) (j := 4) (f := 204) hx hb hown hU iu2 hw Ta0 (by decide) rfl (hU _ tw193) rfl dX2_push_8 ?_
    refine lv_aload_n hx hb dX2_push_11 rfl (lv_at hl 0 rfl) ?_
    obtain ⟨q2, hq2, hm⟩ := bd_some hm
    have Tq2 : TY S0 q2 14 := hw.wf.ref (k := 2) (j := 2) Ta0 (by decide) (by decide) hq2
    refine pg_rb (k := 2) (j := 2) (f := 202) hx hb hown hU iu2 hw Ta0 (by decide) rfl (hU _ tw190) rfl hq2 dX2_push_12 ?_
    refine pw_alenI (v := (Int32.ofNat (pN S0 q2))) hx hb hw Tq2 rfl dX2_push_15 ?_
    refine lv_icmp_ge (tgt := 39) hx hb dX2_push_16 (by decide) (fun h3 => ?_) (fun h3 => ?_)
    · rw [if_pos h3] at hm
      cases hm
      exact pw_vret hx hb hr hlk hw hE dX2_push_39
    · rw [if_neg h3] at hm
      refine lv_aload_n hx hb dX2_push_19 rfl (lv_at hl 0 rfl) ?_
      obtain ⟨q4, hq4, hm⟩ := bd_some hm
      have Tq4 : TY S0 q4 14 := hw.wf.ref (k := 2) (j := 2) Ta0 (by decide) (by decide) hq4
      refine pg_rb (k := 2) (j := 2) (f := 202) hx hb hown hU iu2 hw Ta0 (by decide) rfl (hU _ tw190) rfl hq4 dX2_push_20 ?_
      refine lv_aload_n hx hb dX2_push_23 rfl (lv_at hl 0 rfl) ?_
      refine pg_i (k := 2) (j := 4) (f := 204) hx hb hown hU iu2 hw Ta0 (by decide) rfl (hU _ tw193) rfl dX2_push_24 ?_
      refine lv_iload_n hx hb dX2_push_27 rfl (lv_at hl 1 rfl) ?_
      obtain ⟨hi5, hm⟩ := ck_some hm
      refine pw_iast hx hb hw Tq4 hi5 dX2_push_28 (fun H locs hw => ?_)
      refine lv_aload_n hx hb dX2_push_29 rfl (lv_at hl 0 rfl) ?_
      refine lv_dup hx hb dX2_push_30 rfl ?_
      refine pg_i (k := 2) (j := 4) (f := 204) hx hb hown hU iu2 hw Ta0 (by decide) rfl (hU _ tw193) rfl dX2_push_31 ?_
      refine lv_iconst (v := 1) hx hb dX2_push_34 (by decide) ?_
      refine lv_iadd hx hb dX2_push_35 ?_
      refine pp_i (k := 2) (j := 4) (f := 204) hx hb hown hU iu2 tyX2_ok nmX2 hw Ta0 (by decide) rfl (hU _ tw193) rfl rfl rfl dX2_push_36 (fun H locs hw => ?_)
      obtain ⟨S_6, eS_6, hm⟩ := lt_some hm
      rw [← eS_6] at hw
      have Ta0 : TY S_6 a0 2 := by rw [eS_6]; exact Ta0
      have hE : Ext S0 S_6 := by rw [eS_6]; exact hE
      cases hm
      exact pw_vret hx hb hr hlk hw hE dX2_push_39
abbrev rm_X2_pop : Room := { frames := 0, cells := 0, slots := 0, locals := 0 }
def m_X2_pop (n : Nat) (a0 : Nat) (S0 : pq_S) : Option (Int32 × pq_S) := if (pI S0 204 a0) ≤ 0 then some (0, S0) else Option.bind (pR S0 202 a0) fun q2 => if (pI S0 204 a0) ≤ (Int32.ofNat (pN S0 q2)) then Option.bind (pR (sI S0 204 a0 ((pI S0 204 a0) - (1 : Int32))) 202 a0) fun q4 => ck (ix (pI (sI S0 204 a0 ((pI S0 204 a0) - (1 : Int32))) 204 a0) (pN (sI S0 204 a0 ((pI S0 204 a0) - (1 : Int32))) q4)) (dix _ _) (some ((pA (sI S0 204 a0 ((pI S0 204 a0) - (1 : Int32))) q4 (Int32.toNatClampNeg (pI (sI S0 204 a0 ((pI S0 204 a0) - (1 : Int32))) 204 a0))), (sI S0 204 a0 ((pI S0 204 a0) - (1 : Int32))))) else some (0, S0)
theorem tc_X2_pop : Cond.code yX2_pop cX2_pop 1 (some .int) ∈ pq_U := tw888
theorem cd_X2_pop : yX2_pop.cls = RX2 ∧ yX2_pop.cls ≠ "java/lang/invoke/MethodHandle" ∧ yX2_pop.cls ≠ "java/lang/invoke/VarHandle" ∧ (parseMethodDescriptor yX2_pop.desc).map (fun d => d.parameters.length) = some 0 := by decide +kernel
set_option maxHeartbeats 4000000 in
set_option maxRecDepth 100000 in
theorem c_X2_pop (l : Launch) (C : pq_C) (X : va_W) (n : Nat) (S0 : pq_S) (hF : WF S0) (sz : Nat) (a0 : Nat) (Ta0 : TY S0 a0 2) (r : Int32) (S1 : pq_S) (hm : m_X2_pop n a0 S0 = some (r, S1)) : MI l yX2_pop (.code yX2_pop cX2_pop 1 (some .int) :: pq_U) rm_X2_pop C X S0 sz [.ref a0] r S1 0 0 := by
  refine Met.ofW (cc := cX2_pop) (maxL := 1) (ret := (some .int)) (by decide) rfl ?_
  intro p e s m args below meth c s₁ B hml hv
  obtain ⟨rfl, hv⟩ := hv
  have hsz := hv.1
  subst hsz
  have hw := pw_entry hF hv
  have hts := atoms_spec (ws := .code yX2_pop cX2_pop 1 (some .int) :: pq_U) B.pre
  have hU : ∀ w ∈ pq_U, w.before _ s = true := fun w h => hts w (List.mem_cons_of_mem _ h)
  have hx := B.exec
  have hb := B.bytes
  have hr := B.returns
  have hown : s.vm.findClass RX2 = some m.cls := findClass_of_methodNamed B.named
  have hlk := B.notSynchronized
  have hl := lv_entry ([.ref a0]) (n := 1) (Nat.le_of_ble_eq_true rfl)
  rw [lg_entry_eq]
  generalize (lg_sl ([.ref a0]) ++ List.replicate (1 - (lg_sl ([.ref a0])).length) Slot.unset).toArray = ls at hl ⊢
  have hl : lv_has ls 1 [(0, .ref a0)] := hl
  have hE : Ext S0 S0 := Ext.rf _
  have cx : Cx p s m _ meth c cX2_pop 1 RX2 (some .int) := ⟨hx, hb, hml, hown, hU, hr, hlk⟩
  rw [m_X2_pop] at hm
  refine lv_aload_n hx hb dX2_pop_0 rfl (lv_at hl 0 rfl) ?_
  refine pg_i (k := 2) (j := 4) (f := 204) hx hb hown hU iu2 hw Ta0 (by decide) rfl (hU _ tw193) rfl dX2_pop_1 ?_
  refine lv_if_le (tgt := 19) hx hb dX2_pop_4 (by decide) (fun h1 => ?_) (fun h1 => ?_)
  · rw [if_pos h1] at hm
    refine lv_iconst (v := 0) hx hb dX2_pop_19 (by decide) ?_
    cases hm
    exact pw_iret hx hb hr rfl hlk hw hE dX2_pop_20
  · rw [if_neg h1] at hm
    refine lv_aload_n hx hb dX2_pop_7 rfl (lv_at hl 0 rfl) ?_
    refine pg_i (k := 2) (j := 4) (f := 204) hx hb hown hU iu2 hw Ta0 (by decide) rfl (hU _ tw193) rfl dX2_pop_8 ?_
    refine lv_aload_n hx hb dX2_pop_11 rfl (lv_at hl 0 rfl) ?_
    obtain ⟨q2, hq2, hm⟩ := bd_some hm
    have Tq2 : TY S0 q2 14 := hw.wf.ref (k := 2) (j := 2) Ta0 (by decide) (by decide) hq2
    refine pg_rb (k := 2) (j := 2) (f := 202) hx hb hown hU iu2 hw Ta0 (by decide) rfl (hU _ tw190) rfl hq2 dX2_pop_12 ?_
    refine pw_alenI (v := (Int32.ofNat (pN S0 q2))) hx hb hw Tq2 rfl dX2_pop_15 ?_
    refine lv_icmp_le (tgt := 21) hx hb dX2_pop_16 (by decide) (fun h3 => ?_) (fun h3 => ?_)
    · rw [if_pos h3] at hm
      refine lv_aload_n hx hb dX2_pop_21 rfl (lv_at hl 0 rfl) ?_
      refine lv_dup hx hb dX2_pop_22 rfl ?_
      refine pg_i (k := 2) (j := 4) (f := 204) hx hb hown hU iu2 hw Ta0 (by decide) rfl (hU _ tw193) rfl dX2_pop_23 ?_
      refine lv_iconst (v := 1) hx hb dX2_pop_26 (by decide) ?_
      refine lv_isub hx hb dX2_pop_27 ?_
      refine pp_i (k := 2) (j := 4) (f := 204) hx hb hown hU iu2 tyX2_ok nmX2 hw Ta0 (by decide) rfl (hU _ tw193) rfl rfl rfl dX2_pop_28 (fun H locs hw => ?_)
      refine lv_aload_n hx hb dX2_pop_31 rfl (lv_at hl 0 rfl) ?_
      obtain ⟨q4, hq4, hm⟩ := bd_some hm
      have Tq4 : TY (sI S0 204 a0 ((pI S0 204 a0) - (1 : Int32))) q4 14 := hw.wf.ref (k := 2) (j := 2) Ta0 (by decide) (by decide) hq4
      refine pg_rb (k := 2) (j := 2) (f := 202) hx hb hown hU iu2 hw Ta0 (by decide) rfl (hU _ tw190) rfl hq4 dX2_pop_32 ?_
      refine lv_aload_n hx hb dX2_pop_35 rfl (lv_at hl 0 rfl) ?_
      refine pg_i (k := 2) (j := 4) (f := 204) hx hb hown hU iu2 hw Ta0 (by decide) rfl (hU _ tw193) rfl dX2_pop_36 ?_
      obtain ⟨hi5, hm⟩ := ck_some hm
      refine pw_iald hx hb hw Tq4 hi5 dX2_pop_39 ?_
      cases hm
      exact pw_iret hx hb hr rfl hlk hw hE dX2_pop_40
    · rw [if_neg h3] at hm
      refine lv_iconst (v := 0) hx hb dX2_pop_19 (by decide) ?_
      cases hm
      exact pw_iret hx hb hr rfl hlk hw hE dX2_pop_20
abbrev rm_X3_worthOf : Room := { frames := 0, cells := 0, slots := 0, locals := 0 }
def m_X3_worthOf (n : Nat) (x0 : Int32) (S0 : pq_S) : Option (Int32 × pq_S) := some ((x0 / 4096), S0)
theorem tc_X3_worthOf : Cond.code yX3_worthOf cX3_worthOf 1 (some .int) ∈ pq_U := tw1108
theorem cd_X3_worthOf : yX3_worthOf.cls = RX3 ∧ yX3_worthOf.cls ≠ "java/lang/invoke/MethodHandle" ∧ yX3_worthOf.cls ≠ "java/lang/invoke/VarHandle" ∧ (parseMethodDescriptor yX3_worthOf.desc).map (fun d => d.parameters.length) = some 1 := by decide +kernel
set_option maxHeartbeats 4000000 in
set_option maxRecDepth 100000 in
theorem c_X3_worthOf (l : Launch) (C : pq_C) (X : va_W) (n : Nat) (S0 : pq_S) (hF : WF S0) (sz : Nat) (x0 : Int32)  (r : Int32) (S1 : pq_S) (hm : m_X3_worthOf n x0 S0 = some (r, S1)) : MI l yX3_worthOf (.code yX3_worthOf cX3_worthOf 1 (some .int) :: pq_U) rm_X3_worthOf C X S0 sz [.int x0] r S1 0 0 := by
  refine Met.ofW (cc := cX3_worthOf) (maxL := 1) (ret := (some .int)) (by decide) rfl ?_
  intro p e s m args below meth c s₁ B hml hv
  obtain ⟨rfl, hv⟩ := hv
  have hsz := hv.1
  subst hsz
  have hw := pw_entry hF hv
  have hts := atoms_spec (ws := .code yX3_worthOf cX3_worthOf 1 (some .int) :: pq_U) B.pre
  have hU : ∀ w ∈ pq_U, w.before _ s = true := fun w h => hts w (List.mem_cons_of_mem _ h)
  have hx := B.exec
  have hb := B.bytes
  have hr := B.returns
  have hown : s.vm.findClass RX3 = some m.cls := findClass_of_methodNamed B.named
  have hlk := B.notSynchronized
  have hl := lv_entry ([.int x0]) (n := 1) (Nat.le_of_ble_eq_true rfl)
  rw [lg_entry_eq]
  generalize (lg_sl ([.int x0]) ++ List.replicate (1 - (lg_sl ([.int x0])).length) Slot.unset).toArray = ls at hl ⊢
  have hl : lv_has ls 1 [(0, .int x0)] := hl
  have hE : Ext S0 S0 := Ext.rf _
  have cx : Cx p s m _ meth c cX3_worthOf 1 RX3 (some .int) := ⟨hx, hb, hml, hown, hU, hr, hlk⟩
  rw [m_X3_worthOf] at hm
  refine lv_iload_n hx hb dX3_worthOf_0 rfl (lv_at hl 0 rfl) ?_
  refine lv_sipush (v := 4096) hx hb dX3_worthOf_1 (by decide) ?_
  refine lv_idiv hx hb dX3_worthOf_4 (by decide) ?_
  cases hm
  exact pw_iret hx hb hr rfl hlk hw hE dX3_worthOf_5
abbrev rm_X3_bitsOf : Room := { frames := 0, cells := 0, slots := 0, locals := 0 }
def m_X3_bitsOf (n : Nat) (x0 : Int32) (S0 : pq_S) : Option (Int32 × pq_S) := some (((4095 : Int32) - (x0 - x0 / 4096 * 4096)), S0)
theorem tc_X3_bitsOf : Cond.code yX3_bitsOf cX3_bitsOf 1 (some .int) ∈ pq_U := tw1115
theorem cd_X3_bitsOf : yX3_bitsOf.cls = RX3 ∧ yX3_bitsOf.cls ≠ "java/lang/invoke/MethodHandle" ∧ yX3_bitsOf.cls ≠ "java/lang/invoke/VarHandle" ∧ (parseMethodDescriptor yX3_bitsOf.desc).map (fun d => d.parameters.length) = some 1 := by decide +kernel
set_option maxHeartbeats 4000000 in
set_option maxRecDepth 100000 in
theorem c_X3_bitsOf (l : Launch) (C : pq_C) (X : va_W) (n : Nat) (S0 : pq_S) (hF : WF S0) (sz : Nat) (x0 : Int32)  (r : Int32) (S1 : pq_S) (hm : m_X3_bitsOf n x0 S0 = some (r, S1)) : MI l yX3_bitsOf (.code yX3_bitsOf cX3_bitsOf 1 (some .int) :: pq_U) rm_X3_bitsOf C X S0 sz [.int x0] r S1 0 0 := by
  refine Met.ofW (cc := cX3_bitsOf) (maxL := 1) (ret := (some .int)) (by decide) rfl ?_
  intro p e s m args below meth c s₁ B hml hv
  obtain ⟨rfl, hv⟩ := hv
  have hsz := hv.1
  subst hsz
  have hw := pw_entry hF hv
  have hts := atoms_spec (ws := .code yX3_bitsOf cX3_bitsOf 1 (some .int) :: pq_U) B.pre
  have hU : ∀ w ∈ pq_U, w.before _ s = true := fun w h => hts w (List.mem_cons_of_mem _ h)
  have hx := B.exec
  have hb := B.bytes
  have hr := B.returns
  have hown : s.vm.findClass RX3 = some m.cls := findClass_of_methodNamed B.named
  have hlk := B.notSynchronized
  have hl := lv_entry ([.int x0]) (n := 1) (Nat.le_of_ble_eq_true rfl)
  rw [lg_entry_eq]
  generalize (lg_sl ([.int x0]) ++ List.replicate (1 - (lg_sl ([.int x0])).length) Slot.unset).toArray = ls at hl ⊢
  have hl : lv_has ls 1 [(0, .int x0)] := hl
  have hE : Ext S0 S0 := Ext.rf _
  have cx : Cx p s m _ meth c cX3_bitsOf 1 RX3 (some .int) := ⟨hx, hb, hml, hown, hU, hr, hlk⟩
  rw [m_X3_bitsOf] at hm
  refine lv_sipush (v := 4095) hx hb dX3_bitsOf_0 (by decide) ?_
  refine lv_iload_n hx hb dX3_bitsOf_3 rfl (lv_at hl 0 rfl) ?_
  refine lv_sipush (v := 4096) hx hb dX3_bitsOf_4 (by decide) ?_
  refine lv_irem hx hb dX3_bitsOf_7 (by decide) ?_
  refine lv_isub hx hb dX3_bitsOf_8 ?_
  cases hm
  exact pw_iret hx hb hr rfl hlk hw hE dX3_bitsOf_9
abbrev rm_X3_bestBy : Room := { frames := 1, cells := 0, slots := 0, locals := 40 }
def m_X3_bestBy (n : Nat) (a0 : Nat) (x1 : Int32) (S0 : pq_S) : Option (Int32 × pq_S) := lt_ (if ((Int32.ofNat (pN S0 a0)) - (1 : Int32)) < x1 then ((Int32.ofNat (pN S0 a0)) - (1 : Int32)) else x1) fun v1 => if v1 < 0 then some (4095, S0) else ck (ix v1 (pN S0 a0)) (dix _ _) (some ((pA S0 a0 (Int32.toNatClampNeg v1)), S0))
theorem tc_X3_bestBy : Cond.code yX3_bestBy cX3_bestBy 3 (some .int) ∈ pq_U := tw1104
theorem cd_X3_bestBy : yX3_bestBy.cls = RX3 ∧ yX3_bestBy.cls ≠ "java/lang/invoke/MethodHandle" ∧ yX3_bestBy.cls ≠ "java/lang/invoke/VarHandle" ∧ (parseMethodDescriptor yX3_bestBy.desc).map (fun d => d.parameters.length) = some 2 := by decide +kernel
set_option maxHeartbeats 4000000 in
set_option maxRecDepth 100000 in
theorem c_X3_bestBy (l : Launch) (C : pq_C) (X : va_W) (n : Nat) (S0 : pq_S) (hF : WF S0) (sz : Nat) (a0 : Nat) (x1 : Int32) (Ta0 : TY S0 a0 14) (r : Int32) (S1 : pq_S) (hm : m_X3_bestBy n a0 x1 S0 = some (r, S1)) : MI l yX3_bestBy (.code yX3_bestBy cX3_bestBy 3 (some .int) :: pq_U) rm_X3_bestBy C X S0 sz [.ref a0, .int x1] r S1 0 0 := by
  refine Met.ofW (cc := cX3_bestBy) (maxL := 3) (ret := (some .int)) (by decide) rfl ?_
  intro p e s m args below meth c s₁ B hml hv
  obtain ⟨rfl, hv⟩ := hv
  have hsz := hv.1
  subst hsz
  have hw := pw_entry hF hv
  have hts := atoms_spec (ws := .code yX3_bestBy cX3_bestBy 3 (some .int) :: pq_U) B.pre
  have hU : ∀ w ∈ pq_U, w.before _ s = true := fun w h => hts w (List.mem_cons_of_mem _ h)
  have hx := B.exec
  have hb := B.bytes
  have hr := B.returns
  have hown : s.vm.findClass RX3 = some m.cls := findClass_of_methodNamed B.named
  have hlk := B.notSynchronized
  have hl := lv_entry ([.ref a0, .int x1]) (n := 3) (Nat.le_of_ble_eq_true rfl)
  rw [lg_entry_eq]
  generalize (lg_sl ([.ref a0, .int x1]) ++ List.replicate (3 - (lg_sl ([.ref a0, .int x1])).length) Slot.unset).toArray = ls at hl ⊢
  have hl : lv_has ls 3 [(0, .ref a0), (1, .int x1)] := hl
  have hE : Ext S0 S0 := Ext.rf _
  have cx : Cx p s m _ meth c cX3_bestBy 3 RX3 (some .int) := ⟨hx, hb, hml, hown, hU, hr, hlk⟩
  rw [m_X3_bestBy] at hm
  refine lv_iload_n hx hb dX3_bestBy_0 rfl (lv_at hl 1 rfl) ?_
  refine lv_aload_n hx hb dX3_bestBy_1 rfl (lv_at hl 0 rfl) ?_
  refine pw_alenI (v := (Int32.ofNat (pN S0 a0))) hx hb hw Ta0 rfl dX3_bestBy_2 ?_
  refine lv_iconst (v := 1) hx hb dX3_bestBy_3 (by decide) ?_
  refine lv_isub hx hb dX3_bestBy_4 ?_
  refine va_mmin hx hb (by rw [hml]; exact hl.1.symm) hown (hU _ tw1105) (hU _ twm_min_s) (hU _ twm_i) (hU _ twm_min_c) (Nat.le_of_ble_eq_true rfl) (Nat.le_of_ble_eq_true rfl) (Nat.zero_le _) (Nat.zero_le _) dX3_bestBy_5 ?_
  obtain ⟨v1, ev1, hm⟩ := lt_some hm
  refine lv_nmI ev1 ?_
  refine lv_istore_n (lv' := [(2, .int v1), (0, .ref a0), (1, .int x1)]) hx hb dX3_bestBy_8 rfl hl (by decide) rfl (fun ls hl => ?_)
  refine lv_iload_n hx hb dX3_bestBy_9 rfl (lv_at hl 0 rfl) ?_
  refine lv_if_lt (tgt := 19) hx hb dX3_bestBy_10 (by decide) (fun h2 => ?_) (fun h2 => ?_)
  · rw [if_pos h2] at hm
    refine lv_sipush (v := 4095) hx hb dX3_bestBy_19 (by decide) ?_
    cases hm
    exact pw_iret hx hb hr rfl hlk hw hE dX3_bestBy_22
  · rw [if_neg h2] at hm
    refine lv_aload_n hx hb dX3_bestBy_13 rfl (lv_at hl 1 rfl) ?_
    refine lv_iload_n hx hb dX3_bestBy_14 rfl (lv_at hl 0 rfl) ?_
    obtain ⟨hi3, hm⟩ := ck_some hm
    refine pw_iald hx hb hw Ta0 hi3 dX3_bestBy_15 ?_
    refine lv_goto (tgt := 22) hx hb dX3_bestBy_16 (by decide) ?_
    cases hm
    exact pw_iret hx hb hr rfl hlk hw hE dX3_bestBy_22
abbrev rm_X4_nightOf : Room := { frames := 0, cells := 0, slots := 0, locals := 0 }
def b_X4_nightOf_29 (n : Nat) (a0 : Nat) (x2 : Int32) (S : pq_S) : Option (Int32 × pq_S) := if (pI S 406 a0) = (-1) then some ((-1), S) else Option.bind (pR S 403 a0) fun q8 => ck (ix x2 (pN S q8)) (dix _ _) (some ((pA S q8 (Int32.toNatClampNeg x2)), S))
set_option maxHeartbeats 4000000 in
set_option maxRecDepth 100000 in
theorem wb_X4_nightOf_29 {p : Program} {l : Launch} {e : Env} {s : State} {m : MethodId} {args : Array Value} {below : List Frame} {meth : Method} {c : Code} (cx : Cx p s m args meth c cX4_nightOf 3 RX4 (some .int)) (C : pq_C) (X : va_W) (S0 : pq_S) (n : Nat) (r : Int32) (S1 : pq_S) : ∀ (a0 : Nat) (x2 : Int32) (S : pq_S) (H : Heap) (locs : List Loc) (ls : Array Slot), PW C X S (pq_F C X S0 s.heap.size) H locs s → Ext S0 S → TY S a0 4 → lv_has ls 3 [(0, .ref a0), (2, .int x2)] → b_X4_nightOf_29 n a0 x2 S = some (r, S1) → W p l e rm_X4_nightOf s m args below meth c H locs 0 0 (MQ below (QcI C X S0 s.heap.size r S1) args s 0 0 (pq_F C X S0 s.heap.size)) (F0 m 29 ls []) := by
  obtain ⟨hx, hb, hml, hown, hU, hr, hlk⟩ := id cx
  intro a0 x2 S H locs ls hw hE Ta0 hl hm
  rw [b_X4_nightOf_29] at hm
  refine lv_aload_n hx hb dX4_nightOf_29 rfl (lv_at hl 0 rfl) ?_
  refine pg_i (k := 4) (j := 6) (f := 406) hx hb hown hU iu4 hw Ta0 (by decide) rfl (hU _ tw284) rfl dX4_nightOf_30 ?_
  refine lv_iconst (v := (-1)) hx hb dX4_nightOf_33 (by decide) ?_
  refine lv_icmp_ne (tgt := 41) hx hb dX4_nightOf_34 (by decide) (fun h7 => ?_) (fun h7 => ?_)
  · rw [if_neg h7] at hm
    refine lv_aload_n hx hb dX4_nightOf_41 rfl (lv_at hl 0 rfl) ?_
    obtain ⟨q8, hq8, hm⟩ := bd_some hm
    have Tq8 : TY S q8 14 := hw.wf.ref (k := 4) (j := 3) Ta0 (by decide) (by decide) hq8
    refine pg_rb (k := 4) (j := 3) (f := 403) hx hb hown hU iu4 hw Ta0 (by decide) rfl (hU _ tw281) rfl hq8 dX4_nightOf_42 ?_
    refine lv_iload_n hx hb dX4_nightOf_45 rfl (lv_at hl 1 rfl) ?_
    obtain ⟨hi9, hm⟩ := ck_some hm
    refine pw_iald hx hb hw Tq8 hi9 dX4_nightOf_46 ?_
    cases hm
    exact pw_iret hx hb hr rfl hlk hw hE dX4_nightOf_47
  · rw [if_pos h7] at hm
    refine lv_iconst (v := (-1)) hx hb dX4_nightOf_37 (by decide) ?_
    refine lv_goto (tgt := 47) hx hb dX4_nightOf_38 (by decide) ?_
    cases hm
    exact pw_iret hx hb hr rfl hlk hw hE dX4_nightOf_47
def b_X4_nightOf_2 (n : Nat) : Nat → Nat → Int32 → Int32 → pq_S → Option (Int32 × pq_S)
  | 0, _, _, _, _ => none
  | f + 1, a0, x1, x2, S => if (pI S 405 a0) ≤ x2 then some ((-1), S) else Option.bind (pR S 401 a0) fun q2 => if (Int32.ofNat (pN S q2)) ≤ x2 then some ((-1), S) else Option.bind (pR S 401 a0) fun q4 => ck (ix x2 (pN S q4)) (dix _ _) (if (pA S q4 (Int32.toNatClampNeg x2)) = x1 then b_X4_nightOf_29 n a0 x2 S else b_X4_nightOf_2 n f a0 x1 (x2 + 1) S)
set_option maxHeartbeats 4000000 in
set_option maxRecDepth 100000 in
theorem wb_X4_nightOf_2 {p : Program} {l : Launch} {e : Env} {s : State} {m : MethodId} {args : Array Value} {below : List Frame} {meth : Method} {c : Code} (cx : Cx p s m args meth c cX4_nightOf 3 RX4 (some .int)) (C : pq_C) (X : va_W) (S0 : pq_S) (n : Nat) (r : Int32) (S1 : pq_S) : ∀ (f : Nat) (a0 : Nat) (x1 : Int32) (x2 : Int32) (S : pq_S) (H : Heap) (locs : List Loc) (ls : Array Slot), PW C X S (pq_F C X S0 s.heap.size) H locs s → Ext S0 S → TY S a0 4 → lv_has ls 3 [(0, .ref a0), (1, .int x1), (2, .int x2)] → b_X4_nightOf_2 n f a0 x1 x2 S = some (r, S1) → W p l e rm_X4_nightOf s m args below meth c H locs 0 0 (MQ below (QcI C X S0 s.heap.size r S1) args s 0 0 (pq_F C X S0 s.heap.size)) (F0 m 2 ls []) := by
  obtain ⟨hx, hb, hml, hown, hU, hr, hlk⟩ := id cx
  intro f
  induction f with
  | zero =>
    intro a0 x1 x2 S H locs ls hw hE Ta0 hl hm
    cases hm
  | succ f ih =>
    intro a0 x1 x2 S H locs ls hw hE Ta0 hl hm
    rw [b_X4_nightOf_2] at hm
    refine lv_iload_n hx hb dX4_nightOf_2 rfl (lv_at hl 2 rfl) ?_
    refine lv_aload_n hx hb dX4_nightOf_3 rfl (lv_at hl 0 rfl) ?_
    refine pg_i (k := 4) (j := 5) (f := 405) hx hb hown hU iu4 hw Ta0 (by decide) rfl (hU _ tw283) rfl dX4_nightOf_4 ?_
    refine lv_icmp_ge (tgt := 54) hx hb dX4_nightOf_7 (by decide) (fun h1 => ?_) (fun h1 => ?_)
    · rw [if_pos h1] at hm
      refine lv_iconst (v := (-1)) hx hb dX4_nightOf_54 (by decide) ?_
      cases hm
      exact pw_iret hx hb hr rfl hlk hw hE dX4_nightOf_55
    · rw [if_neg h1] at hm
      refine lv_iload_n hx hb dX4_nightOf_10 rfl (lv_at hl 2 rfl) ?_
      refine lv_aload_n hx hb dX4_nightOf_11 rfl (lv_at hl 0 rfl) ?_
      obtain ⟨q2, hq2, hm⟩ := bd_some hm
      have Tq2 : TY S q2 14 := hw.wf.ref (k := 4) (j := 1) Ta0 (by decide) (by decide) hq2
      refine pg_rb (k := 4) (j := 1) (f := 401) hx hb hown hU iu4 hw Ta0 (by decide) rfl (hU _ tw279) rfl hq2 dX4_nightOf_12 ?_
      refine pw_alenI (v := (Int32.ofNat (pN S q2))) hx hb hw Tq2 rfl dX4_nightOf_15 ?_
      refine lv_icmp_ge (tgt := 54) hx hb dX4_nightOf_16 (by decide) (fun h3 => ?_) (fun h3 => ?_)
      · rw [if_pos h3] at hm
        refine lv_iconst (v := (-1)) hx hb dX4_nightOf_54 (by decide) ?_
        cases hm
        exact pw_iret hx hb hr rfl hlk hw hE dX4_nightOf_55
      · rw [if_neg h3] at hm
        refine lv_aload_n hx hb dX4_nightOf_19 rfl (lv_at hl 0 rfl) ?_
        obtain ⟨q4, hq4, hm⟩ := bd_some hm
        have Tq4 : TY S q4 14 := hw.wf.ref (k := 4) (j := 1) Ta0 (by decide) (by decide) hq4
        refine pg_rb (k := 4) (j := 1) (f := 401) hx hb hown hU iu4 hw Ta0 (by decide) rfl (hU _ tw279) rfl hq4 dX4_nightOf_20 ?_
        refine lv_iload_n hx hb dX4_nightOf_23 rfl (lv_at hl 2 rfl) ?_
        obtain ⟨hi5, hm⟩ := ck_some hm
        refine pw_iald hx hb hw Tq4 hi5 dX4_nightOf_24 ?_
        refine lv_iload_n hx hb dX4_nightOf_25 rfl (lv_at hl 1 rfl) ?_
        refine lv_icmp_ne (tgt := 48) hx hb dX4_nightOf_26 (by decide) (fun h6 => ?_) (fun h6 => ?_)
        · rw [if_neg h6] at hm
          refine lv_iinc (v := (x2 + 1)) (lv' := [(2, .int (x2 + 1)), (0, .ref a0), (1, .int x1)]) hx hb dX4_nightOf_48 hl (k := 2) rfl rfl (by decide) rfl (fun ls hl => ?_)
          refine lv_goto (tgt := 2) hx hb dX4_nightOf_51 (by decide) ?_
          exact ih a0 x1 (x2 + 1) S _ _ _ hw hE Ta0 (lv_sub hl [1, 2, 0] rfl) hm
        · rw [if_pos h6] at hm
          exact wb_X4_nightOf_29 cx C X S0 n r S1 a0 x2 S _ _ _ hw hE Ta0 (lv_sub hl [0, 2] rfl) hm
def m_X4_nightOf (n : Nat) (a0 : Nat) (x1 : Int32) (S0 : pq_S) : Option (Int32 × pq_S) := b_X4_nightOf_2 n n a0 x1 0 S0
theorem tc_X4_nightOf : Cond.code yX4_nightOf cX4_nightOf 3 (some .int) ∈ pq_U := tw1254
theorem cd_X4_nightOf : yX4_nightOf.cls = RX4 ∧ yX4_nightOf.cls ≠ "java/lang/invoke/MethodHandle" ∧ yX4_nightOf.cls ≠ "java/lang/invoke/VarHandle" ∧ (parseMethodDescriptor yX4_nightOf.desc).map (fun d => d.parameters.length) = some 1 := by decide +kernel
set_option maxHeartbeats 4000000 in
set_option maxRecDepth 100000 in
theorem c_X4_nightOf (l : Launch) (C : pq_C) (X : va_W) (n : Nat) (S0 : pq_S) (hF : WF S0) (sz : Nat) (a0 : Nat) (x1 : Int32) (Ta0 : TY S0 a0 4) (r : Int32) (S1 : pq_S) (hm : m_X4_nightOf n a0 x1 S0 = some (r, S1)) : MI l yX4_nightOf (.code yX4_nightOf cX4_nightOf 3 (some .int) :: pq_U) rm_X4_nightOf C X S0 sz [.ref a0, .int x1] r S1 0 0 := by
  refine Met.ofW (cc := cX4_nightOf) (maxL := 3) (ret := (some .int)) (by decide) rfl ?_
  intro p e s m args below meth c s₁ B hml hv
  obtain ⟨rfl, hv⟩ := hv
  have hsz := hv.1
  subst hsz
  have hw := pw_entry hF hv
  have hts := atoms_spec (ws := .code yX4_nightOf cX4_nightOf 3 (some .int) :: pq_U) B.pre
  have hU : ∀ w ∈ pq_U, w.before _ s = true := fun w h => hts w (List.mem_cons_of_mem _ h)
  have hx := B.exec
  have hb := B.bytes
  have hr := B.returns
  have hown : s.vm.findClass RX4 = some m.cls := findClass_of_methodNamed B.named
  have hlk := B.notSynchronized
  have hl := lv_entry ([.ref a0, .int x1]) (n := 3) (Nat.le_of_ble_eq_true rfl)
  rw [lg_entry_eq]
  generalize (lg_sl ([.ref a0, .int x1]) ++ List.replicate (3 - (lg_sl ([.ref a0, .int x1])).length) Slot.unset).toArray = ls at hl ⊢
  have hl : lv_has ls 3 [(0, .ref a0), (1, .int x1)] := hl
  have hE : Ext S0 S0 := Ext.rf _
  have cx : Cx p s m _ meth c cX4_nightOf 3 RX4 (some .int) := ⟨hx, hb, hml, hown, hU, hr, hlk⟩
  rw [m_X4_nightOf] at hm
  refine lv_iconst (v := 0) hx hb dX4_nightOf_0 (by decide) ?_
  refine lv_istore_n (lv' := [(2, .int 0), (0, .ref a0), (1, .int x1)]) hx hb dX4_nightOf_1 rfl hl (by decide) rfl (fun ls hl => ?_)
  exact wb_X4_nightOf_2 cx C X S0 n r S1 n a0 x1 0 S0 _ _ _ hw hE Ta0 (lv_sub hl [1, 2, 0] rfl) hm
abbrev rm_X4_takenOf : Room := { frames := 0, cells := 0, slots := 0, locals := 0 }
def m_X4_takenOf (n : Nat) (a0 : Nat) (x1 : Int32) (S0 : pq_S) : Option (Int32 × pq_S) := if x1 < 0 then some (25, S0) else Option.bind (pR S0 402 a0) fun q2 => if (Int32.ofNat (pN S0 q2)) ≤ x1 then some (25, S0) else Option.bind (pR S0 402 a0) fun q4 => ck (ix x1 (pN S0 q4)) (dix _ _) (some ((pA S0 q4 (Int32.toNatClampNeg x1)), S0))
theorem tc_X4_takenOf : Cond.code yX4_takenOf cX4_takenOf 2 (some .int) ∈ pq_U := tw1222
theorem cd_X4_takenOf : yX4_takenOf.cls = RX4 ∧ yX4_takenOf.cls ≠ "java/lang/invoke/MethodHandle" ∧ yX4_takenOf.cls ≠ "java/lang/invoke/VarHandle" ∧ (parseMethodDescriptor yX4_takenOf.desc).map (fun d => d.parameters.length) = some 1 := by decide +kernel
set_option maxHeartbeats 4000000 in
set_option maxRecDepth 100000 in
theorem c_X4_takenOf (l : Launch) (C : pq_C) (X : va_W) (n : Nat) (S0 : pq_S) (hF : WF S0) (sz : Nat) (a0 : Nat) (x1 : Int32) (Ta0 : TY S0 a0 4) (r : Int32) (S1 : pq_S) (hm : m_X4_takenOf n a0 x1 S0 = some (r, S1)) : MI l yX4_takenOf (.code yX4_takenOf cX4_takenOf 2 (some .int) :: pq_U) rm_X4_takenOf C X S0 sz [.ref a0, .int x1] r S1 0 0 := by
  refine Met.ofW (cc := cX4_takenOf) (maxL := 2) (ret := (some .int)) (by decide) rfl ?_
  intro p e s m args below meth c s₁ B hml hv
  obtain ⟨rfl, hv⟩ := hv
  have hsz := hv.1
  subst hsz
  have hw := pw_entry hF hv
  have hts := atoms_spec (ws := .code yX4_takenOf cX4_takenOf 2 (some .int) :: pq_U) B.pre
  have hU : ∀ w ∈ pq_U, w.before _ s = true := fun w h => hts w (List.mem_cons_of_mem _ h)
  have hx := B.exec
  have hb := B.bytes
  have hr := B.returns
  have hown : s.vm.findClass RX4 = some m.cls := findClass_of_methodNamed B.named
  have hlk := B.notSynchronized
  have hl := lv_entry ([.ref a0, .int x1]) (n := 2) (Nat.le_of_ble_eq_true rfl)
  rw [lg_entry_eq]
  generalize (lg_sl ([.ref a0, .int x1]) ++ List.replicate (2 - (lg_sl ([.ref a0, .int x1])).length) Slot.unset).toArray = ls at hl ⊢
  have hl : lv_has ls 2 [(0, .ref a0), (1, .int x1)] := hl
  have hE : Ext S0 S0 := Ext.rf _
  have cx : Cx p s m _ meth c cX4_takenOf 2 RX4 (some .int) := ⟨hx, hb, hml, hown, hU, hr, hlk⟩
  rw [m_X4_takenOf] at hm
  refine lv_iload_n hx hb dX4_takenOf_0 rfl (lv_at hl 1 rfl) ?_
  refine lv_if_lt (tgt := 22) hx hb dX4_takenOf_1 (by decide) (fun h1 => ?_) (fun h1 => ?_)
  · rw [if_pos h1] at hm
    refine lv_bipush (v := 25) hx hb dX4_takenOf_22 (by decide) ?_
    cases hm
    exact pw_iret hx hb hr rfl hlk hw hE dX4_takenOf_24
  · rw [if_neg h1] at hm
    refine lv_iload_n hx hb dX4_takenOf_4 rfl (lv_at hl 1 rfl) ?_
    refine lv_aload_n hx hb dX4_takenOf_5 rfl (lv_at hl 0 rfl) ?_
    obtain ⟨q2, hq2, hm⟩ := bd_some hm
    have Tq2 : TY S0 q2 14 := hw.wf.ref (k := 4) (j := 2) Ta0 (by decide) (by decide) hq2
    refine pg_rb (k := 4) (j := 2) (f := 402) hx hb hown hU iu4 hw Ta0 (by decide) rfl (hU _ tw280) rfl hq2 dX4_takenOf_6 ?_
    refine pw_alenI (v := (Int32.ofNat (pN S0 q2))) hx hb hw Tq2 rfl dX4_takenOf_9 ?_
    refine lv_icmp_ge (tgt := 22) hx hb dX4_takenOf_10 (by decide) (fun h3 => ?_) (fun h3 => ?_)
    · rw [if_pos h3] at hm
      refine lv_bipush (v := 25) hx hb dX4_takenOf_22 (by decide) ?_
      cases hm
      exact pw_iret hx hb hr rfl hlk hw hE dX4_takenOf_24
    · rw [if_neg h3] at hm
      refine lv_aload_n hx hb dX4_takenOf_13 rfl (lv_at hl 0 rfl) ?_
      obtain ⟨q4, hq4, hm⟩ := bd_some hm
      have Tq4 : TY S0 q4 14 := hw.wf.ref (k := 4) (j := 2) Ta0 (by decide) (by decide) hq4
      refine pg_rb (k := 4) (j := 2) (f := 402) hx hb hown hU iu4 hw Ta0 (by decide) rfl (hU _ tw280) rfl hq4 dX4_takenOf_14 ?_
      refine lv_iload_n hx hb dX4_takenOf_17 rfl (lv_at hl 1 rfl) ?_
      obtain ⟨hi5, hm⟩ := ck_some hm
      refine pw_iald hx hb hw Tq4 hi5 dX4_takenOf_18 ?_
      refine lv_goto (tgt := 24) hx hb dX4_takenOf_19 (by decide) ?_
      cases hm
      exact pw_iret hx hb hr rfl hlk hw hE dX4_takenOf_24
abbrev rm_X4_take : Room := { frames := 0, cells := 0, slots := 0, locals := 0 }
def m_X4_take (n : Nat) (a0 : Nat) (x1 : Int32) (x2 : Int32) (S0 : pq_S) : Option pq_S := if x1 < 0 then some S0 else Option.bind (pR S0 402 a0) fun q2 => if (Int32.ofNat (pN S0 q2)) ≤ x1 then some S0 else Option.bind (pR S0 402 a0) fun q4 => ck (ix x1 (pN S0 q4)) (dix _ _) (ck (ix x1 (pN S0 q4)) (dix _ _) (lt_ (sA S0 q4 (Int32.toNatClampNeg x1) ((pA S0 q4 (Int32.toNatClampNeg x1)) + x2)) fun S_7 => some S_7))
theorem tc_X4_take : Cond.code yX4_take cX4_take 3 none ∈ pq_U := tw1243
theorem cd_X4_take : yX4_take.cls = RX4 ∧ yX4_take.cls ≠ "java/lang/invoke/MethodHandle" ∧ yX4_take.cls ≠ "java/lang/invoke/VarHandle" ∧ (parseMethodDescriptor yX4_take.desc).map (fun d => d.parameters.length) = some 2 := by decide +kernel
set_option maxHeartbeats 4000000 in
set_option maxRecDepth 100000 in
theorem c_X4_take (l : Launch) (C : pq_C) (X : va_W) (n : Nat) (S0 : pq_S) (hF : WF S0) (sz : Nat) (a0 : Nat) (x1 : Int32) (x2 : Int32) (Ta0 : TY S0 a0 4) (S1 : pq_S) (hm : m_X4_take n a0 x1 x2 S0 = some S1) : MV l yX4_take (.code yX4_take cX4_take 3 none :: pq_U) rm_X4_take C X S0 sz [.ref a0, .int x1, .int x2] S1 0 0 := by
  refine Met.ofW (cc := cX4_take) (maxL := 3) (ret := none) (by decide) rfl ?_
  intro p e s m args below meth c s₁ B hml hv
  obtain ⟨rfl, hv⟩ := hv
  have hsz := hv.1
  subst hsz
  have hw := pw_entry hF hv
  have hts := atoms_spec (ws := .code yX4_take cX4_take 3 none :: pq_U) B.pre
  have hU : ∀ w ∈ pq_U, w.before _ s = true := fun w h => hts w (List.mem_cons_of_mem _ h)
  have hx := B.exec
  have hb := B.bytes
  have hr := B.returns
  have hown : s.vm.findClass RX4 = some m.cls := findClass_of_methodNamed B.named
  have hlk := B.notSynchronized
  have hl := lv_entry ([.ref a0, .int x1, .int x2]) (n := 3) (Nat.le_of_ble_eq_true rfl)
  rw [lg_entry_eq]
  generalize (lg_sl ([.ref a0, .int x1, .int x2]) ++ List.replicate (3 - (lg_sl ([.ref a0, .int x1, .int x2])).length) Slot.unset).toArray = ls at hl ⊢
  have hl : lv_has ls 3 [(0, .ref a0), (1, .int x1), (2, .int x2)] := hl
  have hE : Ext S0 S0 := Ext.rf _
  have cx : Cx p s m _ meth c cX4_take 3 RX4 none := ⟨hx, hb, hml, hown, hU, hr, hlk⟩
  rw [m_X4_take] at hm
  refine lv_iload_n hx hb dX4_take_0 rfl (lv_at hl 1 rfl) ?_
  refine lv_if_lt (tgt := 23) hx hb dX4_take_1 (by decide) (fun h1 => ?_) (fun h1 => ?_)
  · rw [if_pos h1] at hm
    cases hm
    exact pw_vret hx hb hr hlk hw hE dX4_take_23
  · rw [if_neg h1] at hm
    refine lv_iload_n hx hb dX4_take_4 rfl (lv_at hl 1 rfl) ?_
    refine lv_aload_n hx hb dX4_take_5 rfl (lv_at hl 0 rfl) ?_
    obtain ⟨q2, hq2, hm⟩ := bd_some hm
    have Tq2 : TY S0 q2 14 := hw.wf.ref (k := 4) (j := 2) Ta0 (by decide) (by decide) hq2
    refine pg_rb (k := 4) (j := 2) (f := 402) hx hb hown hU iu4 hw Ta0 (by decide) rfl (hU _ tw280) rfl hq2 dX4_take_6 ?_
    refine pw_alenI (v := (Int32.ofNat (pN S0 q2))) hx hb hw Tq2 rfl dX4_take_9 ?_
    refine lv_icmp_ge (tgt := 23) hx hb dX4_take_10 (by decide) (fun h3 => ?_) (fun h3 => ?_)
    · rw [if_pos h3] at hm
      cases hm
      exact pw_vret hx hb hr hlk hw hE dX4_take_23
    · rw [if_neg h3] at hm
      refine lv_aload_n hx hb dX4_take_13 rfl (lv_at hl 0 rfl) ?_
      obtain ⟨q4, hq4, hm⟩ := bd_some hm
      have Tq4 : TY S0 q4 14 := hw.wf.ref (k := 4) (j := 2) Ta0 (by decide) (by decide) hq4
      refine pg_rb (k := 4) (j := 2) (f := 402) hx hb hown hU iu4 hw Ta0 (by decide) rfl (hU _ tw280) rfl hq4 dX4_take_14 ?_
      refine lv_iload_n hx hb dX4_take_17 rfl (lv_at hl 1 rfl) ?_
      refine lv_dup2_11 hx hb dX4_take_18 rfl rfl ?_
      obtain ⟨hi5, hm⟩ := ck_some hm
      refine pw_iald hx hb hw Tq4 hi5 dX4_take_19 ?_
      refine lv_iload_n hx hb dX4_take_20 rfl (lv_at hl 2 rfl) ?_
      refine lv_iadd hx hb dX4_take_21 ?_
      obtain ⟨hi6, hm⟩ := ck_some hm
      refine pw_iast hx hb hw Tq4 hi6 dX4_take_22 (fun H locs hw => ?_)
      obtain ⟨S_7, eS_7, hm⟩ := lt_some hm
      rw [← eS_7] at hw
      have Ta0 : TY S_7 a0 4 := by rw [eS_7]; exact Ta0
      have hE : Ext S0 S_7 := by rw [eS_7]; exact hE
      cases hm
      exact pw_vret hx hb hr hlk hw hE dX4_take_23
abbrev rm_X4_putIn : Room := { frames := 1, cells := 0, slots := 0, locals := 21 }
def b_X4_putIn_52 (n : Nat) (a0 : Nat) (x2 : Int32) (x5 : Int32) (S : pq_S) : Option (Int32 × pq_S) := cb (m_X4_takenOf n a0 x5 S) fun r11 S_9 => some ((((x5 * (32 : Int32)) + r11) + x2), S_9)
set_option maxHeartbeats 4000000 in
set_option maxRecDepth 100000 in
theorem wb_X4_putIn_52 {p : Program} {l : Launch} {e : Env} {s : State} {m : MethodId} {args : Array Value} {below : List Frame} {meth : Method} {c : Code} (cx : Cx p s m args meth c cX4_putIn 6 RX4 (some .int)) (C : pq_C) (X : va_W) (S0 : pq_S) (n : Nat) (r : Int32) (S1 : pq_S) : ∀ (a0 : Nat) (x2 : Int32) (x5 : Int32) (S : pq_S) (H : Heap) (locs : List Loc) (ls : Array Slot), PW C X S (pq_F C X S0 s.heap.size) H locs s → Ext S0 S → TY S a0 4 → lv_has ls 6 [(0, .ref a0), (2, .int x2), (5, .int x5)] → b_X4_putIn_52 n a0 x2 x5 S = some (r, S1) → W p l e rm_X4_putIn s m args below meth c H locs 0 0 (MQ below (QcI C X S0 s.heap.size r S1) args s 0 0 (pq_F C X S0 s.heap.size)) (F0 m 52 ls []) := by
  obtain ⟨hx, hb, hml, hown, hU, hr, hlk⟩ := id cx
  intro a0 x2 x5 S H locs ls hw hE Ta0 hl hm
  rw [b_X4_putIn_52] at hm
  refine lv_iload hx hb dX4_putIn_52 (lv_at hl 2 rfl) ?_
  refine lv_bipush (v := 32) hx hb dX4_putIn_54 (by decide) ?_
  refine lv_imul hx hb dX4_putIn_56 ?_
  refine lv_aload_n hx hb dX4_putIn_57 rfl (lv_at hl 0 rfl) ?_
  refine lv_iload hx hb dX4_putIn_58 (lv_at hl 2 rfl) ?_
  obtain ⟨r11, S_9, hq10, hm⟩ := cb_some hm
  refine pw_ci (va_runV (As := [.int x5]) (rest := [.int (x5 * (32 : Int32))]) ⟨hx, hb, hml, hown, hU⟩ (c_X4_takenOf l C X n S hw.wf _ a0 x5 (Ta0) r11 S_9 hq10) (cwV 1 hU (pq_gV tw1219 tw1221 ts93 tw9 tc_X4_takenOf) rfl rfl rfl cd_X4_takenOf ⟨Nat.le_of_ble_eq_true rfl, Nat.le_of_ble_eq_true rfl⟩) (pw_preV hw Ta0 (by decide) rfl) rfl rfl hl.1 rfl (lv_room (Nat.le_of_ble_eq_true rfl)) dX4_putIn_60 ⟨Nat.zero_le _, Nat.zero_le _⟩) hw (fun H locs hw hx12 => ?_)
  have Ta0 : TY S_9 a0 4 := ty_ext hx12 Ta0
  have hE : Ext S0 S_9 := Ext.tr hE hx12
  refine lv_iadd hx hb dX4_putIn_63 ?_
  refine lv_iload_n hx hb dX4_putIn_64 rfl (lv_at hl 1 rfl) ?_
  refine lv_iadd hx hb dX4_putIn_65 ?_
  cases hm
  exact pw_iret hx hb hr rfl hlk hw hE dX4_putIn_66
def b_X4_putIn_33 (n : Nat) : Nat → Nat → Int32 → Int32 → Int32 → Int32 → pq_S → Option (Int32 × pq_S)
  | 0, _, _, _, _, _, _ => none
  | f + 1, a0, x2, x3, x4, x5, S => if x4 ≤ x5 then some (1024, S) else cb (m_X4_takenOf n a0 x5 S) fun r6 S_4 => if x3 < (r6 + x2) then b_X4_putIn_33 n f a0 x2 x3 x4 (x5 + 1) S_4 else b_X4_putIn_52 n a0 x2 x5 S_4
set_option maxHeartbeats 4000000 in
set_option maxRecDepth 100000 in
theorem wb_X4_putIn_33 {p : Program} {l : Launch} {e : Env} {s : State} {m : MethodId} {args : Array Value} {below : List Frame} {meth : Method} {c : Code} (cx : Cx p s m args meth c cX4_putIn 6 RX4 (some .int)) (C : pq_C) (X : va_W) (S0 : pq_S) (n : Nat) (r : Int32) (S1 : pq_S) : ∀ (f : Nat) (a0 : Nat) (x2 : Int32) (x3 : Int32) (x4 : Int32) (x5 : Int32) (S : pq_S) (H : Heap) (locs : List Loc) (ls : Array Slot), PW C X S (pq_F C X S0 s.heap.size) H locs s → Ext S0 S → TY S a0 4 → lv_has ls 6 [(0, .ref a0), (2, .int x2), (3, .int x3), (4, .int x4), (5, .int x5)] → b_X4_putIn_33 n f a0 x2 x3 x4 x5 S = some (r, S1) → W p l e rm_X4_putIn s m args below meth c H locs 0 0 (MQ below (QcI C X S0 s.heap.size r S1) args s 0 0 (pq_F C X S0 s.heap.size)) (F0 m 33 ls []) := by
  obtain ⟨hx, hb, hml, hown, hU, hr, hlk⟩ := id cx
  intro f
  induction f with
  | zero =>
    intro a0 x2 x3 x4 x5 S H locs ls hw hE Ta0 hl hm
    cases hm
  | succ f ih =>
    intro a0 x2 x3 x4 x5 S H locs ls hw hE Ta0 hl hm
    rw [b_X4_putIn_33] at hm
    refine lv_iload hx hb dX4_putIn_33 (lv_at hl 4 rfl) ?_
    refine lv_iload hx hb dX4_putIn_35 (lv_at hl 3 rfl) ?_
    refine lv_icmp_ge (tgt := 73) hx hb dX4_putIn_37 (by decide) (fun h3 => ?_) (fun h3 => ?_)
    · rw [if_pos h3] at hm
      refine lv_sipush (v := 1024) hx hb dX4_putIn_73 (by decide) ?_
      cases hm
      exact pw_iret hx hb hr rfl hlk hw hE dX4_putIn_76
    · rw [if_neg h3] at hm
      refine lv_aload_n hx hb dX4_putIn_40 rfl (lv_at hl 0 rfl) ?_
      refine lv_iload hx hb dX4_putIn_41 (lv_at hl 4 rfl) ?_
      obtain ⟨r6, S_4, hq5, hm⟩ := cb_some hm
      refine pw_ci (va_runV (As := [.int x5]) (rest := []) ⟨hx, hb, hml, hown, hU⟩ (c_X4_takenOf l C X n S hw.wf _ a0 x5 (Ta0) r6 S_4 hq5) (cwV 1 hU (pq_gV tw1219 tw1221 ts93 tw9 tc_X4_takenOf) rfl rfl rfl cd_X4_takenOf ⟨Nat.le_of_ble_eq_true rfl, Nat.le_of_ble_eq_true rfl⟩) (pw_preV hw Ta0 (by decide) rfl) rfl rfl hl.1 rfl (lv_room (Nat.le_of_ble_eq_true rfl)) dX4_putIn_43 ⟨Nat.zero_le _, Nat.zero_le _⟩) hw (fun H locs hw hx7 => ?_)
      have Ta0 : TY S_4 a0 4 := ty_ext hx7 Ta0
      have hE : Ext S0 S_4 := Ext.tr hE hx7
      refine lv_iload_n hx hb dX4_putIn_46 rfl (lv_at hl 1 rfl) ?_
      refine lv_iadd hx hb dX4_putIn_47 ?_
      refine lv_iload_n hx hb dX4_putIn_48 rfl (lv_at hl 2 rfl) ?_
      refine lv_icmp_gt (tgt := 67) hx hb dX4_putIn_49 (by decide) (fun h8 => ?_) (fun h8 => ?_)
      · rw [if_pos h8] at hm
        refine lv_iinc (v := (x5 + 1)) (lv' := [(5, .int (x5 + 1)), (0, .ref a0), (2, .int x2), (3, .int x3), (4, .int x4)]) hx hb dX4_putIn_67 hl (k := 4) rfl rfl (by decide) rfl (fun ls hl => ?_)
        refine lv_goto (tgt := 33) hx hb dX4_putIn_70 (by decide) ?_
        exact ih a0 x2 x3 x4 (x5 + 1) S_4 _ _ _ hw hE Ta0 (lv_sub hl [1, 2, 3, 4, 0] rfl) hm
      · rw [if_neg h8] at hm
        exact wb_X4_putIn_52 cx C X S0 n r S1 a0 x2 x5 S_4 _ _ _ hw hE Ta0 (lv_sub hl [0, 1, 4] rfl) hm
def m_X4_putIn (n : Nat) (a0 : Nat) (x1 : Int32) (x2 : Int32) (x3 : Int32) (x4 : Int32) (S0 : pq_S) : Option (Int32 × pq_S) := if x1 < 1024 then if x3 < ((x1 - x1 / 32 * 32) + x2) then b_X4_putIn_33 n n a0 x2 x3 x4 ((x1 / 32) + (1 : Int32)) S0 else some ((x1 + x2), S0) else some (1024, S0)
theorem tc_X4_putIn : Cond.code yX4_putIn cX4_putIn 6 (some .int) ∈ pq_U := tw1235
theorem cd_X4_putIn : yX4_putIn.cls = RX4 ∧ yX4_putIn.cls ≠ "java/lang/invoke/MethodHandle" ∧ yX4_putIn.cls ≠ "java/lang/invoke/VarHandle" ∧ (parseMethodDescriptor yX4_putIn.desc).map (fun d => d.parameters.length) = some 4 := by decide +kernel
set_option maxHeartbeats 4000000 in
set_option maxRecDepth 100000 in
theorem c_X4_putIn (l : Launch) (C : pq_C) (X : va_W) (n : Nat) (S0 : pq_S) (hF : WF S0) (sz : Nat) (a0 : Nat) (x1 : Int32) (x2 : Int32) (x3 : Int32) (x4 : Int32) (Ta0 : TY S0 a0 4) (r : Int32) (S1 : pq_S) (hm : m_X4_putIn n a0 x1 x2 x3 x4 S0 = some (r, S1)) : MI l yX4_putIn (.code yX4_putIn cX4_putIn 6 (some .int) :: pq_U) rm_X4_putIn C X S0 sz [.ref a0, .int x1, .int x2, .int x3, .int x4] r S1 0 0 := by
  refine Met.ofW (cc := cX4_putIn) (maxL := 6) (ret := (some .int)) (by decide) rfl ?_
  intro p e s m args below meth c s₁ B hml hv
  obtain ⟨rfl, hv⟩ := hv
  have hsz := hv.1
  subst hsz
  have hw := pw_entry hF hv
  have hts := atoms_spec (ws := .code yX4_putIn cX4_putIn 6 (some .int) :: pq_U) B.pre
  have hU : ∀ w ∈ pq_U, w.before _ s = true := fun w h => hts w (List.mem_cons_of_mem _ h)
  have hx := B.exec
  have hb := B.bytes
  have hr := B.returns
  have hown : s.vm.findClass RX4 = some m.cls := findClass_of_methodNamed B.named
  have hlk := B.notSynchronized
  have hl := lv_entry ([.ref a0, .int x1, .int x2, .int x3, .int x4]) (n := 6) (Nat.le_of_ble_eq_true rfl)
  rw [lg_entry_eq]
  generalize (lg_sl ([.ref a0, .int x1, .int x2, .int x3, .int x4]) ++ List.replicate (6 - (lg_sl ([.ref a0, .int x1, .int x2, .int x3, .int x4])).length) Slot.unset).toArray = ls at hl ⊢
  have hl : lv_has ls 6 [(0, .ref a0), (1, .int x1), (2, .int x2), (3, .int x3), (4, .int x4)] := hl
  have hE : Ext S0 S0 := Ext.rf _
  have cx : Cx p s m _ meth c cX4_putIn 6 RX4 (some .int) := ⟨hx, hb, hml, hown, hU, hr, hlk⟩
  rw [m_X4_putIn] at hm
  refine lv_iload_n hx hb dX4_putIn_0 rfl (lv_at hl 1 rfl) ?_
  refine lv_sipush (v := 1024) hx hb dX4_putIn_1 (by decide) ?_
  refine lv_icmp_lt (tgt := 11) hx hb dX4_putIn_4 (by decide) (fun h1 => ?_) (fun h1 => ?_)
  · rw [if_pos h1] at hm
    refine lv_iload_n hx hb dX4_putIn_11 rfl (lv_at hl 1 rfl) ?_
    refine lv_bipush (v := 32) hx hb dX4_putIn_12 (by decide) ?_
    refine lv_irem hx hb dX4_putIn_14 (by decide) ?_
    refine lv_iload_n hx hb dX4_putIn_15 rfl (lv_at hl 2 rfl) ?_
    refine lv_iadd hx hb dX4_putIn_16 ?_
    refine lv_iload_n hx hb dX4_putIn_17 rfl (lv_at hl 3 rfl) ?_
    refine lv_icmp_gt (tgt := 25) hx hb dX4_putIn_18 (by decide) (fun h2 => ?_) (fun h2 => ?_)
    · rw [if_pos h2] at hm
      refine lv_iload_n hx hb dX4_putIn_25 rfl (lv_at hl 1 rfl) ?_
      refine lv_bipush (v := 32) hx hb dX4_putIn_26 (by decide) ?_
      refine lv_idiv hx hb dX4_putIn_28 (by decide) ?_
      refine lv_iconst (v := 1) hx hb dX4_putIn_29 (by decide) ?_
      refine lv_iadd hx hb dX4_putIn_30 ?_
      refine lv_istore (lv' := [(5, .int ((x1 / 32) + (1 : Int32))), (0, .ref a0), (1, .int x1), (2, .int x2), (3, .int x3), (4, .int x4)]) hx hb dX4_putIn_31 hl (by decide) rfl (fun ls hl => ?_)
      exact wb_X4_putIn_33 cx C X S0 n r S1 n a0 x2 x3 x4 ((x1 / 32) + (1 : Int32)) S0 _ _ _ hw hE Ta0 (lv_sub hl [1, 3, 4, 5, 0] rfl) hm
    · rw [if_neg h2] at hm
      refine lv_iload_n hx hb dX4_putIn_21 rfl (lv_at hl 1 rfl) ?_
      refine lv_iload_n hx hb dX4_putIn_22 rfl (lv_at hl 2 rfl) ?_
      refine lv_iadd hx hb dX4_putIn_23 ?_
      cases hm
      exact pw_iret hx hb hr rfl hlk hw hE dX4_putIn_24
  · rw [if_neg h1] at hm
    refine lv_sipush (v := 1024) hx hb dX4_putIn_7 (by decide) ?_
    cases hm
    exact pw_iret hx hb hr rfl hlk hw hE dX4_putIn_10
abbrev rm_X6_keepAnswer : Room := { frames := 0, cells := 0, slots := 0, locals := 0 }
def m_X6_keepAnswer (n : Nat) (a0 : Nat) (x1 : Int32) (S0 : pq_S) : Option pq_S := if x1 = 0 then some (sI S0 603 a0 ((pI S0 603 a0) + (1 : Int32))) else some (sI S0 602 a0 ((pI S0 602 a0) + (1 : Int32)))
theorem tc_X6_keepAnswer : Cond.code yX6_keepAnswer cX6_keepAnswer 2 none ∈ pq_U := tw949
theorem cd_X6_keepAnswer : yX6_keepAnswer.cls = RX6 ∧ yX6_keepAnswer.cls ≠ "java/lang/invoke/MethodHandle" ∧ yX6_keepAnswer.cls ≠ "java/lang/invoke/VarHandle" ∧ (parseMethodDescriptor yX6_keepAnswer.desc).map (fun d => d.parameters.length) = some 1 := by decide +kernel
set_option maxHeartbeats 4000000 in
set_option maxRecDepth 100000 in
theorem c_X6_keepAnswer (l : Launch) (C : pq_C) (X : va_W) (n : Nat) (S0 : pq_S) (hF : WF S0) (sz : Nat) (a0 : Nat) (x1 : Int32) (Ta0 : TY S0 a0 6) (S1 : pq_S) (hm : m_X6_keepAnswer n a0 x1 S0 = some S1) : MV l yX6_keepAnswer (.code yX6_keepAnswer cX6_keepAnswer 2 none :: pq_U) rm_X6_keepAnswer C X S0 sz [.ref a0, .int x1] S1 0 0 := by
  refine Met.ofW (cc := cX6_keepAnswer) (maxL := 2) (ret := none) (by decide) rfl ?_
  intro p e s m args below meth c s₁ B hml hv
  obtain ⟨rfl, hv⟩ := hv
  have hsz := hv.1
  subst hsz
  have hw := pw_entry hF hv
  have hts := atoms_spec (ws := .code yX6_keepAnswer cX6_keepAnswer 2 none :: pq_U) B.pre
  have hU : ∀ w ∈ pq_U, w.before _ s = true := fun w h => hts w (List.mem_cons_of_mem _ h)
  have hx := B.exec
  have hb := B.bytes
  have hr := B.returns
  have hown : s.vm.findClass RX6 = some m.cls := findClass_of_methodNamed B.named
  have hlk := B.notSynchronized
  have hl := lv_entry ([.ref a0, .int x1]) (n := 2) (Nat.le_of_ble_eq_true rfl)
  rw [lg_entry_eq]
  generalize (lg_sl ([.ref a0, .int x1]) ++ List.replicate (2 - (lg_sl ([.ref a0, .int x1])).length) Slot.unset).toArray = ls at hl ⊢
  have hl : lv_has ls 2 [(0, .ref a0), (1, .int x1)] := hl
  have hE : Ext S0 S0 := Ext.rf _
  have cx : Cx p s m _ meth c cX6_keepAnswer 2 RX6 none := ⟨hx, hb, hml, hown, hU, hr, hlk⟩
  rw [m_X6_keepAnswer] at hm
  refine lv_iload_n hx hb dX6_keepAnswer_0 rfl (lv_at hl 1 rfl) ?_
  refine lv_if_eq (tgt := 17) hx hb dX6_keepAnswer_1 (by decide) (fun h1 => ?_) (fun h1 => ?_)
  · rw [if_pos h1] at hm
    refine lv_aload_n hx hb dX6_keepAnswer_17 rfl (lv_at hl 0 rfl) ?_
    refine lv_dup hx hb dX6_keepAnswer_18 rfl ?_
    refine pg_i (k := 6) (j := 3) (f := 603) hx hb hown hU iu6 hw Ta0 (by decide) rfl (hU _ tw314) rfl dX6_keepAnswer_19 ?_
    refine lv_iconst (v := 1) hx hb dX6_keepAnswer_22 (by decide) ?_
    refine lv_iadd hx hb dX6_keepAnswer_23 ?_
    refine pp_i (k := 6) (j := 3) (f := 603) hx hb hown hU iu6 tyX6_ok nmX6 hw Ta0 (by decide) rfl (hU _ tw314) rfl rfl rfl dX6_keepAnswer_24 (fun H locs hw => ?_)
    cases hm
    exact pw_vret hx hb hr hlk hw hE dX6_keepAnswer_27
  · rw [if_neg h1] at hm
    refine lv_aload_n hx hb dX6_keepAnswer_4 rfl (lv_at hl 0 rfl) ?_
    refine lv_dup hx hb dX6_keepAnswer_5 rfl ?_
    refine pg_i (k := 6) (j := 2) (f := 602) hx hb hown hU iu6 hw Ta0 (by decide) rfl (hU _ tw312) rfl dX6_keepAnswer_6 ?_
    refine lv_iconst (v := 1) hx hb dX6_keepAnswer_9 (by decide) ?_
    refine lv_iadd hx hb dX6_keepAnswer_10 ?_
    refine pp_i (k := 6) (j := 2) (f := 602) hx hb hown hU iu6 tyX6_ok nmX6 hw Ta0 (by decide) rfl (hU _ tw312) rfl rfl rfl dX6_keepAnswer_11 (fun H locs hw => ?_)
    refine lv_goto (tgt := 27) hx hb dX6_keepAnswer_14 (by decide) ?_
    cases hm
    exact pw_vret hx hb hr hlk hw hE dX6_keepAnswer_27
abbrev rm_X7_leaking : Room := { frames := 0, cells := 0, slots := 0, locals := 0 }
def m_X7_leaking (n : Nat) (a0 : Nat) (x1 : Int32) (S0 : pq_S) : Option (Int32 × pq_S) := Option.bind (pR S0 700 a0) fun q1 => some (((x1 * (pI S0 104 q1)) / 8), S0)
theorem tc_X7_leaking : Cond.code yX7_leaking cX7_leaking 2 (some .int) ∈ pq_U := tw940
theorem cd_X7_leaking : yX7_leaking.cls = RX7 ∧ yX7_leaking.cls ≠ "java/lang/invoke/MethodHandle" ∧ yX7_leaking.cls ≠ "java/lang/invoke/VarHandle" ∧ (parseMethodDescriptor yX7_leaking.desc).map (fun d => d.parameters.length) = some 1 := by decide +kernel
set_option maxHeartbeats 4000000 in
set_option maxRecDepth 100000 in
theorem c_X7_leaking (l : Launch) (C : pq_C) (X : va_W) (n : Nat) (S0 : pq_S) (hF : WF S0) (sz : Nat) (a0 : Nat) (x1 : Int32) (Ta0 : TY S0 a0 7) (r : Int32) (S1 : pq_S) (hm : m_X7_leaking n a0 x1 S0 = some (r, S1)) : MI l yX7_leaking (.code yX7_leaking cX7_leaking 2 (some .int) :: pq_U) rm_X7_leaking C X S0 sz [.ref a0, .int x1] r S1 0 0 := by
  refine Met.ofW (cc := cX7_leaking) (maxL := 2) (ret := (some .int)) (by decide) rfl ?_
  intro p e s m args below meth c s₁ B hml hv
  obtain ⟨rfl, hv⟩ := hv
  have hsz := hv.1
  subst hsz
  have hw := pw_entry hF hv
  have hts := atoms_spec (ws := .code yX7_leaking cX7_leaking 2 (some .int) :: pq_U) B.pre
  have hU : ∀ w ∈ pq_U, w.before _ s = true := fun w h => hts w (List.mem_cons_of_mem _ h)
  have hx := B.exec
  have hb := B.bytes
  have hr := B.returns
  have hown : s.vm.findClass RX7 = some m.cls := findClass_of_methodNamed B.named
  have hlk := B.notSynchronized
  have hl := lv_entry ([.ref a0, .int x1]) (n := 2) (Nat.le_of_ble_eq_true rfl)
  rw [lg_entry_eq]
  generalize (lg_sl ([.ref a0, .int x1]) ++ List.replicate (2 - (lg_sl ([.ref a0, .int x1])).length) Slot.unset).toArray = ls at hl ⊢
  have hl : lv_has ls 2 [(0, .ref a0), (1, .int x1)] := hl
  have hE : Ext S0 S0 := Ext.rf _
  have cx : Cx p s m _ meth c cX7_leaking 2 RX7 (some .int) := ⟨hx, hb, hml, hown, hU, hr, hlk⟩
  rw [m_X7_leaking] at hm
  refine lv_iload_n hx hb dX7_leaking_0 rfl (lv_at hl 1 rfl) ?_
  refine lv_aload_n hx hb dX7_leaking_1 rfl (lv_at hl 0 rfl) ?_
  obtain ⟨q1, hq1, hm⟩ := bd_some hm
  have Tq1 : TY S0 q1 1 := hw.wf.ref (k := 7) (j := 0) Ta0 (by decide) (by decide) hq1
  refine pg_rb (k := 7) (j := 0) (f := 700) hx hb hown hU iu7 hw Ta0 (by decide) rfl (hU _ tw205) rfl hq1 dX7_leaking_2 ?_
  refine pgN_i (k := 1) (j := 4) (f := 104) hx hb hown hU iu1 hw Tq1 (by decide) rfl 38 rfl rfl dX7_leaking_5 ?_
  refine lv_imul hx hb dX7_leaking_8 ?_
  refine lv_bipush (v := 8) hx hb dX7_leaking_9 (by decide) ?_
  refine lv_idiv hx hb dX7_leaking_11 (by decide) ?_
  cases hm
  exact pw_iret hx hb hr rfl hlk hw hE dX7_leaking_12
abbrev rm_X9_has : Room := { frames := 0, cells := 0, slots := 0, locals := 0 }
def m_X9_has (n : Nat) (a0 : Nat) (x1 : Int32) (S0 : pq_S) : Option (Int32 × pq_S) := if x1 < 0 then some (0, S0) else if (pI S0 902 a0) ≤ x1 then some (0, S0) else some (1, S0)
theorem tc_X9_has : Cond.code yX9_has cX9_has 2 (some .boolean) ∈ pq_U := tw1003
theorem cd_X9_has : yX9_has.cls = RX9 ∧ yX9_has.cls ≠ "java/lang/invoke/MethodHandle" ∧ yX9_has.cls ≠ "java/lang/invoke/VarHandle" ∧ (parseMethodDescriptor yX9_has.desc).map (fun d => d.parameters.length) = some 1 := by decide +kernel
set_option maxHeartbeats 4000000 in
set_option maxRecDepth 100000 in
theorem c_X9_has (l : Launch) (C : pq_C) (X : va_W) (n : Nat) (S0 : pq_S) (hF : WF S0) (sz : Nat) (a0 : Nat) (x1 : Int32) (Ta0 : TY S0 a0 9) (r : Int32) (S1 : pq_S) (hm : m_X9_has n a0 x1 S0 = some (r, S1)) : MZ l yX9_has (.code yX9_has cX9_has 2 (some .boolean) :: pq_U) rm_X9_has C X S0 sz [.ref a0, .int x1] r S1 0 0 := by
  refine Met.ofW (cc := cX9_has) (maxL := 2) (ret := (some .boolean)) (by decide) rfl ?_
  intro p e s m args below meth c s₁ B hml hv
  obtain ⟨rfl, hv⟩ := hv
  have hsz := hv.1
  subst hsz
  have hw := pw_entry hF hv
  have hts := atoms_spec (ws := .code yX9_has cX9_has 2 (some .boolean) :: pq_U) B.pre
  have hU : ∀ w ∈ pq_U, w.before _ s = true := fun w h => hts w (List.mem_cons_of_mem _ h)
  have hx := B.exec
  have hb := B.bytes
  have hr := B.returns
  have hown : s.vm.findClass RX9 = some m.cls := findClass_of_methodNamed B.named
  have hlk := B.notSynchronized
  have hl := lv_entry ([.ref a0, .int x1]) (n := 2) (Nat.le_of_ble_eq_true rfl)
  rw [lg_entry_eq]
  generalize (lg_sl ([.ref a0, .int x1]) ++ List.replicate (2 - (lg_sl ([.ref a0, .int x1])).length) Slot.unset).toArray = ls at hl ⊢
  have hl : lv_has ls 2 [(0, .ref a0), (1, .int x1)] := hl
  have hE : Ext S0 S0 := Ext.rf _
  have cx : Cx p s m _ meth c cX9_has 2 RX9 (some .boolean) := ⟨hx, hb, hml, hown, hU, hr, hlk⟩
  rw [m_X9_has] at hm
  refine lv_iload_n hx hb dX9_has_0 rfl (lv_at hl 1 rfl) ?_
  refine lv_if_lt (tgt := 16) hx hb dX9_has_1 (by decide) (fun h1 => ?_) (fun h1 => ?_)
  · rw [if_pos h1] at hm
    refine lv_iconst (v := 0) hx hb dX9_has_16 (by decide) ?_
    cases hm
    exact pw_zret hx hb hr bz_0 hlk hw hE dX9_has_17
  · rw [if_neg h1] at hm
    refine lv_iload_n hx hb dX9_has_4 rfl (lv_at hl 1 rfl) ?_
    refine lv_aload_n hx hb dX9_has_5 rfl (lv_at hl 0 rfl) ?_
    refine pg_i (k := 9) (j := 2) (f := 902) hx hb hown hU iu9 hw Ta0 (by decide) rfl (hU _ tw92) rfl dX9_has_6 ?_
    refine lv_icmp_ge (tgt := 16) hx hb dX9_has_9 (by decide) (fun h2 => ?_) (fun h2 => ?_)
    · rw [if_pos h2] at hm
      refine lv_iconst (v := 0) hx hb dX9_has_16 (by decide) ?_
      cases hm
      exact pw_zret hx hb hr bz_0 hlk hw hE dX9_has_17
    · rw [if_neg h2] at hm
      refine lv_iconst (v := 1) hx hb dX9_has_12 (by decide) ?_
      refine lv_goto (tgt := 17) hx hb dX9_has_13 (by decide) ?_
      cases hm
      exact pw_zret hx hb hr bz_1 hlk hw hE dX9_has_17
abbrev rm_X9_isFull : Room := { frames := 0, cells := 0, slots := 0, locals := 0 }
def m_X9_isFull (n : Nat) (a0 : Nat) (S0 : pq_S) : Option (Int32 × pq_S) := Option.bind (pR S0 900 a0) fun q1 => if (((pI S0 902 a0) + (1 : Int32)) * (pI S0 901 a0)) ≤ (Int32.ofNat (pN S0 q1)) then some (0, S0) else some (1, S0)
theorem tc_X9_isFull : Cond.code yX9_isFull cX9_isFull 1 (some .boolean) ∈ pq_U := tw659
theorem cd_X9_isFull : yX9_isFull.cls = RX9 ∧ yX9_isFull.cls ≠ "java/lang/invoke/MethodHandle" ∧ yX9_isFull.cls ≠ "java/lang/invoke/VarHandle" ∧ (parseMethodDescriptor yX9_isFull.desc).map (fun d => d.parameters.length) = some 0 := by decide +kernel
set_option maxHeartbeats 4000000 in
set_option maxRecDepth 100000 in
theorem c_X9_isFull (l : Launch) (C : pq_C) (X : va_W) (n : Nat) (S0 : pq_S) (hF : WF S0) (sz : Nat) (a0 : Nat) (Ta0 : TY S0 a0 9) (r : Int32) (S1 : pq_S) (hm : m_X9_isFull n a0 S0 = some (r, S1)) : MZ l yX9_isFull (.code yX9_isFull cX9_isFull 1 (some .boolean) :: pq_U) rm_X9_isFull C X S0 sz [.ref a0] r S1 0 0 := by
  refine Met.ofW (cc := cX9_isFull) (maxL := 1) (ret := (some .boolean)) (by decide) rfl ?_
  intro p e s m args below meth c s₁ B hml hv
  obtain ⟨rfl, hv⟩ := hv
  have hsz := hv.1
  subst hsz
  have hw := pw_entry hF hv
  have hts := atoms_spec (ws := .code yX9_isFull cX9_isFull 1 (some .boolean) :: pq_U) B.pre
  have hU : ∀ w ∈ pq_U, w.before _ s = true := fun w h => hts w (List.mem_cons_of_mem _ h)
  have hx := B.exec
  have hb := B.bytes
  have hr := B.returns
  have hown : s.vm.findClass RX9 = some m.cls := findClass_of_methodNamed B.named
  have hlk := B.notSynchronized
  have hl := lv_entry ([.ref a0]) (n := 1) (Nat.le_of_ble_eq_true rfl)
  rw [lg_entry_eq]
  generalize (lg_sl ([.ref a0]) ++ List.replicate (1 - (lg_sl ([.ref a0])).length) Slot.unset).toArray = ls at hl ⊢
  have hl : lv_has ls 1 [(0, .ref a0)] := hl
  have hE : Ext S0 S0 := Ext.rf _
  have cx : Cx p s m _ meth c cX9_isFull 1 RX9 (some .boolean) := ⟨hx, hb, hml, hown, hU, hr, hlk⟩
  rw [m_X9_isFull] at hm
  refine lv_aload_n hx hb dX9_isFull_0 rfl (lv_at hl 0 rfl) ?_
  refine pg_i (k := 9) (j := 2) (f := 902) hx hb hown hU iu9 hw Ta0 (by decide) rfl (hU _ tw92) rfl dX9_isFull_1 ?_
  refine lv_iconst (v := 1) hx hb dX9_isFull_4 (by decide) ?_
  refine lv_iadd hx hb dX9_isFull_5 ?_
  refine lv_aload_n hx hb dX9_isFull_6 rfl (lv_at hl 0 rfl) ?_
  refine pg_i (k := 9) (j := 1) (f := 901) hx hb hown hU iu9 hw Ta0 (by decide) rfl (hU _ tw91) rfl dX9_isFull_7 ?_
  refine lv_imul hx hb dX9_isFull_10 ?_
  refine lv_aload_n hx hb dX9_isFull_11 rfl (lv_at hl 0 rfl) ?_
  obtain ⟨q1, hq1, hm⟩ := bd_some hm
  have Tq1 : TY S0 q1 14 := hw.wf.ref (k := 9) (j := 0) Ta0 (by decide) (by decide) hq1
  refine pg_rb (k := 9) (j := 0) (f := 900) hx hb hown hU iu9 hw Ta0 (by decide) rfl (hU _ tw90) rfl hq1 dX9_isFull_12 ?_
  refine pw_alenI (v := (Int32.ofNat (pN S0 q1))) hx hb hw Tq1 rfl dX9_isFull_15 ?_
  refine lv_icmp_le (tgt := 23) hx hb dX9_isFull_16 (by decide) (fun h2 => ?_) (fun h2 => ?_)
  · rw [if_pos h2] at hm
    refine lv_iconst (v := 0) hx hb dX9_isFull_23 (by decide) ?_
    cases hm
    exact pw_zret hx hb hr bz_0 hlk hw hE dX9_isFull_24
  · rw [if_neg h2] at hm
    refine lv_iconst (v := 1) hx hb dX9_isFull_19 (by decide) ?_
    refine lv_goto (tgt := 24) hx hb dX9_isFull_20 (by decide) ?_
    cases hm
    exact pw_zret hx hb hr bz_1 hlk hw hE dX9_isFull_24
