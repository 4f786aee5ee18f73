def tx_len (t : Nat) : Int32 := Int32.ofNat (pq_len.getD t 0) >>> (0 &&& 31)
def tx_ch (t : Nat) (i : Int32) : Int32 := ((((pq_byt.getD t []).getD i.toNatClampNeg 0) &&& 255).toUInt32 % 65536).toInt32
theorem tx_chN (t : Nat) (i : Int32) : narrow .char (.int (tx_ch t i)) = .int (tx_ch t i) := by
  have h : ∀ u : UInt32, ((u % 65536).toInt32.toUInt32 % 65536).toInt32 = (u % 65536).toInt32 := by
    intro u
    have e : (u % 65536).toInt32.toUInt32 = u % 65536 := rfl
    rw [e]
    congr 1
    apply UInt32.toNat_inj.mp
    rw [UInt32.toNat_mod, UInt32.toNat_mod]
    exact Nat.mod_mod _ _
  exact congrArg Value.int (h _)
theorem pw_preT {C : pq_C} {X : va_W} {S : pq_S} {A : Nat → Prop} {H : Heap} {locs : List Loc} {s : State} (h : PW C X S A H locs s) {t : Nat} (ht : t < pq_ns) {av : List Value} : PreV s H "java/lang/String" (C.2.2.2.2.2.2.1 t) (va_Pc (.ref (C.2.2.2.2.2.2.1 t) :: av) (CPre C X S H.size)) av := ⟨pw_blind, vk_recv h.fx.2.1 ht h.S, pw_pre h (.ref (C.2.2.2.2.2.2.1 t) :: av)⟩
theorem tc_J0_coder_7d493 : Cond.code yJ0_coder_7d493 cJ0_coder_7d493 1 (some .byte) ∈ pq_U := tw608
theorem cd_J0_coder_7d493 : yJ0_coder_7d493.cls = RJ0 ∧ yJ0_coder_7d493.cls ≠ "java/lang/invoke/MethodHandle" ∧ yJ0_coder_7d493.cls ≠ "java/lang/invoke/VarHandle" ∧ (parseMethodDescriptor yJ0_coder_7d493.desc).map (fun d => d.parameters.length) = some 0 := by decide +kernel
set_option maxHeartbeats 4000000 in
set_option maxRecDepth 100000 in
theorem c_J0_coder_7d493 (l : Launch) (C : pq_C) (X : va_W) (S0 : pq_S) (hF : WF S0) (sz : Nat) (t : Nat) (ht : t < pq_ns) : MI l yJ0_coder_7d493 (.code yJ0_coder_7d493 cJ0_coder_7d493 1 (some .byte) :: pq_U) { frames := 0, cells := 0, slots := 0, locals := 0 } C X S0 sz [.ref (C.2.2.2.2.2.2.1 t)] 0 S0 0 0 := by
  refine Met.ofW (cc := cJ0_coder_7d493) (maxL := 1) (ret := (some .byte)) (by decide) rfl ?_
  intro p e s m args below meth c s₁ B hml hv
  obtain ⟨rfl, hv⟩ := hv
  have hsz := hv.1
  subst hsz
  have hw := pw_entry hF hv
  have hts := atoms_spec (ws := .code yJ0_coder_7d493 cJ0_coder_7d493 1 (some .byte) :: pq_U) B.pre
  have hU : ∀ w ∈ pq_U, w.before _ s = true := fun w h => hts w (List.mem_cons_of_mem _ h)
  have hx := B.exec
  have hb := B.bytes
  have hr := B.returns
  have hown : s.vm.findClass RJ0 = some m.cls := findClass_of_methodNamed B.named
  have hlk := B.notSynchronized
  have hl := lv_entry ([.ref (C.2.2.2.2.2.2.1 t)]) (n := 1) (Nat.le_of_ble_eq_true rfl)
  rw [lg_entry_eq]
  generalize (lg_sl ([.ref (C.2.2.2.2.2.2.1 t)]) ++ List.replicate (1 - (lg_sl ([.ref (C.2.2.2.2.2.2.1 t)])).length) Slot.unset).toArray = ls at hl ⊢
  have hl : lv_has ls 1 [(0, .ref (C.2.2.2.2.2.2.1 t))] := hl
  have hE : Ext S0 S0 := Ext.rf _
  refine va_gets hx hb hw.fx.2.2.1 hw.S hown (hU _ tw609) (fun _ h => h) dJ0_coder_7d493_0 ?_
  refine lv_if_eq (tgt := 13) hx hb dJ0_coder_7d493_3 (by decide) (fun h => absurd h (by decide)) (fun _ => ?_)
  refine lv_aload_n hx hb dJ0_coder_7d493_6 rfl (lv_at hl 0 rfl) ?_
  refine vk_getf hx hb (hw.fx.2.1.1 t ht).2.1 hw.S hown (hU _ tw2169) (fun _ h => h) dJ0_coder_7d493_7 ?_
  refine lv_goto (tgt := 14) hx hb dJ0_coder_7d493_10 (by decide) ?_
  exact pw_iret hx hb hr rfl hlk hw hE dJ0_coder_7d493_14
theorem tc_J0_isLatin1_aae02 : Cond.code yJ0_isLatin1_aae02 cJ0_isLatin1_aae02 1 (some .boolean) ∈ pq_U := tw618
theorem cd_J0_isLatin1_aae02 : yJ0_isLatin1_aae02.cls = RJ0 ∧ yJ0_isLatin1_aae02.cls ≠ "java/lang/invoke/MethodHandle" ∧ yJ0_isLatin1_aae02.cls ≠ "java/lang/invoke/VarHandle" ∧ (parseMethodDescriptor yJ0_isLatin1_aae02.desc).map (fun d => d.parameters.length) = some 0 := by decide +kernel
set_option maxHeartbeats 4000000 in
set_option maxRecDepth 100000 in
theorem c_J0_isLatin1_aae02 (l : Launch) (C : pq_C) (X : va_W) (S0 : pq_S) (hF : WF S0) (sz : Nat) (t : Nat) (ht : t < pq_ns) : MZ l yJ0_isLatin1_aae02 (.code yJ0_isLatin1_aae02 cJ0_isLatin1_aae02 1 (some .boolean) :: pq_U) { frames := 0, cells := 0, slots := 0, locals := 0 } C X S0 sz [.ref (C.2.2.2.2.2.2.1 t)] 1 S0 0 0 := by
  refine Met.ofW (cc := cJ0_isLatin1_aae02) (maxL := 1) (ret := (some .boolean)) (by decide) rfl ?_
  intro p e s m args below meth c s₁ B hml hv
  obtain ⟨rfl, hv⟩ := hv
  have hsz := hv.1
  subst hsz
  have hw := pw_entry hF hv
  have hts := atoms_spec (ws := .code yJ0_isLatin1_aae02 cJ0_isLatin1_aae02 1 (some .boolean) :: pq_U) B.pre
  have hU : ∀ w ∈ pq_U, w.before _ s = true := fun w h => hts w (List.mem_cons_of_mem _ h)
  have hx := B.exec
  have hb := B.bytes
  have hr := B.returns
  have hown : s.vm.findClass RJ0 = some m.cls := findClass_of_methodNamed B.named
  have hlk := B.notSynchronized
  have hl := lv_entry ([.ref (C.2.2.2.2.2.2.1 t)]) (n := 1) (Nat.le_of_ble_eq_true rfl)
  rw [lg_entry_eq]
  generalize (lg_sl ([.ref (C.2.2.2.2.2.2.1 t)]) ++ List.replicate (1 - (lg_sl ([.ref (C.2.2.2.2.2.2.1 t)])).length) Slot.unset).toArray = ls at hl ⊢
  have hl : lv_has ls 1 [(0, .ref (C.2.2.2.2.2.2.1 t))] := hl
  have hE : Ext S0 S0 := Ext.rf _
  refine va_gets hx hb hw.fx.2.2.1 hw.S hown (hU _ tw609) (fun _ h => h) dJ0_isLatin1_aae02_0 ?_
  refine lv_if_eq (tgt := 17) hx hb dJ0_isLatin1_aae02_3 (by decide) (fun h => absurd h (by decide)) (fun _ => ?_)
  refine lv_aload_n hx hb dJ0_isLatin1_aae02_6 rfl (lv_at hl 0 rfl) ?_
  refine vk_getf hx hb (hw.fx.2.1.1 t ht).2.1 hw.S hown (hU _ tw2169) (fun _ h => h) dJ0_isLatin1_aae02_7 ?_
  refine lv_if_ne (tgt := 17) hx hb dJ0_isLatin1_aae02_10 (by decide) (fun h => absurd rfl h) (fun _ => ?_)
  refine lv_iconst (v := 1) hx hb dJ0_isLatin1_aae02_13 (by decide) ?_
  refine lv_goto (tgt := 18) hx hb dJ0_isLatin1_aae02_14 (by decide) ?_
  exact pw_zret hx hb hr bz_1 hlk hw hE dJ0_isLatin1_aae02_18
theorem tc_J0_length_8abf5 : Cond.code yJ0_length_8abf5 cJ0_length_8abf5 1 (some .int) ∈ pq_U := tw604
theorem cd_J0_length_8abf5 : yJ0_length_8abf5.cls = RJ0 ∧ yJ0_length_8abf5.cls ≠ "java/lang/invoke/MethodHandle" ∧ yJ0_length_8abf5.cls ≠ "java/lang/invoke/VarHandle" ∧ (parseMethodDescriptor yJ0_length_8abf5.desc).map (fun d => d.parameters.length) = some 0 := by decide +kernel
set_option maxHeartbeats 4000000 in
set_option maxRecDepth 100000 in
theorem c_J0_length_8abf5 (l : Launch) (C : pq_C) (X : va_W) (S0 : pq_S) (hF : WF S0) (sz : Nat) (t : Nat) (ht : t < pq_ns) : MI l yJ0_length_8abf5 (.code yJ0_length_8abf5 cJ0_length_8abf5 1 (some .int) :: pq_U) { frames := 1, cells := 0, slots := 0, locals := 20 } C X S0 sz [.ref (C.2.2.2.2.2.2.1 t)] (tx_len t) S0 0 0 := by
  refine Met.ofW (cc := cJ0_length_8abf5) (maxL := 1) (ret := (some .int)) (by decide) rfl ?_
  intro p e s m args below meth c s₁ B hml hv
  obtain ⟨rfl, hv⟩ := hv
  have hsz := hv.1
  subst hsz
  have hw := pw_entry hF hv
  have hts := atoms_spec (ws := .code yJ0_length_8abf5 cJ0_length_8abf5 1 (some .int) :: pq_U) B.pre
  have hU : ∀ w ∈ pq_U, w.before _ s = true := fun w h => hts w (List.mem_cons_of_mem _ h)
  have hx := B.exec
  have hb := B.bytes
  have hr := B.returns
  have hown : s.vm.findClass RJ0 = some m.cls := findClass_of_methodNamed B.named
  have hlk := B.notSynchronized
  have hl := lv_entry ([.ref (C.2.2.2.2.2.2.1 t)]) (n := 1) (Nat.le_of_ble_eq_true rfl)
  rw [lg_entry_eq]
  generalize (lg_sl ([.ref (C.2.2.2.2.2.2.1 t)]) ++ List.replicate (1 - (lg_sl ([.ref (C.2.2.2.2.2.2.1 t)])).length) Slot.unset).toArray = ls at hl ⊢
  have hl : lv_has ls 1 [(0, .ref (C.2.2.2.2.2.2.1 t))] := hl
  have hE : Ext S0 S0 := Ext.rf _
  refine lv_aload_n hx hb dJ0_length_8abf5_0 rfl (lv_at hl 0 rfl) ?_
  refine vk_getf hx hb (hw.fx.2.1.1 t ht).2.2.1 hw.S hown (hU _ tw2168) (fun _ h => h) dJ0_length_8abf5_1 ?_
  refine va_tlen (v := Int32.ofNat (pq_len.getD t 0)) hx hb (hw.fx.2.1.1 t ht).2.2.2 hw.S rfl dJ0_length_8abf5_4 ?_
  refine lv_aload_n hx hb dJ0_length_8abf5_5 rfl (lv_at hl 0 rfl) ?_
  refine pw_ci (va_runV (As := []) (rest := [.int (Int32.ofNat (pq_len.getD t 0))]) ⟨hx, hb, hml, hown, hU⟩ (c_J0_coder_7d493 l C X S0 hF s.heap.size t ht) (cwV 0 hU (pq_gV tw605 tw606 tw607 tw20 tc_J0_coder_7d493) rfl rfl rfl cd_J0_coder_7d493 ⟨Nat.le_of_ble_eq_true rfl, Nat.le_of_ble_eq_true rfl⟩) (pw_preT hw ht) rfl rfl hl.1 rfl (lv_room (Nat.le_of_ble_eq_true rfl)) dJ0_length_8abf5_6 ⟨Nat.zero_le _, Nat.zero_le _⟩) hw (fun H locs hw _ => ?_)
  refine lv_ishr hx hb dJ0_length_8abf5_9 ?_
  exact pw_iret hx hb hr rfl hlk hw hE dJ0_length_8abf5_10
theorem tc_J3_checkIndex_8e157 : Cond.code yJ3_checkIndex_8e157 cJ3_checkIndex_8e157 3 (some .int) ∈ pq_U := tw629
theorem cd_J3_checkIndex_8e157 : yJ3_checkIndex_8e157.cls = RJ3 ∧ yJ3_checkIndex_8e157.cls ≠ "java/lang/invoke/MethodHandle" ∧ yJ3_checkIndex_8e157.cls ≠ "java/lang/invoke/VarHandle" ∧ (parseMethodDescriptor yJ3_checkIndex_8e157.desc).map (fun d => d.parameters.length) = some 3 := by decide +kernel
set_option maxHeartbeats 4000000 in
set_option maxRecDepth 100000 in
theorem c_J3_checkIndex_8e157_n (l : Launch) (C : pq_C) (X : va_W) (S0 : pq_S) (hF : WF S0) (sz : Nat) (i k : Int32) (h1 : ¬ i < 0) (h2 : i < k) : MI l yJ3_checkIndex_8e157 (.code yJ3_checkIndex_8e157 cJ3_checkIndex_8e157 3 (some .int) :: pq_U) { frames := 0, cells := 0, slots := 0, locals := 0 } C X S0 sz [.int i, .int k, .null] i S0 0 0 := by
  refine Met.ofW (cc := cJ3_checkIndex_8e157) (maxL := 3) (ret := (some .int)) (by decide) rfl ?_
  intro p e s m args below meth c s₁ B hml hv
  obtain ⟨rfl, hv⟩ := hv
  have hsz := hv.1
  subst hsz
  have hw := pw_entry hF hv
  have hts := atoms_spec (ws := .code yJ3_checkIndex_8e157 cJ3_checkIndex_8e157 3 (some .int) :: pq_U) B.pre
  have hU : ∀ w ∈ pq_U, w.before _ s = true := fun w h => hts w (List.mem_cons_of_mem _ h)
  have hx := B.exec
  have hb := B.bytes
  have hr := B.returns
  have hown : s.vm.findClass RJ3 = some m.cls := findClass_of_methodNamed B.named
  have hlk := B.notSynchronized
  have hl := lv_entry ([.int i, .int k, .null]) (n := 3) (Nat.le_of_ble_eq_true rfl)
  rw [lg_entry_eq]
  generalize (lg_sl ([.int i, .int k, .null]) ++ List.replicate (3 - (lg_sl ([.int i, .int k, .null])).length) Slot.unset).toArray = ls at hl ⊢
  have hl : lv_has ls 3 [(0, .int i), (1, .int k), (2, .null)] := hl
  have hE : Ext S0 S0 := Ext.rf _
  refine lv_iload_n hx hb dJ3_checkIndex_8e157_0 rfl (lv_at hl 0 rfl) ?_
  refine lv_if_lt (tgt := 9) hx hb dJ3_checkIndex_8e157_1 (by decide) (fun h => absurd h h1) (fun _ => ?_)
  refine lv_iload_n hx hb dJ3_checkIndex_8e157_4 rfl (lv_at hl 0 rfl) ?_
  refine lv_iload_n hx hb dJ3_checkIndex_8e157_5 rfl (lv_at hl 1 rfl) ?_
  refine lv_icmp_lt (tgt := 16) hx hb dJ3_checkIndex_8e157_6 (by decide) (fun _ => ?_) (fun h => absurd h2 h)
  refine lv_iload_n hx hb dJ3_checkIndex_8e157_16 rfl (lv_at hl 0 rfl) ?_
  exact pw_iret hx hb hr rfl hlk hw hE dJ3_checkIndex_8e157_17
set_option maxHeartbeats 4000000 in
set_option maxRecDepth 100000 in
theorem c_J3_checkIndex_8e157_r (l : Launch) (C : pq_C) (X : va_W) (S0 : pq_S) (hF : WF S0) (sz : Nat) (i k : Int32) (q : Nat) (h1 : ¬ i < 0) (h2 : i < k) : MI l yJ3_checkIndex_8e157 (.code yJ3_checkIndex_8e157 cJ3_checkIndex_8e157 3 (some .int) :: pq_U) { frames := 0, cells := 0, slots := 0, locals := 0 } C X S0 sz [.int i, .int k, .ref q] i S0 0 0 := by
  refine Met.ofW (cc := cJ3_checkIndex_8e157) (maxL := 3) (ret := (some .int)) (by decide) rfl ?_
  intro p e s m args below meth c s₁ B hml hv
  obtain ⟨rfl, hv⟩ := hv
  have hsz := hv.1
  subst hsz
  have hw := pw_entry hF hv
  have hts := atoms_spec (ws := .code yJ3_checkIndex_8e157 cJ3_checkIndex_8e157 3 (some .int) :: pq_U) B.pre
  have hU : ∀ w ∈ pq_U, w.before _ s = true := fun w h => hts w (List.mem_cons_of_mem _ h)
  have hx := B.exec
  have hb := B.bytes
  have hr := B.returns
  have hown : s.vm.findClass RJ3 = some m.cls := findClass_of_methodNamed B.named
  have hlk := B.notSynchronized
  have hl := lv_entry ([.int i, .int k, .ref q]) (n := 3) (Nat.le_of_ble_eq_true rfl)
  rw [lg_entry_eq]
  generalize (lg_sl ([.int i, .int k, .ref q]) ++ List.replicate (3 - (lg_sl ([.int i, .int k, .ref q])).length) Slot.unset).toArray = ls at hl ⊢
  have hl : lv_has ls 3 [(0, .int i), (1, .int k), (2, .ref q)] := hl
  have hE : Ext S0 S0 := Ext.rf _
  refine lv_iload_n hx hb dJ3_checkIndex_8e157_0 rfl (lv_at hl 0 rfl) ?_
  refine lv_if_lt (tgt := 9) hx hb dJ3_checkIndex_8e157_1 (by decide) (fun h => absurd h h1) (fun _ => ?_)
  refine lv_iload_n hx hb dJ3_checkIndex_8e157_4 rfl (lv_at hl 0 rfl) ?_
  refine lv_iload_n hx hb dJ3_checkIndex_8e157_5 rfl (lv_at hl 1 rfl) ?_
  refine lv_icmp_lt (tgt := 16) hx hb dJ3_checkIndex_8e157_6 (by decide) (fun _ => ?_) (fun h => absurd h2 h)
  refine lv_iload_n hx hb dJ3_checkIndex_8e157_16 rfl (lv_at hl 0 rfl) ?_
  exact pw_iret hx hb hr rfl hlk hw hE dJ3_checkIndex_8e157_17
theorem c_J3_checkIndex_8e157 (l : Launch) (C : pq_C) (X : va_W) (S0 : pq_S) (hF : WF S0) (sz : Nat) (i k : Int32) (v : Option Nat) (h1 : ¬ i < 0) (h2 : i < k) : MI l yJ3_checkIndex_8e157 (.code yJ3_checkIndex_8e157 cJ3_checkIndex_8e157 3 (some .int) :: pq_U) { frames := 0, cells := 0, slots := 0, locals := 0 } C X S0 sz [.int i, .int k, va_rf v] i S0 0 0 := by
  cases v with
  | none => exact c_J3_checkIndex_8e157_n l C X S0 hF sz i k h1 h2
  | some q => exact c_J3_checkIndex_8e157_r l C X S0 hF sz i k q h1 h2
theorem tc_J0_checkIndex_df160 : Cond.code yJ0_checkIndex_df160 cJ0_checkIndex_df160 2 none ∈ pq_U := tw624
theorem cd_J0_checkIndex_df160 : yJ0_checkIndex_df160.cls = RJ0 ∧ yJ0_checkIndex_df160.cls ≠ "java/lang/invoke/MethodHandle" ∧ yJ0_checkIndex_df160.cls ≠ "java/lang/invoke/VarHandle" ∧ (parseMethodDescriptor yJ0_checkIndex_df160.desc).map (fun d => d.parameters.length) = some 2 := by decide +kernel
set_option maxHeartbeats 4000000 in
set_option maxRecDepth 100000 in
theorem c_J0_checkIndex_df160 (l : Launch) (C : pq_C) (X : va_W) (S0 : pq_S) (hF : WF S0) (sz : Nat) (i k : Int32) (h1 : ¬ i < 0) (h2 : i < k) : MV l yJ0_checkIndex_df160 (.code yJ0_checkIndex_df160 cJ0_checkIndex_df160 2 none :: pq_U) { frames := 1, cells := 0, slots := 0, locals := 22 } C X S0 sz [.int i, .int k] S0 0 0 := by
  refine Met.ofW (cc := cJ0_checkIndex_df160) (maxL := 2) (ret := none) (by decide) rfl ?_
  intro p e s m args below meth c s₁ B hml hv
  obtain ⟨rfl, hv⟩ := hv
  have hsz := hv.1
  subst hsz
  have hw := pw_entry hF hv
  have hts := atoms_spec (ws := .code yJ0_checkIndex_df160 cJ0_checkIndex_df160 2 none :: pq_U) B.pre
  have hU : ∀ w ∈ pq_U, w.before _ s = true := fun w h => hts w (List.mem_cons_of_mem _ h)
  have hx := B.exec
  have hb := B.bytes
  have hr := B.returns
  have hown : s.vm.findClass RJ0 = some m.cls := findClass_of_methodNamed B.named
  have hlk := B.notSynchronized
  have hl := lv_entry ([.int i, .int k]) (n := 2) (Nat.le_of_ble_eq_true rfl)
  rw [lg_entry_eq]
  generalize (lg_sl ([.int i, .int k]) ++ List.replicate (2 - (lg_sl ([.int i, .int k])).length) Slot.unset).toArray = ls at hl ⊢
  have hl : lv_has ls 2 [(0, .int i), (1, .int k)] := hl
  have hE : Ext S0 S0 := Ext.rf _
  refine lv_iload_n hx hb dJ0_checkIndex_df160_0 rfl (lv_at hl 0 rfl) ?_
  refine lv_iload_n hx hb dJ0_checkIndex_df160_1 rfl (lv_at hl 1 rfl) ?_
  obtain ⟨v, hv9⟩ : ∃ v : Option Nat, va_Z "jdk/internal/util/Preconditions" "SIOOBE_FORMATTER" "Ljava/util/function/BiFunction;" (va_rf v) (pq_F C X S0 s.heap.size) s s.heap := by
    rcases hw.fx.2.2.2.2.2 with h | ⟨t, h⟩
    · exact ⟨none, h⟩
    · exact ⟨some t, h⟩
  refine va_gets hx hb hv9 hw.S hown (hU _ tw625) (fun _ h => h) dJ0_checkIndex_df160_2 ?_
  refine pw_ci (va_runS (As := [.int i, .int k, va_rf v]) (rest := []) ⟨hx, hb, hml, hown, hU⟩ (c_J3_checkIndex_8e157 l C X S0 hF s.heap.size i k v h1 h2) ⟨callB_of 3 hU (pq_g1 tc_J3_checkIndex_8e157) rfl rfl rfl (hU _ tw22) (hU _ tw627) cd_J3_checkIndex_8e157.2 ⟨Nat.le_of_ble_eq_true rfl, Nat.le_of_ble_eq_true rfl⟩, hU _ tw628⟩ (pw_preS hw) rfl rfl hl.1 rfl (lv_room (Nat.le_of_ble_eq_true rfl)) dJ0_checkIndex_df160_5 ⟨Nat.zero_le _, Nat.zero_le _⟩) hw (fun H locs hw _ => ?_)
  refine lv_pop hx hb dJ0_checkIndex_df160_8 rfl ?_
  exact pw_vret hx hb hr hlk hw hE dJ0_checkIndex_df160_9
theorem tc_J1_charAt_3b067 : Cond.code yJ1_charAt_3b067 cJ1_charAt_3b067 2 (some .char) ∈ pq_U := tw621
theorem cd_J1_charAt_3b067 : yJ1_charAt_3b067.cls = RJ1 ∧ yJ1_charAt_3b067.cls ≠ "java/lang/invoke/MethodHandle" ∧ yJ1_charAt_3b067.cls ≠ "java/lang/invoke/VarHandle" ∧ (parseMethodDescriptor yJ1_charAt_3b067.desc).map (fun d => d.parameters.length) = some 2 := by decide +kernel
set_option maxHeartbeats 4000000 in
set_option maxRecDepth 100000 in
theorem c_J1_charAt_3b067 (l : Launch) (C : pq_C) (X : va_W) (S0 : pq_S) (hF : WF S0) (sz : Nat) (t : Nat) (ht : t < pq_ns) (i : Int32) (hi : ix i (pq_len.getD t 0)) (hlt : i < Int32.ofNat (pq_len.getD t 0)) : MI l yJ1_charAt_3b067 (.code yJ1_charAt_3b067 cJ1_charAt_3b067 2 (some .char) :: pq_U) { frames := 2, cells := 0, slots := 0, locals := 43 } C X S0 sz [.ref (C.2.2.2.2.2.2.2 t), .int i] (tx_ch t i) S0 0 0 := by
  refine Met.ofW (cc := cJ1_charAt_3b067) (maxL := 2) (ret := (some .char)) (by decide) rfl ?_
  intro p e s m args below meth c s₁ B hml hv
  obtain ⟨rfl, hv⟩ := hv
  have hsz := hv.1
  subst hsz
  have hw := pw_entry hF hv
  have hts := atoms_spec (ws := .code yJ1_charAt_3b067 cJ1_charAt_3b067 2 (some .char) :: pq_U) B.pre
  have hU : ∀ w ∈ pq_U, w.before _ s = true := fun w h => hts w (List.mem_cons_of_mem _ h)
  have hx := B.exec
  have hb := B.bytes
  have hr := B.returns
  have hown : s.vm.findClass RJ1 = some m.cls := findClass_of_methodNamed B.named
  have hlk := B.notSynchronized
  have hl := lv_entry ([.ref (C.2.2.2.2.2.2.2 t), .int i]) (n := 2) (Nat.le_of_ble_eq_true rfl)
  rw [lg_entry_eq]
  generalize (lg_sl ([.ref (C.2.2.2.2.2.2.2 t), .int i]) ++ List.replicate (2 - (lg_sl ([.ref (C.2.2.2.2.2.2.2 t), .int i])).length) Slot.unset).toArray = ls at hl ⊢
  have hl : lv_has ls 2 [(0, .ref (C.2.2.2.2.2.2.2 t)), (1, .int i)] := hl
  have hE : Ext S0 S0 := Ext.rf _
  refine lv_iload_n hx hb dJ1_charAt_3b067_0 rfl (lv_at hl 1 rfl) ?_
  refine lv_aload_n hx hb dJ1_charAt_3b067_1 rfl (lv_at hl 0 rfl) ?_
  refine va_tlen (v := Int32.ofNat (pq_len.getD t 0)) hx hb (hw.fx.2.1.1 t ht).2.2.2 hw.S rfl dJ1_charAt_3b067_2 ?_
  refine pw_cv (va_runS (As := [.int i, .int (Int32.ofNat (pq_len.getD t 0))]) (rest := []) ⟨hx, hb, hml, hown, hU⟩ (c_J0_checkIndex_df160 l C X S0 hF s.heap.size i _ (fun h => absurd hi.1 (Int32.not_le.mpr h)) hlt) ⟨callB_of 2 hU (pq_g1 tc_J0_checkIndex_df160) rfl rfl rfl (hU _ tw20) (hU _ tw622) cd_J0_checkIndex_df160.2 ⟨Nat.le_of_ble_eq_true rfl, Nat.le_of_ble_eq_true rfl⟩, hU _ tw623⟩ (pw_preS hw) rfl rfl hl.1 rfl (lv_room (Nat.le_of_ble_eq_true rfl)) dJ1_charAt_3b067_3 ⟨Nat.zero_le _, Nat.zero_le _⟩) hw (fun H locs hw _ => ?_)
  refine lv_aload_n hx hb dJ1_charAt_3b067_6 rfl (lv_at hl 0 rfl) ?_
  refine lv_iload_n hx hb dJ1_charAt_3b067_7 rfl (lv_at hl 1 rfl) ?_
  refine va_tb hx hb (hw.fx.2.1.1 t ht).2.2.2 hw.S hi.vp rfl dJ1_charAt_3b067_8 ?_
  refine lv_sipush (v := 255) hx hb dJ1_charAt_3b067_9 (by decide) ?_
  refine lv_iand hx hb dJ1_charAt_3b067_12 ?_
  refine lv_i2c (v := tx_ch t i) hx hb dJ1_charAt_3b067_13 rfl ?_
  exact pw_iret hx hb hr (tx_chN t i) hlk hw hE dJ1_charAt_3b067_14
theorem tc_J0_charAt_5068e : Cond.code yJ0_charAt_5068e cJ0_charAt_5068e 2 (some .char) ∈ pq_U := tw614
theorem cd_J0_charAt_5068e : yJ0_charAt_5068e.cls = RJ0 ∧ yJ0_charAt_5068e.cls ≠ "java/lang/invoke/MethodHandle" ∧ yJ0_charAt_5068e.cls ≠ "java/lang/invoke/VarHandle" ∧ (parseMethodDescriptor yJ0_charAt_5068e.desc).map (fun d => d.parameters.length) = some 1 := by decide +kernel
set_option maxHeartbeats 4000000 in
set_option maxRecDepth 100000 in
theorem c_J0_charAt_5068e (l : Launch) (C : pq_C) (X : va_W) (S0 : pq_S) (hF : WF S0) (sz : Nat) (t : Nat) (ht : t < pq_ns) (i : Int32) (hi : ix i (pq_len.getD t 0)) (hlt : i < Int32.ofNat (pq_len.getD t 0)) : MI l yJ0_charAt_5068e (.code yJ0_charAt_5068e cJ0_charAt_5068e 2 (some .char) :: pq_U) { frames := 3, cells := 0, slots := 0, locals := 64 } C X S0 sz [.ref (C.2.2.2.2.2.2.1 t), .int i] (tx_ch t i) S0 0 0 := by
  refine Met.ofW (cc := cJ0_charAt_5068e) (maxL := 2) (ret := (some .char)) (by decide) rfl ?_
  intro p e s m args below meth c s₁ B hml hv
  obtain ⟨rfl, hv⟩ := hv
  have hsz := hv.1
  subst hsz
  have hw := pw_entry hF hv
  have hts := atoms_spec (ws := .code yJ0_charAt_5068e cJ0_charAt_5068e 2 (some .char) :: pq_U) B.pre
  have hU : ∀ w ∈ pq_U, w.before _ s = true := fun w h => hts w (List.mem_cons_of_mem _ h)
  have hx := B.exec
  have hb := B.bytes
  have hr := B.returns
  have hown : s.vm.findClass RJ0 = some m.cls := findClass_of_methodNamed B.named
  have hlk := B.notSynchronized
  have hl := lv_entry ([.ref (C.2.2.2.2.2.2.1 t), .int i]) (n := 2) (Nat.le_of_ble_eq_true rfl)
  rw [lg_entry_eq]
  generalize (lg_sl ([.ref (C.2.2.2.2.2.2.1 t), .int i]) ++ List.replicate (2 - (lg_sl ([.ref (C.2.2.2.2.2.2.1 t), .int i])).length) Slot.unset).toArray = ls at hl ⊢
  have hl : lv_has ls 2 [(0, .ref (C.2.2.2.2.2.2.1 t)), (1, .int i)] := hl
  have hE : Ext S0 S0 := Ext.rf _
  refine lv_aload_n hx hb dJ0_charAt_5068e_0 rfl (lv_at hl 0 rfl) ?_
  refine pw_cz (va_runV (As := []) (rest := []) ⟨hx, hb, hml, hown, hU⟩ (c_J0_isLatin1_aae02 l C X S0 hF s.heap.size t ht) (cwV 0 hU (pq_gV tw615 tw616 tw617 tw20 tc_J0_isLatin1_aae02) rfl rfl rfl cd_J0_isLatin1_aae02 ⟨Nat.le_of_ble_eq_true rfl, Nat.le_of_ble_eq_true rfl⟩) (pw_preT hw ht) rfl rfl hl.1 rfl (lv_room (Nat.le_of_ble_eq_true rfl)) dJ0_charAt_5068e_1 ⟨Nat.zero_le _, Nat.zero_le _⟩) hw (fun H locs hw _ _ => ?_)
  refine lv_if_eq (tgt := 16) hx hb dJ0_charAt_5068e_4 (by decide) (fun h => absurd h (by decide)) (fun _ => ?_)
  refine lv_aload_n hx hb dJ0_charAt_5068e_7 rfl (lv_at hl 0 rfl) ?_
  refine vk_getf hx hb (hw.fx.2.1.1 t ht).2.2.1 hw.S hown (hU _ tw2168) (fun _ h => h) dJ0_charAt_5068e_8 ?_
  refine lv_iload_n hx hb dJ0_charAt_5068e_11 rfl (lv_at hl 1 rfl) ?_
  refine pw_ci (va_runS (As := [.ref (C.2.2.2.2.2.2.2 t), .int i]) (rest := []) ⟨hx, hb, hml, hown, hU⟩ (c_J1_charAt_3b067 l C X S0 hF H.size t ht i hi hlt) ⟨callB_of 2 hU (pq_g1 tc_J1_charAt_3b067) rfl rfl rfl (hU _ tw21) (hU _ tw619) cd_J1_charAt_3b067.2 ⟨Nat.le_of_ble_eq_true rfl, Nat.le_of_ble_eq_true rfl⟩, hU _ tw620⟩ (pw_preS hw) rfl rfl hl.1 rfl (lv_room (Nat.le_of_ble_eq_true rfl)) dJ0_charAt_5068e_12 ⟨Nat.zero_le _, Nat.zero_le _⟩) hw (fun H locs hw _ => ?_)
  exact pw_iret hx hb hr (tx_chN t i) hlk hw hE dJ0_charAt_5068e_15
