abbrev rm_X12_isSmall : Room := { frames := 0, cells := 0, slots := 0, locals := 0 }
def m_X12_isSmall (n : Nat) (x0 : Int32) (S0 : pq_S) : Option (Int32 × pq_S) := if x0 < 97 then some (0, S0) else if 122 < x0 then some (0, S0) else some (1, S0)
theorem tc_X12_isSmall : Cond.code yX12_isSmall cX12_isSmall 1 (some .boolean) ∈ pq_U := tw1729
theorem cd_X12_isSmall : yX12_isSmall.cls = RX12 ∧ yX12_isSmall.cls ≠ "java/lang/invoke/MethodHandle" ∧ yX12_isSmall.cls ≠ "java/lang/invoke/VarHandle" ∧ (parseMethodDescriptor yX12_isSmall.desc).map (fun d => d.parameters.length) = some 1 := by decide +kernel
set_option maxHeartbeats 4000000 in
set_option maxRecDepth 100000 in
theorem c_X12_isSmall (l : Launch) (C : pq_C) (X : va_W) (n : Nat) (S0 : pq_S) (hF : WF S0) (sz : Nat) (x0 : Int32)  (r : Int32) (S1 : pq_S) (hm : m_X12_isSmall n x0 S0 = some (r, S1)) : MZ l yX12_isSmall (.code yX12_isSmall cX12_isSmall 1 (some .boolean) :: pq_U) rm_X12_isSmall C X S0 sz [.int x0] r S1 0 0 := by
  refine Met.ofW (cc := cX12_isSmall) (maxL := 1) (ret := (some .boolean)) (by decide) rfl ?_
  intro p e s m args below meth c s₁ B hml hv
  obtain ⟨rfl, hv⟩ := hv
  have hsz := hv.1
  subst hsz
  have hw := pw_entry hF hv
  have hts := atoms_spec (ws := .code yX12_isSmall cX12_isSmall 1 (some .boolean) :: pq_U) B.pre
  have hU : ∀ w ∈ pq_U, w.before _ s = true := fun w h => hts w (List.mem_cons_of_mem _ h)
  have hx := B.exec
  have hb := B.bytes
  have hr := B.returns
  have hown : s.vm.findClass RX12 = some m.cls := findClass_of_methodNamed B.named
  have hlk := B.notSynchronized
  have hl := lv_entry ([.int x0]) (n := 1) (Nat.le_of_ble_eq_true rfl)
  rw [lg_entry_eq]
  generalize (lg_sl ([.int x0]) ++ List.replicate (1 - (lg_sl ([.int x0])).length) Slot.unset).toArray = ls at hl ⊢
  have hl : lv_has ls 1 [(0, .int x0)] := hl
  have hE : Ext S0 S0 := Ext.rf _
  have cx : Cx p s m _ meth c cX12_isSmall 1 RX12 (some .boolean) := ⟨hx, hb, hml, hown, hU, hr, hlk⟩
  rw [m_X12_isSmall] at hm
  refine lv_iload_n hx hb dX12_isSmall_0 rfl (lv_at hl 0 rfl) ?_
  refine lv_bipush (v := 97) hx hb dX12_isSmall_1 (by decide) ?_
  refine lv_icmp_lt (tgt := 16) hx hb dX12_isSmall_3 (by decide) (fun h1 => ?_) (fun h1 => ?_)
  · rw [if_pos h1] at hm
    refine lv_iconst (v := 0) hx hb dX12_isSmall_16 (by decide) ?_
    cases hm
    exact pw_zret hx hb hr bz_0 hlk hw hE dX12_isSmall_17
  · rw [if_neg h1] at hm
    refine lv_iload_n hx hb dX12_isSmall_6 rfl (lv_at hl 0 rfl) ?_
    refine lv_bipush (v := 122) hx hb dX12_isSmall_7 (by decide) ?_
    refine lv_icmp_gt (tgt := 16) hx hb dX12_isSmall_9 (by decide) (fun h2 => ?_) (fun h2 => ?_)
    · rw [if_pos h2] at hm
      refine lv_iconst (v := 0) hx hb dX12_isSmall_16 (by decide) ?_
      cases hm
      exact pw_zret hx hb hr bz_0 hlk hw hE dX12_isSmall_17
    · rw [if_neg h2] at hm
      refine lv_iconst (v := 1) hx hb dX12_isSmall_12 (by decide) ?_
      refine lv_goto (tgt := 17) hx hb dX12_isSmall_13 (by decide) ?_
      cases hm
      exact pw_zret hx hb hr bz_1 hlk hw hE dX12_isSmall_17
abbrev rm_X12_isDigit : Room := { frames := 0, cells := 0, slots := 0, locals := 0 }
def m_X12_isDigit (n : Nat) (x0 : Int32) (S0 : pq_S) : Option (Int32 × pq_S) := if x0 < 48 then some (0, S0) else if 57 < x0 then some (0, S0) else some (1, S0)
theorem tc_X12_isDigit : Cond.code yX12_isDigit cX12_isDigit 1 (some .boolean) ∈ pq_U := tw1763
theorem cd_X12_isDigit : yX12_isDigit.cls = RX12 ∧ yX12_isDigit.cls ≠ "java/lang/invoke/MethodHandle" ∧ yX12_isDigit.cls ≠ "java/lang/invoke/VarHandle" ∧ (parseMethodDescriptor yX12_isDigit.desc).map (fun d => d.parameters.length) = some 1 := by decide +kernel
set_option maxHeartbeats 4000000 in
set_option maxRecDepth 100000 in
theorem c_X12_isDigit (l : Launch) (C : pq_C) (X : va_W) (n : Nat) (S0 : pq_S) (hF : WF S0) (sz : Nat) (x0 : Int32)  (r : Int32) (S1 : pq_S) (hm : m_X12_isDigit n x0 S0 = some (r, S1)) : MZ l yX12_isDigit (.code yX12_isDigit cX12_isDigit 1 (some .boolean) :: pq_U) rm_X12_isDigit C X S0 sz [.int x0] r S1 0 0 := by
  refine Met.ofW (cc := cX12_isDigit) (maxL := 1) (ret := (some .boolean)) (by decide) rfl ?_
  intro p e s m args below meth c s₁ B hml hv
  obtain ⟨rfl, hv⟩ := hv
  have hsz := hv.1
  subst hsz
  have hw := pw_entry hF hv
  have hts := atoms_spec (ws := .code yX12_isDigit cX12_isDigit 1 (some .boolean) :: pq_U) B.pre
  have hU : ∀ w ∈ pq_U, w.before _ s = true := fun w h => hts w (List.mem_cons_of_mem _ h)
  have hx := B.exec
  have hb := B.bytes
  have hr := B.returns
  have hown : s.vm.findClass RX12 = some m.cls := findClass_of_methodNamed B.named
  have hlk := B.notSynchronized
  have hl := lv_entry ([.int x0]) (n := 1) (Nat.le_of_ble_eq_true rfl)
  rw [lg_entry_eq]
  generalize (lg_sl ([.int x0]) ++ List.replicate (1 - (lg_sl ([.int x0])).length) Slot.unset).toArray = ls at hl ⊢
  have hl : lv_has ls 1 [(0, .int x0)] := hl
  have hE : Ext S0 S0 := Ext.rf _
  have cx : Cx p s m _ meth c cX12_isDigit 1 RX12 (some .boolean) := ⟨hx, hb, hml, hown, hU, hr, hlk⟩
  rw [m_X12_isDigit] at hm
  refine lv_iload_n hx hb dX12_isDigit_0 rfl (lv_at hl 0 rfl) ?_
  refine lv_bipush (v := 48) hx hb dX12_isDigit_1 (by decide) ?_
  refine lv_icmp_lt (tgt := 16) hx hb dX12_isDigit_3 (by decide) (fun h1 => ?_) (fun h1 => ?_)
  · rw [if_pos h1] at hm
    refine lv_iconst (v := 0) hx hb dX12_isDigit_16 (by decide) ?_
    cases hm
    exact pw_zret hx hb hr bz_0 hlk hw hE dX12_isDigit_17
  · rw [if_neg h1] at hm
    refine lv_iload_n hx hb dX12_isDigit_6 rfl (lv_at hl 0 rfl) ?_
    refine lv_bipush (v := 57) hx hb dX12_isDigit_7 (by decide) ?_
    refine lv_icmp_gt (tgt := 16) hx hb dX12_isDigit_9 (by decide) (fun h2 => ?_) (fun h2 => ?_)
    · rw [if_pos h2] at hm
      refine lv_iconst (v := 0) hx hb dX12_isDigit_16 (by decide) ?_
      cases hm
      exact pw_zret hx hb hr bz_0 hlk hw hE dX12_isDigit_17
    · rw [if_neg h2] at hm
      refine lv_iconst (v := 1) hx hb dX12_isDigit_12 (by decide) ?_
      refine lv_goto (tgt := 17) hx hb dX12_isDigit_13 (by decide) ?_
      cases hm
      exact pw_zret hx hb hr bz_1 hlk hw hE dX12_isDigit_17
abbrev rm_X12_word : Room := { frames := 1, cells := 0, slots := 0, locals := 20 }
def b_X12_word_57 (n : Nat) (k10 : Nat → Int32 → Int32 → Int32 → pq_S → Option (Int32 × pq_S)) (a0 : Nat) (x2 : Int32) (x3 : Int32) (z0 : Int32) (S : pq_S) : Option (Int32 × pq_S) := k10 a0 z0 (x2 + 1) (x3 + 1) S
set_option maxHeartbeats 4000000 in
set_option maxRecDepth 100000 in
theorem wb_X12_word_57 {p : Program} {l : Launch} {e : Env} {s : State} {m : MethodId} {args : Array Value} {below : List Frame} {meth : Method} {c : Code} (cx : Cx p s m args meth c cX12_word 4 RX12 (some .int)) (C : pq_C) (X : va_W) (S0 : pq_S) (n : Nat) (r : Int32) (S1 : pq_S) (k10 : Nat → Int32 → Int32 → Int32 → pq_S → Option (Int32 × pq_S)) (hk10 : ∀ (a0 : Nat) (x1 : Int32) (x2 : Int32) (x3 : Int32) (S : pq_S) (H : Heap) (locs : List Loc) (ls : Array Slot), PW C X S (pq_F C X S0 s.heap.size) H locs s → Ext S0 S → TY S a0 12 → lv_has ls 4 [(0, .ref a0), (1, .int x1), (2, .int x2), (3, .int x3)] → k10 a0 x1 x2 x3 S = some (r, S1) → W p l e rm_X12_word s m args below meth c H locs 0 0 (MQ below (QcI C X S0 s.heap.size r S1) args s 0 0 (pq_F C X S0 s.heap.size)) (F0 m 14 ls [])) : ∀ (a0 : Nat) (x2 : Int32) (x3 : Int32) (z0 : Int32) (S : pq_S) (H : Heap) (locs : List Loc) (ls : Array Slot), PW C X S (pq_F C X S0 s.heap.size) H locs s → Ext S0 S → TY S a0 12 → lv_has ls 4 [(0, .ref a0), (2, .int x2), (3, .int x3)] → b_X12_word_57 n k10 a0 x2 x3 z0 S = some (r, S1) → W p l e rm_X12_word s m args below meth c H locs 0 0 (MQ below (QcI C X S0 s.heap.size r S1) args s 0 0 (pq_F C X S0 s.heap.size)) (F0 m 57 ls [.int z0]) := by
  obtain ⟨hx, hb, hml, hown, hU, hr, hlk⟩ := id cx
  intro a0 x2 x3 z0 S H locs ls hw hE Ta0 hl hm
  rw [b_X12_word_57] at hm
  refine lv_istore_n (lv' := [(1, .int z0), (0, .ref a0), (2, .int x2), (3, .int x3)]) hx hb dX12_word_57 rfl hl (by decide) rfl (fun ls hl => ?_)
  refine lv_iinc (v := (x2 + 1)) (lv' := [(2, .int (x2 + 1)), (1, .int z0), (0, .ref a0), (3, .int x3)]) hx hb dX12_word_58 hl (k := 2) rfl rfl (by decide) rfl (fun ls hl => ?_)
  refine lv_iinc (v := (x3 + 1)) (lv' := [(3, .int (x3 + 1)), (2, .int (x2 + 1)), (1, .int z0), (0, .ref a0)]) hx hb dX12_word_61 hl (k := 3) rfl rfl (by decide) rfl (fun ls hl => ?_)
  refine lv_goto (tgt := 14) hx hb dX12_word_64 (by decide) ?_
  exact hk10 a0 z0 (x2 + 1) (x3 + 1) S _ _ _ hw hE Ta0 (lv_sub hl [3, 2, 1, 0] rfl) hm
def b_X12_word_67 (n : Nat) (x1 : Int32) (x2 : Int32) (S : pq_S) : Option (Int32 × pq_S) := if x2 ≤ 6 then some (x1, S) else some (0, S)
set_option maxHeartbeats 4000000 in
set_option maxRecDepth 100000 in
theorem wb_X12_word_67 {p : Program} {l : Launch} {e : Env} {s : State} {m : MethodId} {args : Array Value} {below : List Frame} {meth : Method} {c : Code} (cx : Cx p s m args meth c cX12_word 4 RX12 (some .int)) (C : pq_C) (X : va_W) (S0 : pq_S) (n : Nat) (r : Int32) (S1 : pq_S) : ∀ (x1 : Int32) (x2 : Int32) (S : pq_S) (H : Heap) (locs : List Loc) (ls : Array Slot), PW C X S (pq_F C X S0 s.heap.size) H locs s → Ext S0 S → lv_has ls 4 [(1, .int x1), (2, .int x2)] → b_X12_word_67 n x1 x2 S = some (r, S1) → W p l e rm_X12_word s m args below meth c H locs 0 0 (MQ below (QcI C X S0 s.heap.size r S1) args s 0 0 (pq_F C X S0 s.heap.size)) (F0 m 67 ls []) := by
  obtain ⟨hx, hb, hml, hown, hU, hr, hlk⟩ := id cx
  intro x1 x2 S H locs ls hw hE hl hm
  rw [b_X12_word_67] at hm
  refine lv_iload_n hx hb dX12_word_67 rfl (lv_at hl 1 rfl) ?_
  refine lv_bipush (v := 6) hx hb dX12_word_68 (by decide) ?_
  refine lv_icmp_le (tgt := 77) hx hb dX12_word_70 (by decide) (fun h17 => ?_) (fun h17 => ?_)
  · rw [if_pos h17] at hm
    refine lv_iload_n hx hb dX12_word_77 rfl (lv_at hl 0 rfl) ?_
    cases hm
    exact pw_iret hx hb hr rfl hlk hw hE dX12_word_78
  · rw [if_neg h17] at hm
    refine lv_iconst (v := 0) hx hb dX12_word_73 (by decide) ?_
    refine lv_goto (tgt := 78) hx hb dX12_word_74 (by decide) ?_
    cases hm
    exact pw_iret hx hb hr rfl hlk hw hE dX12_word_78
def b_X12_word_14 (n : Nat) : Nat → Nat → Int32 → Int32 → Int32 → pq_S → Option (Int32 × pq_S)
  | 0, _, _, _, _, _ => none
  | f + 1, a0, x1, x2, x3, S => if (pI S 1203 a0) ≤ x3 then b_X12_word_67 n x1 x2 S else Option.bind (pR S 1209 a0) fun q6 => ck (ix x3 (pN S q6)) (dix _ _) (cb (m_X12_isSmall n (pA S q6 (Int32.toNatClampNeg x3)) S) fun r10 S_8 => if r10 = 0 then b_X12_word_67 n x1 x2 S_8 else if 6 ≤ x2 then b_X12_word_57 n (b_X12_word_14 n f) a0 x2 x3 0 S_8 else Option.bind (pR S_8 1209 a0) fun q15 => ck (ix x3 (pN S_8 q15)) (dix _ _) (b_X12_word_57 n (b_X12_word_14 n f) a0 x2 x3 ((x1 <<< ((5 : Int32) &&& (31 : Int32))) ||| ((pA S_8 q15 (Int32.toNatClampNeg x3)) - (96 : Int32))) S_8))
set_option maxHeartbeats 4000000 in
set_option maxRecDepth 100000 in
theorem wb_X12_word_14 {p : Program} {l : Launch} {e : Env} {s : State} {m : MethodId} {args : Array Value} {below : List Frame} {meth : Method} {c : Code} (cx : Cx p s m args meth c cX12_word 4 RX12 (some .int)) (C : pq_C) (X : va_W) (S0 : pq_S) (n : Nat) (r : Int32) (S1 : pq_S) : ∀ (f : Nat) (a0 : Nat) (x1 : Int32) (x2 : Int32) (x3 : Int32) (S : pq_S) (H : Heap) (locs : List Loc) (ls : Array Slot), PW C X S (pq_F C X S0 s.heap.size) H locs s → Ext S0 S → TY S a0 12 → lv_has ls 4 [(0, .ref a0), (1, .int x1), (2, .int x2), (3, .int x3)] → b_X12_word_14 n f a0 x1 x2 x3 S = some (r, S1) → W p l e rm_X12_word s m args below meth c H locs 0 0 (MQ below (QcI C X S0 s.heap.size r S1) args s 0 0 (pq_F C X S0 s.heap.size)) (F0 m 14 ls []) := by
  obtain ⟨hx, hb, hml, hown, hU, hr, hlk⟩ := id cx
  intro f
  induction f with
  | zero =>
    intro a0 x1 x2 x3 S H locs ls hw hE Ta0 hl hm
    cases hm
  | succ f ih =>
    intro a0 x1 x2 x3 S H locs ls hw hE Ta0 hl hm
    rw [b_X12_word_14] at hm
    refine lv_iload_n hx hb dX12_word_14 rfl (lv_at hl 3 rfl) ?_
    refine lv_aload_n hx hb dX12_word_15 rfl (lv_at hl 0 rfl) ?_
    refine pg_i (k := 12) (j := 3) (f := 1203) hx hb hown hU iu12 hw Ta0 (by decide) rfl (hU _ tw1474) rfl dX12_word_16 ?_
    refine lv_icmp_ge (tgt := 67) hx hb dX12_word_19 (by decide) (fun h5 => ?_) (fun h5 => ?_)
    · rw [if_pos h5] at hm
      exact wb_X12_word_67 cx C X S0 n r S1 x1 x2 S _ _ _ hw hE  (lv_sub hl [1, 2] rfl) hm
    · rw [if_neg h5] at hm
      refine lv_aload_n hx hb dX12_word_22 rfl (lv_at hl 0 rfl) ?_
      obtain ⟨q6, hq6, hm⟩ := bd_some hm
      have Tq6 : TY S q6 14 := hw.wf.ref (k := 12) (j := 9) Ta0 (by decide) (by decide) hq6
      refine pg_rb (k := 12) (j := 9) (f := 1209) hx hb hown hU iu12 hw Ta0 (by decide) rfl (hU _ tw1480) rfl hq6 dX12_word_23 ?_
      refine lv_iload_n hx hb dX12_word_26 rfl (lv_at hl 3 rfl) ?_
      obtain ⟨hi7, hm⟩ := ck_some hm
      refine pw_iald hx hb hw Tq6 hi7 dX12_word_27 ?_
      obtain ⟨r10, S_8, hq9, hm⟩ := cb_some hm
      refine pw_cz (va_runS (As := [.int (pA S q6 (Int32.toNatClampNeg x3))]) (rest := []) ⟨hx, hb, hml, hown, hU⟩ (c_X12_isSmall l C X n S hw.wf _ (pA S q6 (Int32.toNatClampNeg x3))  r10 S_8 hq9) ⟨callB_of 1 hU (pq_g1 tc_X12_isSmall) rfl rfl rfl (hU _ tw14) (hU _ tw1727) cd_X12_isSmall.2 ⟨Nat.le_of_ble_eq_true rfl, Nat.le_of_ble_eq_true rfl⟩, hU _ tw1728⟩ (pw_preS hw) rfl rfl hl.1 rfl (lv_room (Nat.le_of_ble_eq_true rfl)) dX12_word_28 ⟨Nat.zero_le _, Nat.zero_le _⟩) hw (fun H locs hw hx11 hz12 => ?_)
      have Ta0 : TY S_8 a0 12 := ty_ext hx11 Ta0
      have hE : Ext S0 S_8 := Ext.tr hE hx11
      refine lv_if_eq (tgt := 67) hx hb dX12_word_31 (by decide) (fun h13 => ?_) (fun h13 => ?_)
      · rw [if_pos h13] at hm
        exact wb_X12_word_67 cx C X S0 n r S1 x1 x2 S_8 _ _ _ hw hE  (lv_sub hl [1, 2] rfl) hm
      · rw [if_neg h13] at hm
        refine lv_iload_n hx hb dX12_word_34 rfl (lv_at hl 2 rfl) ?_
        refine lv_bipush (v := 6) hx hb dX12_word_35 (by decide) ?_
        refine lv_icmp_ge (tgt := 56) hx hb dX12_word_37 (by decide) (fun h14 => ?_) (fun h14 => ?_)
        · rw [if_pos h14] at hm
          refine lv_iconst (v := 0) hx hb dX12_word_56 (by decide) ?_
          exact wb_X12_word_57 cx C X S0 n r S1 _ ih a0 x2 x3 0 S_8 _ _ _ hw hE Ta0 (lv_sub hl [0, 2, 3] rfl) hm
        · rw [if_neg h14] at hm
          refine lv_iload_n hx hb dX12_word_40 rfl (lv_at hl 1 rfl) ?_
          refine lv_iconst (v := 5) hx hb dX12_word_41 (by decide) ?_
          refine lv_ishl hx hb dX12_word_42 ?_
          refine lv_aload_n hx hb dX12_word_43 rfl (lv_at hl 0 rfl) ?_
          obtain ⟨q15, hq15, hm⟩ := bd_some hm
          have Tq15 : TY S_8 q15 14 := hw.wf.ref (k := 12) (j := 9) Ta0 (by decide) (by decide) hq15
          refine pg_rb (k := 12) (j := 9) (f := 1209) hx hb hown hU iu12 hw Ta0 (by decide) rfl (hU _ tw1480) rfl hq15 dX12_word_44 ?_
          refine lv_iload_n hx hb dX12_word_47 rfl (lv_at hl 3 rfl) ?_
          obtain ⟨hi16, hm⟩ := ck_some hm
          refine pw_iald hx hb hw Tq15 hi16 dX12_word_48 ?_
          refine lv_bipush (v := 96) hx hb dX12_word_49 (by decide) ?_
          refine lv_isub hx hb dX12_word_51 ?_
          refine lv_ior hx hb dX12_word_52 ?_
          refine lv_goto (tgt := 57) hx hb dX12_word_53 (by decide) ?_
          exact wb_X12_word_57 cx C X S0 n r S1 _ ih a0 x2 x3 ((x1 <<< ((5 : Int32) &&& (31 : Int32))) ||| ((pA S_8 q15 (Int32.toNatClampNeg x3)) - (96 : Int32))) S_8 _ _ _ hw hE Ta0 (lv_sub hl [0, 2, 3] rfl) hm
def m_X12_word (n : Nat) (a0 : Nat) (S0 : pq_S) : Option (Int32 × pq_S) := cb (m_X12_here n a0 S0) fun r3 S_1 => b_X12_word_14 n n a0 0 0 (pI S_1 1204 a0) S_1
theorem tc_X12_word : Cond.code yX12_word cX12_word 4 (some .int) ∈ pq_U := tw1726
theorem cd_X12_word : yX12_word.cls = RX12 ∧ yX12_word.cls ≠ "java/lang/invoke/MethodHandle" ∧ yX12_word.cls ≠ "java/lang/invoke/VarHandle" ∧ (parseMethodDescriptor yX12_word.desc).map (fun d => d.parameters.length) = some 0 := by decide +kernel
set_option maxHeartbeats 4000000 in
set_option maxRecDepth 100000 in
theorem c_X12_word (l : Launch) (C : pq_C) (X : va_W) (n : Nat) (S0 : pq_S) (hF : WF S0) (sz : Nat) (a0 : Nat) (Ta0 : TY S0 a0 12) (r : Int32) (S1 : pq_S) (hm : m_X12_word n a0 S0 = some (r, S1)) : MI l yX12_word (.code yX12_word cX12_word 4 (some .int) :: pq_U) rm_X12_word C X S0 sz [.ref a0] r S1 0 0 := by
  refine Met.ofW (cc := cX12_word) (maxL := 4) (ret := (some .int)) (by decide) rfl ?_
  intro p e s m args below meth c s₁ B hml hv
  obtain ⟨rfl, hv⟩ := hv
  have hsz := hv.1
  subst hsz
  have hw := pw_entry hF hv
  have hts := atoms_spec (ws := .code yX12_word cX12_word 4 (some .int) :: pq_U) B.pre
  have hU : ∀ w ∈ pq_U, w.before _ s = true := fun w h => hts w (List.mem_cons_of_mem _ h)
  have hx := B.exec
  have hb := B.bytes
  have hr := B.returns
  have hown : s.vm.findClass RX12 = some m.cls := findClass_of_methodNamed B.named
  have hlk := B.notSynchronized
  have hl := lv_entry ([.ref a0]) (n := 4) (Nat.le_of_ble_eq_true rfl)
  rw [lg_entry_eq]
  generalize (lg_sl ([.ref a0]) ++ List.replicate (4 - (lg_sl ([.ref a0])).length) Slot.unset).toArray = ls at hl ⊢
  have hl : lv_has ls 4 [(0, .ref a0)] := hl
  have hE : Ext S0 S0 := Ext.rf _
  have cx : Cx p s m _ meth c cX12_word 4 RX12 (some .int) := ⟨hx, hb, hml, hown, hU, hr, hlk⟩
  rw [m_X12_word] at hm
  refine lv_aload_n hx hb dX12_word_0 rfl (lv_at hl 0 rfl) ?_
  obtain ⟨r3, S_1, hq2, hm⟩ := cb_some hm
  refine pw_ci (va_runV (As := []) (rest := []) ⟨hx, hb, hml, hown, hU⟩ (c_X12_here l C X n S0 hw.wf _ a0 (Ta0) r3 S_1 hq2) (cwV 0 hU (pq_gV tw1719 tw1721 ts127 tw14 tc_X12_here) rfl rfl rfl cd_X12_here ⟨Nat.le_of_ble_eq_true rfl, Nat.le_of_ble_eq_true rfl⟩) (pw_preV hw Ta0 (by decide) rfl) rfl rfl hl.1 rfl (lv_room (Nat.le_of_ble_eq_true rfl)) dX12_word_1 ⟨Nat.zero_le _, Nat.zero_le _⟩) hw (fun H locs hw hx4 => ?_)
  have Ta0 : TY S_1 a0 12 := ty_ext hx4 Ta0
  have hE : Ext S0 S_1 := Ext.tr hE hx4
  refine lv_pop hx hb dX12_word_4 rfl ?_
  refine lv_iconst (v := 0) hx hb dX12_word_5 (by decide) ?_
  refine lv_istore_n (lv' := [(1, .int 0), (0, .ref a0)]) hx hb dX12_word_6 rfl hl (by decide) rfl (fun ls hl => ?_)
  refine lv_iconst (v := 0) hx hb dX12_word_7 (by decide) ?_
  refine lv_istore_n (lv' := [(2, .int 0), (1, .int 0), (0, .ref a0)]) hx hb dX12_word_8 rfl hl (by decide) rfl (fun ls hl => ?_)
  refine lv_aload_n hx hb dX12_word_9 rfl (lv_at hl 2 rfl) ?_
  refine pg_i (k := 12) (j := 4) (f := 1204) hx hb hown hU iu12 hw Ta0 (by decide) rfl (hU _ tw1475) rfl dX12_word_10 ?_
  refine lv_istore_n (lv' := [(3, .int (pI S_1 1204 a0)), (2, .int 0), (1, .int 0), (0, .ref a0)]) hx hb dX12_word_13 rfl hl (by decide) rfl (fun ls hl => ?_)
  exact wb_X12_word_14 cx C X S0 n r S1 n a0 0 0 (pI S_1 1204 a0) S_1 _ _ _ hw hE Ta0 (lv_sub hl [3, 2, 1, 0] rfl) hm
abbrev rm_X12_of : Room := { frames := 4, cells := 0, slots := 0, locals := 85 }
def b_X12_of_4 (n : Nat) : Nat → Nat → Int32 → Int32 → pq_S → Option (Int32 × pq_S)
  | 0, _, _, _, _ => none
  | f + 1, a0, x1, x2, S => if (tx_len a0) ≤ x2 then some (x1, S) else ck (ixt x2 a0) (dixt _ _) (lt_ ((x1 <<< ((5 : Int32) &&& (31 : Int32))) ||| ((tx_ch a0 x2) - (96 : Int32))) fun v3 => b_X12_of_4 n f a0 v3 (x2 + 1) S)
set_option maxHeartbeats 4000000 in
set_option maxRecDepth 100000 in
theorem wb_X12_of_4 {p : Program} {l : Launch} {e : Env} {s : State} {m : MethodId} {args : Array Value} {below : List Frame} {meth : Method} {c : Code} (cx : Cx p s m args meth c cX12_of 3 RX12 (some .int)) (C : pq_C) (X : va_W) (S0 : pq_S) (n : Nat) (r : Int32) (S1 : pq_S) : ∀ (f : Nat) (a0 : Nat) (x1 : Int32) (x2 : Int32) (S : pq_S) (H : Heap) (locs : List Loc) (ls : Array Slot), PW C X S (pq_F C X S0 s.heap.size) H locs s → Ext S0 S → a0 < pq_ns → lv_has ls 3 [(0, .ref (C.2.2.2.2.2.2.1 a0)), (1, .int x1), (2, .int x2)] → b_X12_of_4 n f a0 x1 x2 S = some (r, S1) → W p l e rm_X12_of s m args below meth c H locs 0 0 (MQ below (QcI C X S0 s.heap.size r S1) args s 0 0 (pq_F C X S0 s.heap.size)) (F0 m 4 ls []) := by
  obtain ⟨hx, hb, hml, hown, hU, hr, hlk⟩ := id cx
  intro f
  induction f with
  | zero =>
    intro a0 x1 x2 S H locs ls hw hE Ta0 hl hm
    cases hm
  | succ f ih =>
    intro a0 x1 x2 S H locs ls hw hE Ta0 hl hm
    rw [b_X12_of_4] at hm
    refine lv_iload_n hx hb dX12_of_4 rfl (lv_at hl 2 rfl) ?_
    refine lv_aload_n hx hb dX12_of_5 rfl (lv_at hl 0 rfl) ?_
    refine pw_ci (va_runV (As := []) (rest := [.int x2]) ⟨hx, hb, hml, hown, hU⟩ (c_J0_length_8abf5 l C X S hw.wf _ a0 Ta0) (cwV 0 hU (pq_gV tw1734 tw602 tw603 tw20 tc_J0_length_8abf5) rfl rfl rfl cd_J0_length_8abf5 ⟨Nat.le_of_ble_eq_true rfl, Nat.le_of_ble_eq_true rfl⟩) (pw_preT hw Ta0) rfl rfl hl.1 rfl (lv_room (Nat.le_of_ble_eq_true rfl)) dX12_of_6 ⟨Nat.zero_le _, Nat.zero_le _⟩) hw (fun H locs hw _ => ?_)
    refine lv_icmp_ge (tgt := 31) hx hb dX12_of_9 (by decide) (fun h1 => ?_) (fun h1 => ?_)
    · rw [if_pos h1] at hm
      refine lv_iload_n hx hb dX12_of_31 rfl (lv_at hl 1 rfl) ?_
      cases hm
      exact pw_iret hx hb hr rfl hlk hw hE dX12_of_32
    · rw [if_neg h1] at hm
      refine lv_iload_n hx hb dX12_of_12 rfl (lv_at hl 1 rfl) ?_
      refine lv_iconst (v := 5) hx hb dX12_of_13 (by decide) ?_
      refine lv_ishl hx hb dX12_of_14 ?_
      refine lv_aload_n hx hb dX12_of_15 rfl (lv_at hl 0 rfl) ?_
      refine lv_iload_n hx hb dX12_of_16 rfl (lv_at hl 2 rfl) ?_
      obtain ⟨hi2, hm⟩ := ck_some hm
      refine pw_ci (va_runV (As := [.int x2]) (rest := [.int (x1 <<< ((5 : Int32) &&& (31 : Int32)))]) ⟨hx, hb, hml, hown, hU⟩ (c_J0_charAt_5068e l C X S hw.wf _ a0 Ta0 x2 hi2.1 hi2.2) (cwV 1 hU (pq_gV tw1735 tw612 tw613 tw20 tc_J0_charAt_5068e) rfl rfl rfl cd_J0_charAt_5068e ⟨Nat.le_of_ble_eq_true rfl, Nat.le_of_ble_eq_true rfl⟩) (pw_preT hw Ta0) rfl rfl hl.1 rfl (lv_room (Nat.le_of_ble_eq_true rfl)) dX12_of_17 ⟨Nat.zero_le _, Nat.zero_le _⟩) hw (fun H locs hw _ => ?_)
      refine lv_bipush (v := 96) hx hb dX12_of_20 (by decide) ?_
      refine lv_isub hx hb dX12_of_22 ?_
      refine lv_ior hx hb dX12_of_23 ?_
      obtain ⟨v3, ev3, hm⟩ := lt_some hm
      refine lv_nmI ev3 ?_
      refine lv_istore_n (lv' := [(1, .int v3), (0, .ref (C.2.2.2.2.2.2.1 a0)), (2, .int x2)]) hx hb dX12_of_24 rfl hl (by decide) rfl (fun ls hl => ?_)
      refine lv_iinc (v := (x2 + 1)) (lv' := [(2, .int (x2 + 1)), (1, .int v3), (0, .ref (C.2.2.2.2.2.2.1 a0))]) hx hb dX12_of_25 hl (k := 2) rfl rfl (by decide) rfl (fun ls hl => ?_)
      refine lv_goto (tgt := 4) hx hb dX12_of_28 (by decide) ?_
      exact ih a0 v3 (x2 + 1) S _ _ _ hw hE Ta0 (lv_sub hl [2, 1, 0] rfl) hm
def m_X12_of (n : Nat) (a0 : Nat) (S0 : pq_S) : Option (Int32 × pq_S) := b_X12_of_4 n n a0 0 0 S0
theorem tc_X12_of : Cond.code yX12_of cX12_of 3 (some .int) ∈ pq_U := tw1733
theorem cd_X12_of : yX12_of.cls = RX12 ∧ yX12_of.cls ≠ "java/lang/invoke/MethodHandle" ∧ yX12_of.cls ≠ "java/lang/invoke/VarHandle" ∧ (parseMethodDescriptor yX12_of.desc).map (fun d => d.parameters.length) = some 1 := by decide +kernel
set_option maxHeartbeats 4000000 in
set_option maxRecDepth 100000 in
theorem c_X12_of (l : Launch) (C : pq_C) (X : va_W) (n : Nat) (S0 : pq_S) (hF : WF S0) (sz : Nat) (a0 : Nat) (Ta0 : a0 < pq_ns) (r : Int32) (S1 : pq_S) (hm : m_X12_of n a0 S0 = some (r, S1)) : MI l yX12_of (.code yX12_of cX12_of 3 (some .int) :: pq_U) rm_X12_of C X S0 sz [.ref (C.2.2.2.2.2.2.1 a0)] r S1 0 0 := by
  refine Met.ofW (cc := cX12_of) (maxL := 3) (ret := (some .int)) (by decide) rfl ?_
  intro p e s m args below meth c s₁ B hml hv
  obtain ⟨rfl, hv⟩ := hv
  have hsz := hv.1
  subst hsz
  have hw := pw_entry hF hv
  have hts := atoms_spec (ws := .code yX12_of cX12_of 3 (some .int) :: pq_U) B.pre
  have hU : ∀ w ∈ pq_U, w.before _ s = true := fun w h => hts w (List.mem_cons_of_mem _ h)
  have hx := B.exec
  have hb := B.bytes
  have hr := B.returns
  have hown : s.vm.findClass RX12 = some m.cls := findClass_of_methodNamed B.named
  have hlk := B.notSynchronized
  have hl := lv_entry ([.ref (C.2.2.2.2.2.2.1 a0)]) (n := 3) (Nat.le_of_ble_eq_true rfl)
  rw [lg_entry_eq]
  generalize (lg_sl ([.ref (C.2.2.2.2.2.2.1 a0)]) ++ List.replicate (3 - (lg_sl ([.ref (C.2.2.2.2.2.2.1 a0)])).length) Slot.unset).toArray = ls at hl ⊢
  have hl : lv_has ls 3 [(0, .ref (C.2.2.2.2.2.2.1 a0))] := hl
  have hE : Ext S0 S0 := Ext.rf _
  have cx : Cx p s m _ meth c cX12_of 3 RX12 (some .int) := ⟨hx, hb, hml, hown, hU, hr, hlk⟩
  rw [m_X12_of] at hm
  refine lv_iconst (v := 0) hx hb dX12_of_0 (by decide) ?_
  refine lv_istore_n (lv' := [(1, .int 0), (0, .ref (C.2.2.2.2.2.2.1 a0))]) hx hb dX12_of_1 rfl hl (by decide) rfl (fun ls hl => ?_)
  refine lv_iconst (v := 0) hx hb dX12_of_2 (by decide) ?_
  refine lv_istore_n (lv' := [(2, .int 0), (1, .int 0), (0, .ref (C.2.2.2.2.2.2.1 a0))]) hx hb dX12_of_3 rfl hl (by decide) rfl (fun ls hl => ?_)
  exact wb_X12_of_4 cx C X S0 n r S1 n a0 0 0 S0 _ _ _ hw hE Ta0 (lv_sub hl [2, 1, 0] rfl) hm
abbrev rm_X12_pass : Room := { frames := 1, cells := 0, slots := 0, locals := 20 }
def b_X12_pass_0 (n : Nat) : Nat → Nat → pq_S → Option pq_S
  | 0, _, _ => none
  | f + 1, a0, S => if (pI S 1203 a0) ≤ (pI S 1204 a0) then some S else Option.bind (pR S 1209 a0) fun q2 => ck (ix (pI S 1204 a0) (pN S q2)) (dix _ _) (cb (m_X12_isSmall n (pA S q2 (Int32.toNatClampNeg (pI S 1204 a0))) S) fun r6 S_4 => if r6 = 0 then some S_4 else b_X12_pass_0 n f a0 (sI S_4 1204 a0 ((pI S_4 1204 a0) + (1 : Int32))))
set_option maxHeartbeats 4000000 in
set_option maxRecDepth 100000 in
theorem wb_X12_pass_0 {p : Program} {l : Launch} {e : Env} {s : State} {m : MethodId} {args : Array Value} {below : List Frame} {meth : Method} {c : Code} (cx : Cx p s m args meth c cX12_pass 1 RX12 none) (C : pq_C) (X : va_W) (S0 : pq_S) (n : Nat) (S1 : pq_S) : ∀ (f : Nat) (a0 : Nat) (S : pq_S) (H : Heap) (locs : List Loc) (ls : Array Slot), PW C X S (pq_F C X S0 s.heap.size) H locs s → Ext S0 S → TY S a0 12 → lv_has ls 1 [(0, .ref a0)] → b_X12_pass_0 n f a0 S = some S1 → W p l e rm_X12_pass s m args below meth c H locs 0 0 (MQ below (QcV C X S0 s.heap.size S1) args s 0 0 (pq_F C X S0 s.heap.size)) (F0 m 0 ls []) := by
  obtain ⟨hx, hb, hml, hown, hU, hr, hlk⟩ := id cx
  intro f
  induction f with
  | zero =>
    intro a0 S H locs ls hw hE Ta0 hl hm
    cases hm
  | succ f ih =>
    intro a0 S H locs ls hw hE Ta0 hl hm
    rw [b_X12_pass_0] at hm
    refine lv_aload_n hx hb dX12_pass_0 rfl (lv_at hl 0 rfl) ?_
    refine pg_i (k := 12) (j := 4) (f := 1204) hx hb hown hU iu12 hw Ta0 (by decide) rfl (hU _ tw1475) rfl dX12_pass_1 ?_
    refine lv_aload_n hx hb dX12_pass_4 rfl (lv_at hl 0 rfl) ?_
    refine pg_i (k := 12) (j := 3) (f := 1203) hx hb hown hU iu12 hw Ta0 (by decide) rfl (hU _ tw1474) rfl dX12_pass_5 ?_
    refine lv_icmp_ge (tgt := 39) hx hb dX12_pass_8 (by decide) (fun h1 => ?_) (fun h1 => ?_)
    · rw [if_pos h1] at hm
      cases hm
      exact pw_vret hx hb hr hlk hw hE dX12_pass_39
    · rw [if_neg h1] at hm
      refine lv_aload_n hx hb dX12_pass_11 rfl (lv_at hl 0 rfl) ?_
      obtain ⟨q2, hq2, hm⟩ := bd_some hm
      have Tq2 : TY S q2 14 := hw.wf.ref (k := 12) (j := 9) Ta0 (by decide) (by decide) hq2
      refine pg_rb (k := 12) (j := 9) (f := 1209) hx hb hown hU iu12 hw Ta0 (by decide) rfl (hU _ tw1480) rfl hq2 dX12_pass_12 ?_
      refine lv_aload_n hx hb dX12_pass_15 rfl (lv_at hl 0 rfl) ?_
      refine pg_i (k := 12) (j := 4) (f := 1204) hx hb hown hU iu12 hw Ta0 (by decide) rfl (hU _ tw1475) rfl dX12_pass_16 ?_
      obtain ⟨hi3, hm⟩ := ck_some hm
      refine pw_iald hx hb hw Tq2 hi3 dX12_pass_19 ?_
      obtain ⟨r6, S_4, hq5, hm⟩ := cb_some hm
      refine pw_cz (va_runS (As := [.int (pA S q2 (Int32.toNatClampNeg (pI S 1204 a0)))]) (rest := []) ⟨hx, hb, hml, hown, hU⟩ (c_X12_isSmall l C X n S hw.wf _ (pA S q2 (Int32.toNatClampNeg (pI S 1204 a0)))  r6 S_4 hq5) ⟨callB_of 1 hU (pq_g1 tc_X12_isSmall) rfl rfl rfl (hU _ tw14) (hU _ tw1727) cd_X12_isSmall.2 ⟨Nat.le_of_ble_eq_true rfl, Nat.le_of_ble_eq_true rfl⟩, hU _ tw1728⟩ (pw_preS hw) rfl rfl hl.1 rfl (lv_room (Nat.le_of_ble_eq_true rfl)) dX12_pass_20 ⟨Nat.zero_le _, Nat.zero_le _⟩) hw (fun H locs hw hx7 hz8 => ?_)
      have Ta0 : TY S_4 a0 12 := ty_ext hx7 Ta0
      have hE : Ext S0 S_4 := Ext.tr hE hx7
      refine lv_if_eq (tgt := 39) hx hb dX12_pass_23 (by decide) (fun h9 => ?_) (fun h9 => ?_)
      · rw [if_pos h9] at hm
        cases hm
        exact pw_vret hx hb hr hlk hw hE dX12_pass_39
      · rw [if_neg h9] at hm
        refine lv_aload_n hx hb dX12_pass_26 rfl (lv_at hl 0 rfl) ?_
        refine lv_dup hx hb dX12_pass_27 rfl ?_
        refine pg_i (k := 12) (j := 4) (f := 1204) hx hb hown hU iu12 hw Ta0 (by decide) rfl (hU _ tw1475) rfl dX12_pass_28 ?_
        refine lv_iconst (v := 1) hx hb dX12_pass_31 (by decide) ?_
        refine lv_iadd hx hb dX12_pass_32 ?_
        refine pp_i (k := 12) (j := 4) (f := 1204) hx hb hown hU iu12 tyX12_ok nmX12 hw Ta0 (by decide) rfl (hU _ tw1475) rfl rfl rfl dX12_pass_33 (fun H locs hw => ?_)
        refine lv_goto (tgt := 0) hx hb dX12_pass_36 (by decide) ?_
        exact ih a0 (sI S_4 1204 a0 ((pI S_4 1204 a0) + (1 : Int32))) _ _ _ hw hE Ta0 (lv_sub hl [0] rfl) hm
def m_X12_pass (n : Nat) (a0 : Nat) (S : pq_S) : Option pq_S := b_X12_pass_0 n n a0 S
theorem tc_X12_pass : Cond.code yX12_pass cX12_pass 1 none ∈ pq_U := tw1752
theorem cd_X12_pass : yX12_pass.cls = RX12 ∧ yX12_pass.cls ≠ "java/lang/invoke/MethodHandle" ∧ yX12_pass.cls ≠ "java/lang/invoke/VarHandle" ∧ (parseMethodDescriptor yX12_pass.desc).map (fun d => d.parameters.length) = some 0 := by decide +kernel
set_option maxHeartbeats 4000000 in
set_option maxRecDepth 100000 in
theorem c_X12_pass (l : Launch) (C : pq_C) (X : va_W) (n : Nat) (S0 : pq_S) (hF : WF S0) (sz : Nat) (a0 : Nat) (Ta0 : TY S0 a0 12) (S1 : pq_S) (hm : m_X12_pass n a0 S0 = some S1) : MV l yX12_pass (.code yX12_pass cX12_pass 1 none :: pq_U) rm_X12_pass C X S0 sz [.ref a0] S1 0 0 := by
  refine Met.ofW (cc := cX12_pass) (maxL := 1) (ret := none) (by decide) rfl ?_
  intro p e s m args below meth c s₁ B hml hv
  obtain ⟨rfl, hv⟩ := hv
  have hsz := hv.1
  subst hsz
  have hw := pw_entry hF hv
  have hts := atoms_spec (ws := .code yX12_pass cX12_pass 1 none :: pq_U) B.pre
  have hU : ∀ w ∈ pq_U, w.before _ s = true := fun w h => hts w (List.mem_cons_of_mem _ h)
  have hx := B.exec
  have hb := B.bytes
  have hr := B.returns
  have hown : s.vm.findClass RX12 = some m.cls := findClass_of_methodNamed B.named
  have hlk := B.notSynchronized
  have hl := lv_entry ([.ref a0]) (n := 1) (Nat.le_of_ble_eq_true rfl)
  rw [lg_entry_eq]
  generalize (lg_sl ([.ref a0]) ++ List.replicate (1 - (lg_sl ([.ref a0])).length) Slot.unset).toArray = ls at hl ⊢
  have hl : lv_has ls 1 [(0, .ref a0)] := hl
  have hE : Ext S0 S0 := Ext.rf _
  have cx : Cx p s m _ meth c cX12_pass 1 RX12 none := ⟨hx, hb, hml, hown, hU, hr, hlk⟩
  rw [m_X12_pass] at hm
  exact wb_X12_pass_0 cx C X S0 n S1 n a0 S0 _ _ _ hw hE Ta0 (lv_sub hl [0] rfl) hm
abbrev rm_X12_readNumber : Room := { frames := 1, cells := 0, slots := 0, locals := 22 }
def b_X12_readNumber_99 (n : Nat) (k23 : Nat → Int32 → Int32 → Int32 → Int32 → pq_S → Option (Int32 × pq_S)) (a0 : Nat) (x1 : Int32) (x2 : Int32) (x4 : Int32) (z0 : Int32) (S : pq_S) : Option (Int32 × pq_S) := k23 a0 x1 x2 x4 z0 (sI S 1204 a0 ((pI S 1204 a0) + (1 : Int32)))
set_option maxHeartbeats 4000000 in
set_option maxRecDepth 100000 in
theorem wb_X12_readNumber_99 {p : Program} {l : Launch} {e : Env} {s : State} {m : MethodId} {args : Array Value} {below : List Frame} {meth : Method} {c : Code} (cx : Cx p s m args meth c cX12_readNumber 6 RX12 (some .int)) (C : pq_C) (X : va_W) (S0 : pq_S) (n : Nat) (r : Int32) (S1 : pq_S) (k23 : Nat → Int32 → Int32 → Int32 → Int32 → pq_S → Option (Int32 × pq_S)) (hk23 : ∀ (a0 : Nat) (x1 : Int32) (x2 : Int32) (x4 : Int32) (x5 : Int32) (S : pq_S) (H : Heap) (locs : List Loc) (ls : Array Slot), PW C X S (pq_F C X S0 s.heap.size) H locs s → Ext S0 S → TY S a0 12 → lv_has ls 6 [(0, .ref a0), (1, .int x1), (2, .int x2), (4, .int x4), (5, .int x5)] → k23 a0 x1 x2 x4 x5 S = some (r, S1) → W p l e rm_X12_readNumber s m args below meth c H locs 0 0 (MQ below (QcI C X S0 s.heap.size r S1) args s 0 0 (pq_F C X S0 s.heap.size)) (F0 m 41 ls [])) : ∀ (a0 : Nat) (x1 : Int32) (x2 : Int32) (x4 : Int32) (z0 : Int32) (S : pq_S) (H : Heap) (locs : List Loc) (ls : Array Slot), PW C X S (pq_F C X S0 s.heap.size) H locs s → Ext S0 S → TY S a0 12 → lv_has ls 6 [(0, .ref a0), (1, .int x1), (2, .int x2), (4, .int x4)] → b_X12_readNumber_99 n k23 a0 x1 x2 x4 z0 S = some (r, S1) → W p l e rm_X12_readNumber s m args below meth c H locs 0 0 (MQ below (QcI C X S0 s.heap.size r S1) args s 0 0 (pq_F C X S0 s.heap.size)) (F0 m 99 ls [.int z0]) := by
  obtain ⟨hx, hb, hml, hown, hU, hr, hlk⟩ := id cx
  intro a0 x1 x2 x4 z0 S H locs ls hw hE Ta0 hl hm
  rw [b_X12_readNumber_99] at hm
  refine lv_istore (lv' := [(5, .int z0), (0, .ref a0), (1, .int x1), (2, .int x2), (4, .int x4)]) hx hb dX12_readNumber_99 hl (by decide) rfl (fun ls hl => ?_)
  refine lv_aload_n hx hb dX12_readNumber_101 rfl (lv_at hl 1 rfl) ?_
  refine lv_dup hx hb dX12_readNumber_102 rfl ?_
  refine pg_i (k := 12) (j := 4) (f := 1204) hx hb hown hU iu12 hw Ta0 (by decide) rfl (hU _ tw1475) rfl dX12_readNumber_103 ?_
  refine lv_iconst (v := 1) hx hb dX12_readNumber_106 (by decide) ?_
  refine lv_iadd hx hb dX12_readNumber_107 ?_
  refine pp_i (k := 12) (j := 4) (f := 1204) hx hb hown hU iu12 tyX12_ok nmX12 hw Ta0 (by decide) rfl (hU _ tw1475) rfl rfl rfl dX12_readNumber_108 (fun H locs hw => ?_)
  refine lv_goto (tgt := 41) hx hb dX12_readNumber_111 (by decide) ?_
  exact hk23 a0 x1 x2 x4 z0 (sI S 1204 a0 ((pI S 1204 a0) + (1 : Int32))) _ _ _ hw hE Ta0 (lv_sub hl [1, 2, 3, 4, 0] rfl) hm
def b_X12_readNumber_126 (n : Nat) (a0 : Nat) (x4 : Int32) (S : pq_S) : Option (Int32 × pq_S) := Option.bind (m_X12_wrong n a0 2 x4 S) fun S_34 => some (0, S_34)
set_option maxHeartbeats 4000000 in
set_option maxRecDepth 100000 in
theorem wb_X12_readNumber_126 {p : Program} {l : Launch} {e : Env} {s : State} {m : MethodId} {args : Array Value} {below : List Frame} {meth : Method} {c : Code} (cx : Cx p s m args meth c cX12_readNumber 6 RX12 (some .int)) (C : pq_C) (X : va_W) (S0 : pq_S) (n : Nat) (r : Int32) (S1 : pq_S) : ∀ (a0 : Nat) (x4 : Int32) (S : pq_S) (H : Heap) (locs : List Loc) (ls : Array Slot), PW C X S (pq_F C X S0 s.heap.size) H locs s → Ext S0 S → TY S a0 12 → lv_has ls 6 [(0, .ref a0), (4, .int x4)] → b_X12_readNumber_126 n a0 x4 S = some (r, S1) → W p l e rm_X12_readNumber s m args below meth c H locs 0 0 (MQ below (QcI C X S0 s.heap.size r S1) args s 0 0 (pq_F C X S0 s.heap.size)) (F0 m 126 ls []) := by
  obtain ⟨hx, hb, hml, hown, hU, hr, hlk⟩ := id cx
  intro a0 x4 S H locs ls hw hE Ta0 hl hm
  rw [b_X12_readNumber_126] at hm
  refine lv_aload_n hx hb dX12_readNumber_126 rfl (lv_at hl 0 rfl) ?_
  refine lv_iconst (v := 2) hx hb dX12_readNumber_127 (by decide) ?_
  refine lv_iload hx hb dX12_readNumber_128 (lv_at hl 1 rfl) ?_
  obtain ⟨S_34, hq35, hm⟩ := bd_some hm
  refine pw_cv (va_runV (As := [.int 2, .int x4]) (rest := []) ⟨hx, hb, hml, hown, hU⟩ (c_X12_wrong l C X n S hw.wf _ a0 2 x4 (Ta0) S_34 hq35) (cwV 2 hU (pq_gV tw1741 tw1743 ts129 tw14 tc_X12_wrong) rfl rfl rfl cd_X12_wrong ⟨Nat.le_of_ble_eq_true rfl, Nat.le_of_ble_eq_true rfl⟩) (pw_preV hw Ta0 (by decide) rfl) rfl rfl hl.1 rfl (lv_room (Nat.le_of_ble_eq_true rfl)) dX12_readNumber_130 ⟨Nat.zero_le _, Nat.zero_le _⟩) hw (fun H locs hw hx36 => ?_)
  have Ta0 : TY S_34 a0 12 := ty_ext hx36 Ta0
  have hE : Ext S0 S_34 := Ext.tr hE hx36
  refine lv_iconst (v := 0) hx hb dX12_readNumber_133 (by decide) ?_
  cases hm
  exact pw_iret hx hb hr rfl hlk hw hE dX12_readNumber_134
def b_X12_readNumber_114 (n : Nat) (a0 : Nat) (x1 : Int32) (x2 : Int32) (x4 : Int32) (x5 : Int32) (S : pq_S) : Option (Int32 × pq_S) := if x5 < x1 then b_X12_readNumber_126 n a0 x4 S else if x5 ≤ x2 then some (x5, S) else b_X12_readNumber_126 n a0 x4 S
set_option maxHeartbeats 4000000 in
set_option maxRecDepth 100000 in
theorem wb_X12_readNumber_114 {p : Program} {l : Launch} {e : Env} {s : State} {m : MethodId} {args : Array Value} {below : List Frame} {meth : Method} {c : Code} (cx : Cx p s m args meth c cX12_readNumber 6 RX12 (some .int)) (C : pq_C) (X : va_W) (S0 : pq_S) (n : Nat) (r : Int32) (S1 : pq_S) : ∀ (a0 : Nat) (x1 : Int32) (x2 : Int32) (x4 : Int32) (x5 : Int32) (S : pq_S) (H : Heap) (locs : List Loc) (ls : Array Slot), PW C X S (pq_F C X S0 s.heap.size) H locs s → Ext S0 S → TY S a0 12 → lv_has ls 6 [(0, .ref a0), (1, .int x1), (2, .int x2), (4, .int x4), (5, .int x5)] → b_X12_readNumber_114 n a0 x1 x2 x4 x5 S = some (r, S1) → W p l e rm_X12_readNumber s m args below meth c H locs 0 0 (MQ below (QcI C X S0 s.heap.size r S1) args s 0 0 (pq_F C X S0 s.heap.size)) (F0 m 114 ls []) := by
  obtain ⟨hx, hb, hml, hown, hU, hr, hlk⟩ := id cx
  intro a0 x1 x2 x4 x5 S H locs ls hw hE Ta0 hl hm
  rw [b_X12_readNumber_114] at hm
  refine lv_iload hx hb dX12_readNumber_114 (lv_at hl 4 rfl) ?_
  refine lv_iload_n hx hb dX12_readNumber_116 rfl (lv_at hl 1 rfl) ?_
  refine lv_icmp_lt (tgt := 126) hx hb dX12_readNumber_117 (by decide) (fun h32 => ?_) (fun h32 => ?_)
  · rw [if_pos h32] at hm
    exact wb_X12_readNumber_126 cx C X S0 n r S1 a0 x4 S _ _ _ hw hE Ta0 (lv_sub hl [0, 3] rfl) hm
  · rw [if_neg h32] at hm
    refine lv_iload hx hb dX12_readNumber_120 (lv_at hl 4 rfl) ?_
    refine lv_iload_n hx hb dX12_readNumber_122 rfl (lv_at hl 2 rfl) ?_
    refine lv_icmp_le (tgt := 135) hx hb dX12_readNumber_123 (by decide) (fun h33 => ?_) (fun h33 => ?_)
    · rw [if_pos h33] at hm
      refine lv_iload hx hb dX12_readNumber_135 (lv_at hl 4 rfl) ?_
      cases hm
      exact pw_iret hx hb hr rfl hlk hw hE dX12_readNumber_137
    · rw [if_neg h33] at hm
      exact wb_X12_readNumber_126 cx C X S0 n r S1 a0 x4 S _ _ _ hw hE Ta0 (lv_sub hl [0, 3] rfl) hm
def b_X12_readNumber_41 (n : Nat) : Nat → Nat → Int32 → Int32 → Int32 → Int32 → pq_S → Option (Int32 × pq_S)
  | 0, _, _, _, _, _, _ => none
  | f + 1, a0, x1, x2, x4, x5, S => if (pI S 1203 a0) ≤ (pI S 1204 a0) then b_X12_readNumber_114 n a0 x1 x2 x4 x5 S else Option.bind (pR S 1209 a0) fun q21 => ck (ix (pI S 1204 a0) (pN S q21)) (dix _ _) (cb (m_X12_isDigit n (pA S q21 (Int32.toNatClampNeg (pI S 1204 a0))) S) fun r25 S_23 => if r25 = 0 then b_X12_readNumber_114 n a0 x1 x2 x4 x5 S_23 else if x5 ≤ 9999 then Option.bind (pR S_23 1209 a0) fun q30 => ck (ix (pI S_23 1204 a0) (pN S_23 q30)) (dix _ _) (b_X12_readNumber_99 n (b_X12_readNumber_41 n f) a0 x1 x2 x4 ((((10 : Int32) * x5) + (pA S_23 q30 (Int32.toNatClampNeg (pI S_23 1204 a0)))) - (48 : Int32)) S_23) else b_X12_readNumber_99 n (b_X12_readNumber_41 n f) a0 x1 x2 x4 10000 S_23)
set_option maxHeartbeats 4000000 in
set_option maxRecDepth 100000 in
theorem wb_X12_readNumber_41 {p : Program} {l : Launch} {e : Env} {s : State} {m : MethodId} {args : Array Value} {below : List Frame} {meth : Method} {c : Code} (cx : Cx p s m args meth c cX12_readNumber 6 RX12 (some .int)) (C : pq_C) (X : va_W) (S0 : pq_S) (n : Nat) (r : Int32) (S1 : pq_S) : ∀ (f : Nat) (a0 : Nat) (x1 : Int32) (x2 : Int32) (x4 : Int32) (x5 : Int32) (S : pq_S) (H : Heap) (locs : List Loc) (ls : Array Slot), PW C X S (pq_F C X S0 s.heap.size) H locs s → Ext S0 S → TY S a0 12 → lv_has ls 6 [(0, .ref a0), (1, .int x1), (2, .int x2), (4, .int x4), (5, .int x5)] → b_X12_readNumber_41 n f a0 x1 x2 x4 x5 S = some (r, S1) → W p l e rm_X12_readNumber s m args below meth c H locs 0 0 (MQ below (QcI C X S0 s.heap.size r S1) args s 0 0 (pq_F C X S0 s.heap.size)) (F0 m 41 ls []) := by
  obtain ⟨hx, hb, hml, hown, hU, hr, hlk⟩ := id cx
  intro f
  induction f with
  | zero =>
    intro a0 x1 x2 x4 x5 S H locs ls hw hE Ta0 hl hm
    cases hm
  | succ f ih =>
    intro a0 x1 x2 x4 x5 S H locs ls hw hE Ta0 hl hm
    rw [b_X12_readNumber_41] at hm
    refine lv_aload_n hx hb dX12_readNumber_41 rfl (lv_at hl 0 rfl) ?_
    refine pg_i (k := 12) (j := 4) (f := 1204) hx hb hown hU iu12 hw Ta0 (by decide) rfl (hU _ tw1475) rfl dX12_readNumber_42 ?_
    refine lv_aload_n hx hb dX12_readNumber_45 rfl (lv_at hl 0 rfl) ?_
    refine pg_i (k := 12) (j := 3) (f := 1203) hx hb hown hU iu12 hw Ta0 (by decide) rfl (hU _ tw1474) rfl dX12_readNumber_46 ?_
    refine lv_icmp_ge (tgt := 114) hx hb dX12_readNumber_49 (by decide) (fun h20 => ?_) (fun h20 => ?_)
    · rw [if_pos h20] at hm
      exact wb_X12_readNumber_114 cx C X S0 n r S1 a0 x1 x2 x4 x5 S _ _ _ hw hE Ta0 (lv_sub hl [0, 1, 2, 3, 4] rfl) hm
    · rw [if_neg h20] at hm
      refine lv_aload_n hx hb dX12_readNumber_52 rfl (lv_at hl 0 rfl) ?_
      obtain ⟨q21, hq21, hm⟩ := bd_some hm
      have Tq21 : TY S q21 14 := hw.wf.ref (k := 12) (j := 9) Ta0 (by decide) (by decide) hq21
      refine pg_rb (k := 12) (j := 9) (f := 1209) hx hb hown hU iu12 hw Ta0 (by decide) rfl (hU _ tw1480) rfl hq21 dX12_readNumber_53 ?_
      refine lv_aload_n hx hb dX12_readNumber_56 rfl (lv_at hl 0 rfl) ?_
      refine pg_i (k := 12) (j := 4) (f := 1204) hx hb hown hU iu12 hw Ta0 (by decide) rfl (hU _ tw1475) rfl dX12_readNumber_57 ?_
      obtain ⟨hi22, hm⟩ := ck_some hm
      refine pw_iald hx hb hw Tq21 hi22 dX12_readNumber_60 ?_
      obtain ⟨r25, S_23, hq24, hm⟩ := cb_some hm
      refine pw_cz (va_runS (As := [.int (pA S q21 (Int32.toNatClampNeg (pI S 1204 a0)))]) (rest := []) ⟨hx, hb, hml, hown, hU⟩ (c_X12_isDigit l C X n S hw.wf _ (pA S q21 (Int32.toNatClampNeg (pI S 1204 a0)))  r25 S_23 hq24) ⟨callB_of 1 hU (pq_g1 tc_X12_isDigit) rfl rfl rfl (hU _ tw14) (hU _ tw1761) cd_X12_isDigit.2 ⟨Nat.le_of_ble_eq_true rfl, Nat.le_of_ble_eq_true rfl⟩, hU _ tw1762⟩ (pw_preS hw) rfl rfl hl.1 rfl (lv_room (Nat.le_of_ble_eq_true rfl)) dX12_readNumber_61 ⟨Nat.zero_le _, Nat.zero_le _⟩) hw (fun H locs hw hx26 hz27 => ?_)
      have Ta0 : TY S_23 a0 12 := ty_ext hx26 Ta0
      have hE : Ext S0 S_23 := Ext.tr hE hx26
      refine lv_if_eq (tgt := 114) hx hb dX12_readNumber_64 (by decide) (fun h28 => ?_) (fun h28 => ?_)
      · rw [if_pos h28] at hm
        exact wb_X12_readNumber_114 cx C X S0 n r S1 a0 x1 x2 x4 x5 S_23 _ _ _ hw hE Ta0 (lv_sub hl [0, 1, 2, 3, 4] rfl) hm
      · rw [if_neg h28] at hm
        refine lv_iload hx hb dX12_readNumber_67 (lv_at hl 4 rfl) ?_
        refine lv_sipush (v := 9999) hx hb dX12_readNumber_69 (by decide) ?_
        refine lv_icmp_le (tgt := 81) hx hb dX12_readNumber_72 (by decide) (fun h29 => ?_) (fun h29 => ?_)
        · rw [if_pos h29] at hm
          refine lv_bipush (v := 10) hx hb dX12_readNumber_81 (by decide) ?_
          refine lv_iload hx hb dX12_readNumber_83 (lv_at hl 4 rfl) ?_
          refine lv_imul hx hb dX12_readNumber_85 ?_
          refine lv_aload_n hx hb dX12_readNumber_86 rfl (lv_at hl 0 rfl) ?_
          obtain ⟨q30, hq30, hm⟩ := bd_some hm
          have Tq30 : TY S_23 q30 14 := hw.wf.ref (k := 12) (j := 9) Ta0 (by decide) (by decide) hq30
          refine pg_rb (k := 12) (j := 9) (f := 1209) hx hb hown hU iu12 hw Ta0 (by decide) rfl (hU _ tw1480) rfl hq30 dX12_readNumber_87 ?_
          refine lv_aload_n hx hb dX12_readNumber_90 rfl (lv_at hl 0 rfl) ?_
          refine pg_i (k := 12) (j := 4) (f := 1204) hx hb hown hU iu12 hw Ta0 (by decide) rfl (hU _ tw1475) rfl dX12_readNumber_91 ?_
          obtain ⟨hi31, hm⟩ := ck_some hm
          refine pw_iald hx hb hw Tq30 hi31 dX12_readNumber_94 ?_
          refine lv_iadd hx hb dX12_readNumber_95 ?_
          refine lv_bipush (v := 48) hx hb dX12_readNumber_96 (by decide) ?_
          refine lv_isub hx hb dX12_readNumber_98 ?_
          exact wb_X12_readNumber_99 cx C X S0 n r S1 _ ih a0 x1 x2 x4 ((((10 : Int32) * x5) + (pA S_23 q30 (Int32.toNatClampNeg (pI S_23 1204 a0)))) - (48 : Int32)) S_23 _ _ _ hw hE Ta0 (lv_sub hl [0, 1, 2, 3] rfl) hm
        · rw [if_neg h29] at hm
          refine lv_sipush (v := 10000) hx hb dX12_readNumber_75 (by decide) ?_
          refine lv_goto (tgt := 99) hx hb dX12_readNumber_78 (by decide) ?_
          exact wb_X12_readNumber_99 cx C X S0 n r S1 _ ih a0 x1 x2 x4 10000 S_23 _ _ _ hw hE Ta0 (lv_sub hl [0, 1, 2, 3] rfl) hm
def m_X12_readNumber (n : Nat) (a0 : Nat) (x1 : Int32) (x2 : Int32) (S0 : pq_S) : Option (Int32 × pq_S) := cb (m_X12_fine n a0 S0) fun r3 S_1 => if r3 = 0 then some (0, S_1) else cb (m_X12_here n a0 S_1) fun r9 S_7 => cb (m_X12_isDigit n r9 S_7) fun r13 S_11 => if r13 = 0 then Option.bind (m_X12_wrong n a0 1 (pI S_11 1204 a0) S_11) fun S_17 => some (0, S_17) else b_X12_readNumber_41 n n a0 x1 x2 (pI S_7 1204 a0) 0 S_11
theorem tc_X12_readNumber : Cond.code yX12_readNumber cX12_readNumber 6 (some .int) ∈ pq_U := tw1760
theorem cd_X12_readNumber : yX12_readNumber.cls = RX12 ∧ yX12_readNumber.cls ≠ "java/lang/invoke/MethodHandle" ∧ yX12_readNumber.cls ≠ "java/lang/invoke/VarHandle" ∧ (parseMethodDescriptor yX12_readNumber.desc).map (fun d => d.parameters.length) = some 2 := by decide +kernel
set_option maxHeartbeats 4000000 in
set_option maxRecDepth 100000 in
theorem c_X12_readNumber (l : Launch) (C : pq_C) (X : va_W) (n : Nat) (S0 : pq_S) (hF : WF S0) (sz : Nat) (a0 : Nat) (x1 : Int32) (x2 : Int32) (Ta0 : TY S0 a0 12) (r : Int32) (S1 : pq_S) (hm : m_X12_readNumber n a0 x1 x2 S0 = some (r, S1)) : MI l yX12_readNumber (.code yX12_readNumber cX12_readNumber 6 (some .int) :: pq_U) rm_X12_readNumber C X S0 sz [.ref a0, .int x1, .int x2] r S1 0 0 := by
  refine Met.ofW (cc := cX12_readNumber) (maxL := 6) (ret := (some .int)) (by decide) rfl ?_
  intro p e s m args below meth c s₁ B hml hv
  obtain ⟨rfl, hv⟩ := hv
  have hsz := hv.1
  subst hsz
  have hw := pw_entry hF hv
  have hts := atoms_spec (ws := .code yX12_readNumber cX12_readNumber 6 (some .int) :: pq_U) B.pre
  have hU : ∀ w ∈ pq_U, w.before _ s = true := fun w h => hts w (List.mem_cons_of_mem _ h)
  have hx := B.exec
  have hb := B.bytes
  have hr := B.returns
  have hown : s.vm.findClass RX12 = some m.cls := findClass_of_methodNamed B.named
  have hlk := B.notSynchronized
  have hl := lv_entry ([.ref a0, .int x1, .int x2]) (n := 6) (Nat.le_of_ble_eq_true rfl)
  rw [lg_entry_eq]
  generalize (lg_sl ([.ref a0, .int x1, .int x2]) ++ List.replicate (6 - (lg_sl ([.ref a0, .int x1, .int x2])).length) Slot.unset).toArray = ls at hl ⊢
  have hl : lv_has ls 6 [(0, .ref a0), (1, .int x1), (2, .int x2)] := hl
  have hE : Ext S0 S0 := Ext.rf _
  have cx : Cx p s m _ meth c cX12_readNumber 6 RX12 (some .int) := ⟨hx, hb, hml, hown, hU, hr, hlk⟩
  rw [m_X12_readNumber] at hm
  refine lv_aload_n hx hb dX12_readNumber_0 rfl (lv_at hl 0 rfl) ?_
  obtain ⟨r3, S_1, hq2, hm⟩ := cb_some hm
  refine pw_cz (va_runV (As := []) (rest := []) ⟨hx, hb, hml, hown, hU⟩ (c_X12_fine l C X n S0 hw.wf _ a0 (Ta0) r3 S_1 hq2) (cwV 0 hU (pq_gV tw1711 tw1713 ts125 tw14 tc_X12_fine) rfl rfl rfl cd_X12_fine ⟨Nat.le_of_ble_eq_true rfl, Nat.le_of_ble_eq_true rfl⟩) (pw_preV hw Ta0 (by decide) rfl) rfl rfl hl.1 rfl (lv_room (Nat.le_of_ble_eq_true rfl)) dX12_readNumber_1 ⟨Nat.zero_le _, Nat.zero_le _⟩) hw (fun H locs hw hx4 hz5 => ?_)
  have Ta0 : TY S_1 a0 12 := ty_ext hx4 Ta0
  have hE : Ext S0 S_1 := Ext.tr hE hx4
  refine lv_if_ne (tgt := 9) hx hb dX12_readNumber_4 (by decide) (fun h6 => ?_) (fun h6 => ?_)
  · rw [if_neg h6] at hm
    refine lv_aload_n hx hb dX12_readNumber_9 rfl (lv_at hl 0 rfl) ?_
    obtain ⟨r9, S_7, hq8, hm⟩ := cb_some hm
    refine pw_ci (va_runV (As := []) (rest := []) ⟨hx, hb, hml, hown, hU⟩ (c_X12_here l C X n S_1 hw.wf _ a0 (Ta0) r9 S_7 hq8) (cwV 0 hU (pq_gV tw1719 tw1721 ts127 tw14 tc_X12_here) rfl rfl rfl cd_X12_here ⟨Nat.le_of_ble_eq_true rfl, Nat.le_of_ble_eq_true rfl⟩) (pw_preV hw Ta0 (by decide) rfl) rfl rfl hl.1 rfl (lv_room (Nat.le_of_ble_eq_true rfl)) dX12_readNumber_10 ⟨Nat.zero_le _, Nat.zero_le _⟩) hw (fun H locs hw hx10 => ?_)
    have Ta0 : TY S_7 a0 12 := ty_ext hx10 Ta0
    have hE : Ext S0 S_7 := Ext.tr hE hx10
    refine lv_istore_n (lv' := [(3, .int r9), (0, .ref a0), (1, .int x1), (2, .int x2)]) hx hb dX12_readNumber_13 rfl hl (by decide) rfl (fun ls hl => ?_)
    refine lv_aload_n hx hb dX12_readNumber_14 rfl (lv_at hl 1 rfl) ?_
    refine pg_i (k := 12) (j := 4) (f := 1204) hx hb hown hU iu12 hw Ta0 (by decide) rfl (hU _ tw1475) rfl dX12_readNumber_15 ?_
    refine lv_istore (lv' := [(4, .int (pI S_7 1204 a0)), (3, .int r9), (0, .ref a0), (1, .int x1), (2, .int x2)]) hx hb dX12_readNumber_18 hl (by decide) rfl (fun ls hl => ?_)
    refine lv_iconst (v := 0) hx hb dX12_readNumber_20 (by decide) ?_
    refine lv_istore (lv' := [(5, .int 0), (4, .int (pI S_7 1204 a0)), (3, .int r9), (0, .ref a0), (1, .int x1), (2, .int x2)]) hx hb dX12_readNumber_21 hl (by decide) rfl (fun ls hl => ?_)
    refine lv_iload_n hx hb dX12_readNumber_23 rfl (lv_at hl 2 rfl) ?_
    obtain ⟨r13, S_11, hq12, hm⟩ := cb_some hm
    refine pw_cz (va_runS (As := [.int r9]) (rest := []) ⟨hx, hb, hml, hown, hU⟩ (c_X12_isDigit l C X n S_7 hw.wf _ r9  r13 S_11 hq12) ⟨callB_of 1 hU (pq_g1 tc_X12_isDigit) rfl rfl rfl (hU _ tw14) (hU _ tw1761) cd_X12_isDigit.2 ⟨Nat.le_of_ble_eq_true rfl, Nat.le_of_ble_eq_true rfl⟩, hU _ tw1762⟩ (pw_preS hw) rfl rfl hl.1 rfl (lv_room (Nat.le_of_ble_eq_true rfl)) dX12_readNumber_24 ⟨Nat.zero_le _, Nat.zero_le _⟩) hw (fun H locs hw hx14 hz15 => ?_)
    have Ta0 : TY S_11 a0 12 := ty_ext hx14 Ta0
    have hE : Ext S0 S_11 := Ext.tr hE hx14
    refine lv_if_ne (tgt := 41) hx hb dX12_readNumber_27 (by decide) (fun h16 => ?_) (fun h16 => ?_)
    · rw [if_neg h16] at hm
      exact wb_X12_readNumber_41 cx C X S0 n r S1 n a0 x1 x2 (pI S_7 1204 a0) 0 S_11 _ _ _ hw hE Ta0 (lv_sub hl [3, 4, 5, 1, 0] rfl) hm
    · rw [if_pos h16] at hm
      refine lv_aload_n hx hb dX12_readNumber_30 rfl (lv_at hl 3 rfl) ?_
      refine lv_iconst (v := 1) hx hb dX12_readNumber_31 (by decide) ?_
      refine lv_aload_n hx hb dX12_readNumber_32 rfl (lv_at hl 3 rfl) ?_
      refine pg_i (k := 12) (j := 4) (f := 1204) hx hb hown hU iu12 hw Ta0 (by decide) rfl (hU _ tw1475) rfl dX12_readNumber_33 ?_
      obtain ⟨S_17, hq18, hm⟩ := bd_some hm
      refine pw_cv (va_runV (As := [.int 1, .int (pI S_11 1204 a0)]) (rest := []) ⟨hx, hb, hml, hown, hU⟩ (c_X12_wrong l C X n S_11 hw.wf _ a0 1 (pI S_11 1204 a0) (Ta0) S_17 hq18) (cwV 2 hU (pq_gV tw1741 tw1743 ts129 tw14 tc_X12_wrong) rfl rfl rfl cd_X12_wrong ⟨Nat.le_of_ble_eq_true rfl, Nat.le_of_ble_eq_true rfl⟩) (pw_preV hw Ta0 (by decide) rfl) rfl rfl hl.1 rfl (lv_room (Nat.le_of_ble_eq_true rfl)) dX12_readNumber_36 ⟨Nat.zero_le _, Nat.zero_le _⟩) hw (fun H locs hw hx19 => ?_)
      have Ta0 : TY S_17 a0 12 := ty_ext hx19 Ta0
      have hE : Ext S0 S_17 := Ext.tr hE hx19
      refine lv_iconst (v := 0) hx hb dX12_readNumber_39 (by decide) ?_
      cases hm
      exact pw_iret hx hb hr rfl hlk hw hE dX12_readNumber_40
  · rw [if_pos h6] at hm
    refine lv_iconst (v := 0) hx hb dX12_readNumber_7 (by decide) ?_
    cases hm
    exact pw_iret hx hb hr rfl hlk hw hE dX12_readNumber_8
abbrev rm_X12_sign : Room := { frames := 1, cells := 0, slots := 0, locals := 22 }
def b_X12_sign_24 (n : Nat) (a0 : Nat) (S : pq_S) : Option pq_S := cb (m_X12_fine n a0 S) fun r17 S_15 => if r17 = 0 then some S_15 else some (sI S_15 1204 a0 ((pI S_15 1204 a0) + (1 : Int32)))
set_option maxHeartbeats 4000000 in
set_option maxRecDepth 100000 in
theorem wb_X12_sign_24 {p : Program} {l : Launch} {e : Env} {s : State} {m : MethodId} {args : Array Value} {below : List Frame} {meth : Method} {c : Code} (cx : Cx p s m args meth c cX12_sign 2 RX12 none) (C : pq_C) (X : va_W) (S0 : pq_S) (n : Nat) (S1 : pq_S) : ∀ (a0 : Nat) (S : pq_S) (H : Heap) (locs : List Loc) (ls : Array Slot), PW C X S (pq_F C X S0 s.heap.size) H locs s → Ext S0 S → TY S a0 12 → lv_has ls 2 [(0, .ref a0)] → b_X12_sign_24 n a0 S = some S1 → W p l e rm_X12_sign s m args below meth c H locs 0 0 (MQ below (QcV C X S0 s.heap.size S1) args s 0 0 (pq_F C X S0 s.heap.size)) (F0 m 24 ls []) := by
  obtain ⟨hx, hb, hml, hown, hU, hr, hlk⟩ := id cx
  intro a0 S H locs ls hw hE Ta0 hl hm
  rw [b_X12_sign_24] at hm
  refine lv_aload_n hx hb dX12_sign_24 rfl (lv_at hl 0 rfl) ?_
  obtain ⟨r17, S_15, hq16, hm⟩ := cb_some hm
  refine pw_cz (va_runV (As := []) (rest := []) ⟨hx, hb, hml, hown, hU⟩ (c_X12_fine l C X n S hw.wf _ a0 (Ta0) r17 S_15 hq16) (cwV 0 hU (pq_gV tw1711 tw1713 ts125 tw14 tc_X12_fine) rfl rfl rfl cd_X12_fine ⟨Nat.le_of_ble_eq_true rfl, Nat.le_of_ble_eq_true rfl⟩) (pw_preV hw Ta0 (by decide) rfl) rfl rfl hl.1 rfl (lv_room (Nat.le_of_ble_eq_true rfl)) dX12_sign_25 ⟨Nat.zero_le _, Nat.zero_le _⟩) hw (fun H locs hw hx18 hz19 => ?_)
  have Ta0 : TY S_15 a0 12 := ty_ext hx18 Ta0
  have hE : Ext S0 S_15 := Ext.tr hE hx18
  refine lv_if_eq (tgt := 41) hx hb dX12_sign_28 (by decide) (fun h20 => ?_) (fun h20 => ?_)
  · rw [if_pos h20] at hm
    cases hm
    exact pw_vret hx hb hr hlk hw hE dX12_sign_41
  · rw [if_neg h20] at hm
    refine lv_aload_n hx hb dX12_sign_31 rfl (lv_at hl 0 rfl) ?_
    refine lv_dup hx hb dX12_sign_32 rfl ?_
    refine pg_i (k := 12) (j := 4) (f := 1204) hx hb hown hU iu12 hw Ta0 (by decide) rfl (hU _ tw1475) rfl dX12_sign_33 ?_
    refine lv_iconst (v := 1) hx hb dX12_sign_36 (by decide) ?_
    refine lv_iadd hx hb dX12_sign_37 ?_
    refine pp_i (k := 12) (j := 4) (f := 1204) hx hb hown hU iu12 tyX12_ok nmX12 hw Ta0 (by decide) rfl (hU _ tw1475) rfl rfl rfl dX12_sign_38 (fun H locs hw => ?_)
    cases hm
    exact pw_vret hx hb hr hlk hw hE dX12_sign_41
def m_X12_sign (n : Nat) (a0 : Nat) (x1 : Int32) (S0 : pq_S) : Option pq_S := cb (m_X12_fine n a0 S0) fun r3 S_1 => if r3 = 0 then b_X12_sign_24 n a0 S_1 else cb (m_X12_here n a0 S_1) fun r9 S_7 => if r9 = x1 then b_X12_sign_24 n a0 S_7 else Option.bind (m_X12_wrong n a0 1 (pI S_7 1204 a0) S_7) fun S_12 => b_X12_sign_24 n a0 S_12
theorem tc_X12_sign : Cond.code yX12_sign cX12_sign 2 none ∈ pq_U := tw1767
theorem cd_X12_sign : yX12_sign.cls = RX12 ∧ yX12_sign.cls ≠ "java/lang/invoke/MethodHandle" ∧ yX12_sign.cls ≠ "java/lang/invoke/VarHandle" ∧ (parseMethodDescriptor yX12_sign.desc).map (fun d => d.parameters.length) = some 1 := by decide +kernel
set_option maxHeartbeats 4000000 in
set_option maxRecDepth 100000 in
theorem c_X12_sign (l : Launch) (C : pq_C) (X : va_W) (n : Nat) (S0 : pq_S) (hF : WF S0) (sz : Nat) (a0 : Nat) (x1 : Int32) (Ta0 : TY S0 a0 12) (S1 : pq_S) (hm : m_X12_sign n a0 x1 S0 = some S1) : MV l yX12_sign (.code yX12_sign cX12_sign 2 none :: pq_U) rm_X12_sign C X S0 sz [.ref a0, .int x1] S1 0 0 := by
  refine Met.ofW (cc := cX12_sign) (maxL := 2) (ret := none) (by decide) rfl ?_
  intro p e s m args below meth c s₁ B hml hv
  obtain ⟨rfl, hv⟩ := hv
  have hsz := hv.1
  subst hsz
  have hw := pw_entry hF hv
  have hts := atoms_spec (ws := .code yX12_sign cX12_sign 2 none :: pq_U) B.pre
  have hU : ∀ w ∈ pq_U, w.before _ s = true := fun w h => hts w (List.mem_cons_of_mem _ h)
  have hx := B.exec
  have hb := B.bytes
  have hr := B.returns
  have hown : s.vm.findClass RX12 = some m.cls := findClass_of_methodNamed B.named
  have hlk := B.notSynchronized
  have hl := lv_entry ([.ref a0, .int x1]) (n := 2) (Nat.le_of_ble_eq_true rfl)
  rw [lg_entry_eq]
  generalize (lg_sl ([.ref a0, .int x1]) ++ List.replicate (2 - (lg_sl ([.ref a0, .int x1])).length) Slot.unset).toArray = ls at hl ⊢
  have hl : lv_has ls 2 [(0, .ref a0), (1, .int x1)] := hl
  have hE : Ext S0 S0 := Ext.rf _
  have cx : Cx p s m _ meth c cX12_sign 2 RX12 none := ⟨hx, hb, hml, hown, hU, hr, hlk⟩
  rw [m_X12_sign] at hm
  refine lv_aload_n hx hb dX12_sign_0 rfl (lv_at hl 0 rfl) ?_
  obtain ⟨r3, S_1, hq2, hm⟩ := cb_some hm
  refine pw_cz (va_runV (As := []) (rest := []) ⟨hx, hb, hml, hown, hU⟩ (c_X12_fine l C X n S0 hw.wf _ a0 (Ta0) r3 S_1 hq2) (cwV 0 hU (pq_gV tw1711 tw1713 ts125 tw14 tc_X12_fine) rfl rfl rfl cd_X12_fine ⟨Nat.le_of_ble_eq_true rfl, Nat.le_of_ble_eq_true rfl⟩) (pw_preV hw Ta0 (by decide) rfl) rfl rfl hl.1 rfl (lv_room (Nat.le_of_ble_eq_true rfl)) dX12_sign_1 ⟨Nat.zero_le _, Nat.zero_le _⟩) hw (fun H locs hw hx4 hz5 => ?_)
  have Ta0 : TY S_1 a0 12 := ty_ext hx4 Ta0
  have hE : Ext S0 S_1 := Ext.tr hE hx4
  refine lv_if_eq (tgt := 24) hx hb dX12_sign_4 (by decide) (fun h6 => ?_) (fun h6 => ?_)
  · rw [if_pos h6] at hm
    exact wb_X12_sign_24 cx C X S0 n S1 a0 S_1 _ _ _ hw hE Ta0 (lv_sub hl [0] rfl) hm
  · rw [if_neg h6] at hm
    refine lv_aload_n hx hb dX12_sign_7 rfl (lv_at hl 0 rfl) ?_
    obtain ⟨r9, S_7, hq8, hm⟩ := cb_some hm
    refine pw_ci (va_runV (As := []) (rest := []) ⟨hx, hb, hml, hown, hU⟩ (c_X12_here l C X n S_1 hw.wf _ a0 (Ta0) r9 S_7 hq8) (cwV 0 hU (pq_gV tw1719 tw1721 ts127 tw14 tc_X12_here) rfl rfl rfl cd_X12_here ⟨Nat.le_of_ble_eq_true rfl, Nat.le_of_ble_eq_true rfl⟩) (pw_preV hw Ta0 (by decide) rfl) rfl rfl hl.1 rfl (lv_room (Nat.le_of_ble_eq_true rfl)) dX12_sign_8 ⟨Nat.zero_le _, Nat.zero_le _⟩) hw (fun H locs hw hx10 => ?_)
    have Ta0 : TY S_7 a0 12 := ty_ext hx10 Ta0
    have hE : Ext S0 S_7 := Ext.tr hE hx10
    refine lv_iload_n hx hb dX12_sign_11 rfl (lv_at hl 1 rfl) ?_
    refine lv_icmp_eq (tgt := 24) hx hb dX12_sign_12 (by decide) (fun h11 => ?_) (fun h11 => ?_)
    · rw [if_pos h11] at hm
      exact wb_X12_sign_24 cx C X S0 n S1 a0 S_7 _ _ _ hw hE Ta0 (lv_sub hl [0] rfl) hm
    · rw [if_neg h11] at hm
      refine lv_aload_n hx hb dX12_sign_15 rfl (lv_at hl 0 rfl) ?_
      refine lv_iconst (v := 1) hx hb dX12_sign_16 (by decide) ?_
      refine lv_aload_n hx hb dX12_sign_17 rfl (lv_at hl 0 rfl) ?_
      refine pg_i (k := 12) (j := 4) (f := 1204) hx hb hown hU iu12 hw Ta0 (by decide) rfl (hU _ tw1475) rfl dX12_sign_18 ?_
      obtain ⟨S_12, hq13, hm⟩ := bd_some hm
      refine pw_cv (va_runV (As := [.int 1, .int (pI S_7 1204 a0)]) (rest := []) ⟨hx, hb, hml, hown, hU⟩ (c_X12_wrong l C X n S_7 hw.wf _ a0 1 (pI S_7 1204 a0) (Ta0) S_12 hq13) (cwV 2 hU (pq_gV tw1741 tw1743 ts129 tw14 tc_X12_wrong) rfl rfl rfl cd_X12_wrong ⟨Nat.le_of_ble_eq_true rfl, Nat.le_of_ble_eq_true rfl⟩) (pw_preV hw Ta0 (by decide) rfl) rfl rfl hl.1 rfl (lv_room (Nat.le_of_ble_eq_true rfl)) dX12_sign_21 ⟨Nat.zero_le _, Nat.zero_le _⟩) hw (fun H locs hw hx14 => ?_)
      have Ta0 : TY S_12 a0 12 := ty_ext hx14 Ta0
      have hE : Ext S0 S_12 := Ext.tr hE hx14
      exact wb_X12_sign_24 cx C X S0 n S1 a0 S_12 _ _ _ hw hE Ta0 (lv_sub hl [0] rfl) hm
abbrev rm_X12_isMore : Room := { frames := 1, cells := 0, slots := 0, locals := 20 }
def m_X12_isMore (n : Nat) (a0 : Nat) (S0 : pq_S) : Option (Int32 × pq_S) := cb (m_X12_here n a0 S0) fun r3 S_1 => if (pI S_1 1203 a0) ≤ (pI S_1 1204 a0) then some (0, S_1) else some (1, S_1)
theorem tc_X12_isMore : Cond.code yX12_isMore cX12_isMore 1 (some .boolean) ∈ pq_U := tw1718
theorem cd_X12_isMore : yX12_isMore.cls = RX12 ∧ yX12_isMore.cls ≠ "java/lang/invoke/MethodHandle" ∧ yX12_isMore.cls ≠ "java/lang/invoke/VarHandle" ∧ (parseMethodDescriptor yX12_isMore.desc).map (fun d => d.parameters.length) = some 0 := by decide +kernel
set_option maxHeartbeats 4000000 in
set_option maxRecDepth 100000 in
theorem c_X12_isMore (l : Launch) (C : pq_C) (X : va_W) (n : Nat) (S0 : pq_S) (hF : WF S0) (sz : Nat) (a0 : Nat) (Ta0 : TY S0 a0 12) (r : Int32) (S1 : pq_S) (hm : m_X12_isMore n a0 S0 = some (r, S1)) : MZ l yX12_isMore (.code yX12_isMore cX12_isMore 1 (some .boolean) :: pq_U) rm_X12_isMore C X S0 sz [.ref a0] r S1 0 0 := by
  refine Met.ofW (cc := cX12_isMore) (maxL := 1) (ret := (some .boolean)) (by decide) rfl ?_
  intro p e s m args below meth c s₁ B hml hv
  obtain ⟨rfl, hv⟩ := hv
  have hsz := hv.1
  subst hsz
  have hw := pw_entry hF hv
  have hts := atoms_spec (ws := .code yX12_isMore cX12_isMore 1 (some .boolean) :: pq_U) B.pre
  have hU : ∀ w ∈ pq_U, w.before _ s = true := fun w h => hts w (List.mem_cons_of_mem _ h)
  have hx := B.exec
  have hb := B.bytes
  have hr := B.returns
  have hown : s.vm.findClass RX12 = some m.cls := findClass_of_methodNamed B.named
  have hlk := B.notSynchronized
  have hl := lv_entry ([.ref a0]) (n := 1) (Nat.le_of_ble_eq_true rfl)
  rw [lg_entry_eq]
  generalize (lg_sl ([.ref a0]) ++ List.replicate (1 - (lg_sl ([.ref a0])).length) Slot.unset).toArray = ls at hl ⊢
  have hl : lv_has ls 1 [(0, .ref a0)] := hl
  have hE : Ext S0 S0 := Ext.rf _
  have cx : Cx p s m _ meth c cX12_isMore 1 RX12 (some .boolean) := ⟨hx, hb, hml, hown, hU, hr, hlk⟩
  rw [m_X12_isMore] at hm
  refine lv_aload_n hx hb dX12_isMore_0 rfl (lv_at hl 0 rfl) ?_
  obtain ⟨r3, S_1, hq2, hm⟩ := cb_some hm
  refine pw_ci (va_runV (As := []) (rest := []) ⟨hx, hb, hml, hown, hU⟩ (c_X12_here l C X n S0 hw.wf _ a0 (Ta0) r3 S_1 hq2) (cwV 0 hU (pq_gV tw1719 tw1721 ts127 tw14 tc_X12_here) rfl rfl rfl cd_X12_here ⟨Nat.le_of_ble_eq_true rfl, Nat.le_of_ble_eq_true rfl⟩) (pw_preV hw Ta0 (by decide) rfl) rfl rfl hl.1 rfl (lv_room (Nat.le_of_ble_eq_true rfl)) dX12_isMore_1 ⟨Nat.zero_le _, Nat.zero_le _⟩) hw (fun H locs hw hx4 => ?_)
  have Ta0 : TY S_1 a0 12 := ty_ext hx4 Ta0
  have hE : Ext S0 S_1 := Ext.tr hE hx4
  refine lv_pop hx hb dX12_isMore_4 rfl ?_
  refine lv_aload_n hx hb dX12_isMore_5 rfl (lv_at hl 0 rfl) ?_
  refine pg_i (k := 12) (j := 4) (f := 1204) hx hb hown hU iu12 hw Ta0 (by decide) rfl (hU _ tw1475) rfl dX12_isMore_6 ?_
  refine lv_aload_n hx hb dX12_isMore_9 rfl (lv_at hl 0 rfl) ?_
  refine pg_i (k := 12) (j := 3) (f := 1203) hx hb hown hU iu12 hw Ta0 (by decide) rfl (hU _ tw1474) rfl dX12_isMore_10 ?_
  refine lv_icmp_ge (tgt := 20) hx hb dX12_isMore_13 (by decide) (fun h5 => ?_) (fun h5 => ?_)
  · rw [if_pos h5] at hm
    refine lv_iconst (v := 0) hx hb dX12_isMore_20 (by decide) ?_
    cases hm
    exact pw_zret hx hb hr bz_0 hlk hw hE dX12_isMore_21
  · rw [if_neg h5] at hm
    refine lv_iconst (v := 1) hx hb dX12_isMore_16 (by decide) ?_
    refine lv_goto (tgt := 21) hx hb dX12_isMore_17 (by decide) ?_
    cases hm
    exact pw_zret hx hb hr bz_1 hlk hw hE dX12_isMore_21
abbrev rm_X12_begins : Room := { frames := 0, cells := 0, slots := 0, locals := 0 }
def m_X12_begins (n : Nat) (a0 : Nat) (x1 : Int32) (S0 : pq_S) : Option pq_S := lt_ (sI (sI (sI (sI (sI S0 1202 a0 0) 1208 a0 (-1)) 1203 a0 x1) 1204 a0 0) 1205 a0 (-1)) fun S_1 => some (sI S_1 1207 a0 0)
theorem tc_X12_begins : Cond.code yX12_begins cX12_begins 2 none ∈ pq_U := tw1710
theorem cd_X12_begins : yX12_begins.cls = RX12 ∧ yX12_begins.cls ≠ "java/lang/invoke/MethodHandle" ∧ yX12_begins.cls ≠ "java/lang/invoke/VarHandle" ∧ (parseMethodDescriptor yX12_begins.desc).map (fun d => d.parameters.length) = some 1 := by decide +kernel
set_option maxHeartbeats 4000000 in
set_option maxRecDepth 100000 in
theorem c_X12_begins (l : Launch) (C : pq_C) (X : va_W) (n : Nat) (S0 : pq_S) (hF : WF S0) (sz : Nat) (a0 : Nat) (x1 : Int32) (Ta0 : TY S0 a0 12) (S1 : pq_S) (hm : m_X12_begins n a0 x1 S0 = some S1) : MV l yX12_begins (.code yX12_begins cX12_begins 2 none :: pq_U) rm_X12_begins C X S0 sz [.ref a0, .int x1] S1 0 0 := by
  refine Met.ofW (cc := cX12_begins) (maxL := 2) (ret := none) (by decide) rfl ?_
  intro p e s m args below meth c s₁ B hml hv
  obtain ⟨rfl, hv⟩ := hv
  have hsz := hv.1
  subst hsz
  have hw := pw_entry hF hv
  have hts := atoms_spec (ws := .code yX12_begins cX12_begins 2 none :: pq_U) B.pre
  have hU : ∀ w ∈ pq_U, w.before _ s = true := fun w h => hts w (List.mem_cons_of_mem _ h)
  have hx := B.exec
  have hb := B.bytes
  have hr := B.returns
  have hown : s.vm.findClass RX12 = some m.cls := findClass_of_methodNamed B.named
  have hlk := B.notSynchronized
  have hl := lv_entry ([.ref a0, .int x1]) (n := 2) (Nat.le_of_ble_eq_true rfl)
  rw [lg_entry_eq]
  generalize (lg_sl ([.ref a0, .int x1]) ++ List.replicate (2 - (lg_sl ([.ref a0, .int x1])).length) Slot.unset).toArray = ls at hl ⊢
  have hl : lv_has ls 2 [(0, .ref a0), (1, .int x1)] := hl
  have hE : Ext S0 S0 := Ext.rf _
  have cx : Cx p s m _ meth c cX12_begins 2 RX12 none := ⟨hx, hb, hml, hown, hU, hr, hlk⟩
  rw [m_X12_begins] at hm
  refine lv_aload_n hx hb dX12_begins_0 rfl (lv_at hl 0 rfl) ?_
  refine lv_iconst (v := 0) hx hb dX12_begins_1 (by decide) ?_
  refine pp_i (k := 12) (j := 2) (f := 1202) hx hb hown hU iu12 tyX12_ok nmX12 hw Ta0 (by decide) rfl (hU _ tw1473) rfl rfl rfl dX12_begins_2 (fun H locs hw => ?_)
  refine lv_aload_n hx hb dX12_begins_5 rfl (lv_at hl 0 rfl) ?_
  refine lv_iconst (v := (-1)) hx hb dX12_begins_6 (by decide) ?_
  refine pp_i (k := 12) (j := 8) (f := 1208) hx hb hown hU iu12 tyX12_ok nmX12 hw Ta0 (by decide) rfl (hU _ tw1479) rfl rfl rfl dX12_begins_7 (fun H locs hw => ?_)
  refine lv_aload_n hx hb dX12_begins_10 rfl (lv_at hl 0 rfl) ?_
  refine lv_iload_n hx hb dX12_begins_11 rfl (lv_at hl 1 rfl) ?_
  refine pp_i (k := 12) (j := 3) (f := 1203) hx hb hown hU iu12 tyX12_ok nmX12 hw Ta0 (by decide) rfl (hU _ tw1474) rfl rfl rfl dX12_begins_12 (fun H locs hw => ?_)
  refine lv_aload_n hx hb dX12_begins_15 rfl (lv_at hl 0 rfl) ?_
  refine lv_iconst (v := 0) hx hb dX12_begins_16 (by decide) ?_
  refine pp_i (k := 12) (j := 4) (f := 1204) hx hb hown hU iu12 tyX12_ok nmX12 hw Ta0 (by decide) rfl (hU _ tw1475) rfl rfl rfl dX12_begins_17 (fun H locs hw => ?_)
  refine lv_aload_n hx hb dX12_begins_20 rfl (lv_at hl 0 rfl) ?_
  refine lv_iconst (v := (-1)) hx hb dX12_begins_21 (by decide) ?_
  refine pp_i (k := 12) (j := 5) (f := 1205) hx hb hown hU iu12 tyX12_ok nmX12 hw Ta0 (by decide) rfl (hU _ tw1476) rfl rfl rfl dX12_begins_22 (fun H locs hw => ?_)
  obtain ⟨S_1, eS_1, hm⟩ := lt_some hm
  rw [← eS_1] at hw
  have Ta0 : TY S_1 a0 12 := by rw [eS_1]; exact Ta0
  have hE : Ext S0 S_1 := by rw [eS_1]; exact hE
  refine lv_aload_n hx hb dX12_begins_25 rfl (lv_at hl 0 rfl) ?_
  refine lv_iconst (v := 0) hx hb dX12_begins_26 (by decide) ?_
  refine pp_i (k := 12) (j := 7) (f := 1207) hx hb hown hU iu12 tyX12_ok nmX12 hw Ta0 (by decide) rfl (hU _ tw1478) rfl rfl rfl dX12_begins_27 (fun H locs hw => ?_)
  cases hm
  exact pw_vret hx hb hr hlk hw hE dX12_begins_30
abbrev rm_X12_result : Room := { frames := 1, cells := 0, slots := 0, locals := 20 }
def m_X12_result (n : Nat) (a0 : Nat) (x1 : Int32) (S0 : pq_S) : Option (Int32 × pq_S) := cb (m_X12_fine n a0 (sI S0 1208 a0 (pI S0 1205 a0))) fun r3 S_1 => if r3 = 0 then some (((pI S_1 1206 a0) - (10 : Int32)), S_1) else some (x1, S_1)
theorem tc_X12_result : Cond.code yX12_result cX12_result 2 (some .int) ∈ pq_U := tw1771
theorem cd_X12_result : yX12_result.cls = RX12 ∧ yX12_result.cls ≠ "java/lang/invoke/MethodHandle" ∧ yX12_result.cls ≠ "java/lang/invoke/VarHandle" ∧ (parseMethodDescriptor yX12_result.desc).map (fun d => d.parameters.length) = some 1 := by decide +kernel
set_option maxHeartbeats 4000000 in
set_option maxRecDepth 100000 in
theorem c_X12_result (l : Launch) (C : pq_C) (X : va_W) (n : Nat) (S0 : pq_S) (hF : WF S0) (sz : Nat) (a0 : Nat) (x1 : Int32) (Ta0 : TY S0 a0 12) (r : Int32) (S1 : pq_S) (hm : m_X12_result n a0 x1 S0 = some (r, S1)) : MI l yX12_result (.code yX12_result cX12_result 2 (some .int) :: pq_U) rm_X12_result C X S0 sz [.ref a0, .int x1] r S1 0 0 := by
  refine Met.ofW (cc := cX12_result) (maxL := 2) (ret := (some .int)) (by decide) rfl ?_
  intro p e s m args below meth c s₁ B hml hv
  obtain ⟨rfl, hv⟩ := hv
  have hsz := hv.1
  subst hsz
  have hw := pw_entry hF hv
  have hts := atoms_spec (ws := .code yX12_result cX12_result 2 (some .int) :: pq_U) B.pre
  have hU : ∀ w ∈ pq_U, w.before _ s = true := fun w h => hts w (List.mem_cons_of_mem _ h)
  have hx := B.exec
  have hb := B.bytes
  have hr := B.returns
  have hown : s.vm.findClass RX12 = some m.cls := findClass_of_methodNamed B.named
  have hlk := B.notSynchronized
  have hl := lv_entry ([.ref a0, .int x1]) (n := 2) (Nat.le_of_ble_eq_true rfl)
  rw [lg_entry_eq]
  generalize (lg_sl ([.ref a0, .int x1]) ++ List.replicate (2 - (lg_sl ([.ref a0, .int x1])).length) Slot.unset).toArray = ls at hl ⊢
  have hl : lv_has ls 2 [(0, .ref a0), (1, .int x1)] := hl
  have hE : Ext S0 S0 := Ext.rf _
  have cx : Cx p s m _ meth c cX12_result 2 RX12 (some .int) := ⟨hx, hb, hml, hown, hU, hr, hlk⟩
  rw [m_X12_result] at hm
  refine lv_aload_n hx hb dX12_result_0 rfl (lv_at hl 0 rfl) ?_
  refine lv_aload_n hx hb dX12_result_1 rfl (lv_at hl 0 rfl) ?_
  refine pg_i (k := 12) (j := 5) (f := 1205) hx hb hown hU iu12 hw Ta0 (by decide) rfl (hU _ tw1476) rfl dX12_result_2 ?_
  refine pp_i (k := 12) (j := 8) (f := 1208) hx hb hown hU iu12 tyX12_ok nmX12 hw Ta0 (by decide) rfl (hU _ tw1479) rfl rfl rfl dX12_result_5 (fun H locs hw => ?_)
  refine lv_aload_n hx hb dX12_result_8 rfl (lv_at hl 0 rfl) ?_
  obtain ⟨r3, S_1, hq2, hm⟩ := cb_some hm
  refine pw_cz (va_runV (As := []) (rest := []) ⟨hx, hb, hml, hown, hU⟩ (c_X12_fine l C X n (sI S0 1208 a0 (pI S0 1205 a0)) hw.wf _ a0 (Ta0) r3 S_1 hq2) (cwV 0 hU (pq_gV tw1711 tw1713 ts125 tw14 tc_X12_fine) rfl rfl rfl cd_X12_fine ⟨Nat.le_of_ble_eq_true rfl, Nat.le_of_ble_eq_true rfl⟩) (pw_preV hw Ta0 (by decide) rfl) rfl rfl hl.1 rfl (lv_room (Nat.le_of_ble_eq_true rfl)) dX12_result_9 ⟨Nat.zero_le _, Nat.zero_le _⟩) hw (fun H locs hw hx4 hz5 => ?_)
  have Ta0 : TY S_1 a0 12 := ty_ext hx4 Ta0
  have hE : Ext S0 S_1 := Ext.tr hE hx4
  refine lv_if_eq (tgt := 19) hx hb dX12_result_12 (by decide) (fun h6 => ?_) (fun h6 => ?_)
  · rw [if_pos h6] at hm
    refine lv_aload_n hx hb dX12_result_19 rfl (lv_at hl 0 rfl) ?_
    refine pg_i (k := 12) (j := 6) (f := 1206) hx hb hown hU iu12 hw Ta0 (by decide) rfl (hU _ tw1477) rfl dX12_result_20 ?_
    refine lv_bipush (v := 10) hx hb dX12_result_23 (by decide) ?_
    refine lv_isub hx hb dX12_result_25 ?_
    cases hm
    exact pw_iret hx hb hr rfl hlk hw hE dX12_result_26
  · rw [if_neg h6] at hm
    refine lv_iload_n hx hb dX12_result_15 rfl (lv_at hl 1 rfl) ?_
    refine lv_goto (tgt := 26) hx hb dX12_result_16 (by decide) ?_
    cases hm
    exact pw_iret hx hb hr rfl hlk hw hE dX12_result_26
abbrev rm_X12_fault : Room := { frames := 0, cells := 0, slots := 0, locals := 0 }
def m_X12_fault (n : Nat) (a0 : Nat) (S0 : pq_S) : Option (Int32 × pq_S) := some ((pI (sI S0 1200 a0 0) 1208 a0), (sI S0 1200 a0 0))
theorem tc_X12_fault : Cond.code yX12_fault cX12_fault 1 (some .int) ∈ pq_U := tw1698
theorem cd_X12_fault : yX12_fault.cls = RX12 ∧ yX12_fault.cls ≠ "java/lang/invoke/MethodHandle" ∧ yX12_fault.cls ≠ "java/lang/invoke/VarHandle" ∧ (parseMethodDescriptor yX12_fault.desc).map (fun d => d.parameters.length) = some 0 := by decide +kernel
set_option maxHeartbeats 4000000 in
set_option maxRecDepth 100000 in
theorem c_X12_fault (l : Launch) (C : pq_C) (X : va_W) (n : Nat) (S0 : pq_S) (hF : WF S0) (sz : Nat) (a0 : Nat) (Ta0 : TY S0 a0 12) (r : Int32) (S1 : pq_S) (hm : m_X12_fault n a0 S0 = some (r, S1)) : MI l yX12_fault (.code yX12_fault cX12_fault 1 (some .int) :: pq_U) rm_X12_fault C X S0 sz [.ref a0] r S1 0 0 := by
  refine Met.ofW (cc := cX12_fault) (maxL := 1) (ret := (some .int)) (by decide) rfl ?_
  intro p e s m args below meth c s₁ B hml hv
  obtain ⟨rfl, hv⟩ := hv
  have hsz := hv.1
  subst hsz
  have hw := pw_entry hF hv
  have hts := atoms_spec (ws := .code yX12_fault cX12_fault 1 (some .int) :: pq_U) B.pre
  have hU : ∀ w ∈ pq_U, w.before _ s = true := fun w h => hts w (List.mem_cons_of_mem _ h)
  have hx := B.exec
  have hb := B.bytes
  have hr := B.returns
  have hown : s.vm.findClass RX12 = some m.cls := findClass_of_methodNamed B.named
  have hlk := B.notSynchronized
  have hl := lv_entry ([.ref a0]) (n := 1) (Nat.le_of_ble_eq_true rfl)
  rw [lg_entry_eq]
  generalize (lg_sl ([.ref a0]) ++ List.replicate (1 - (lg_sl ([.ref a0])).length) Slot.unset).toArray = ls at hl ⊢
  have hl : lv_has ls 1 [(0, .ref a0)] := hl
  have hE : Ext S0 S0 := Ext.rf _
  have cx : Cx p s m _ meth c cX12_fault 1 RX12 (some .int) := ⟨hx, hb, hml, hown, hU, hr, hlk⟩
  rw [m_X12_fault] at hm
  refine lv_aload_n hx hb dX12_fault_0 rfl (lv_at hl 0 rfl) ?_
  refine lv_iconst (v := 0) hx hb dX12_fault_1 (by decide) ?_
  refine pp_i (k := 12) (j := 0) (f := 1200) hx hb hown hU iu12 tyX12_ok nmX12 hw Ta0 (by decide) rfl (hU _ tw1471) rfl rfl rfl dX12_fault_2 (fun H locs hw => ?_)
  refine lv_aload_n hx hb dX12_fault_5 rfl (lv_at hl 0 rfl) ?_
  refine pg_i (k := 12) (j := 8) (f := 1208) hx hb hown hU iu12 hw Ta0 (by decide) rfl (hU _ tw1479) rfl dX12_fault_6 ?_
  cases hm
  exact pw_iret hx hb hr rfl hlk hw hE dX12_fault_9
abbrev rm_X12_clears : Room := { frames := 0, cells := 0, slots := 0, locals := 0 }
def m_X12_clears (n : Nat) (a0 : Nat) (S0 : pq_S) : Option pq_S := lt_ (sI (sI (sI (sI (sI S0 1218 a0 0) 1219 a0 0) 1220 a0 0) 1221 a0 0) 1222 a0 1) fun S_1 => some (sI S_1 1223 a0 3)
theorem tc_X12_clears : Cond.code yX12_clears cX12_clears 1 none ∈ pq_U := tw1462
theorem cd_X12_clears : yX12_clears.cls = RX12 ∧ yX12_clears.cls ≠ "java/lang/invoke/MethodHandle" ∧ yX12_clears.cls ≠ "java/lang/invoke/VarHandle" ∧ (parseMethodDescriptor yX12_clears.desc).map (fun d => d.parameters.length) = some 0 := by decide +kernel
set_option maxHeartbeats 4000000 in
set_option maxRecDepth 100000 in
theorem c_X12_clears (l : Launch) (C : pq_C) (X : va_W) (n : Nat) (S0 : pq_S) (hF : WF S0) (sz : Nat) (a0 : Nat) (Ta0 : TY S0 a0 12) (S1 : pq_S) (hm : m_X12_clears n a0 S0 = some S1) : MV l yX12_clears (.code yX12_clears cX12_clears 1 none :: pq_U) rm_X12_clears C X S0 sz [.ref a0] S1 0 0 := by
  refine Met.ofW (cc := cX12_clears) (maxL := 1) (ret := none) (by decide) rfl ?_
  intro p e s m args below meth c s₁ B hml hv
  obtain ⟨rfl, hv⟩ := hv
  have hsz := hv.1
  subst hsz
  have hw := pw_entry hF hv
  have hts := atoms_spec (ws := .code yX12_clears cX12_clears 1 none :: pq_U) B.pre
  have hU : ∀ w ∈ pq_U, w.before _ s = true := fun w h => hts w (List.mem_cons_of_mem _ h)
  have hx := B.exec
  have hb := B.bytes
  have hr := B.returns
  have hown : s.vm.findClass RX12 = some m.cls := findClass_of_methodNamed B.named
  have hlk := B.notSynchronized
  have hl := lv_entry ([.ref a0]) (n := 1) (Nat.le_of_ble_eq_true rfl)
  rw [lg_entry_eq]
  generalize (lg_sl ([.ref a0]) ++ List.replicate (1 - (lg_sl ([.ref a0])).length) Slot.unset).toArray = ls at hl ⊢
  have hl : lv_has ls 1 [(0, .ref a0)] := hl
  have hE : Ext S0 S0 := Ext.rf _
  have cx : Cx p s m _ meth c cX12_clears 1 RX12 none := ⟨hx, hb, hml, hown, hU, hr, hlk⟩
  rw [m_X12_clears] at hm
  refine lv_aload_n hx hb dX12_clears_0 rfl (lv_at hl 0 rfl) ?_
  refine lv_iconst (v := 0) hx hb dX12_clears_1 (by decide) ?_
  refine pp_i (k := 12) (j := 18) (f := 1218) hx hb hown hU iu12 tyX12_ok nmX12 hw Ta0 (by decide) rfl (hU _ tw1489) rfl rfl rfl dX12_clears_2 (fun H locs hw => ?_)
  refine lv_aload_n hx hb dX12_clears_5 rfl (lv_at hl 0 rfl) ?_
  refine lv_iconst (v := 0) hx hb dX12_clears_6 (by decide) ?_
  refine pp_i (k := 12) (j := 19) (f := 1219) hx hb hown hU iu12 tyX12_ok nmX12 hw Ta0 (by decide) rfl (hU _ tw1490) rfl rfl rfl dX12_clears_7 (fun H locs hw => ?_)
  refine lv_aload_n hx hb dX12_clears_10 rfl (lv_at hl 0 rfl) ?_
  refine lv_iconst (v := 0) hx hb dX12_clears_11 (by decide) ?_
  refine pp_i (k := 12) (j := 20) (f := 1220) hx hb hown hU iu12 tyX12_ok nmX12 hw Ta0 (by decide) rfl (hU _ tw1491) rfl rfl rfl dX12_clears_12 (fun H locs hw => ?_)
  refine lv_aload_n hx hb dX12_clears_15 rfl (lv_at hl 0 rfl) ?_
  refine lv_iconst (v := 0) hx hb dX12_clears_16 (by decide) ?_
  refine pp_i (k := 12) (j := 21) (f := 1221) hx hb hown hU iu12 tyX12_ok nmX12 hw Ta0 (by decide) rfl (hU _ tw1492) rfl rfl rfl dX12_clears_17 (fun H locs hw => ?_)
  refine lv_aload_n hx hb dX12_clears_20 rfl (lv_at hl 0 rfl) ?_
  refine lv_iconst (v := 1) hx hb dX12_clears_21 (by decide) ?_
  refine pp_i (k := 12) (j := 22) (f := 1222) hx hb hown hU iu12 tyX12_ok nmX12 hw Ta0 (by decide) rfl (hU _ tw1493) rfl rfl rfl dX12_clears_22 (fun H locs hw => ?_)
  obtain ⟨S_1, eS_1, hm⟩ := lt_some hm
  rw [← eS_1] at hw
  have Ta0 : TY S_1 a0 12 := by rw [eS_1]; exact Ta0
  have hE : Ext S0 S_1 := by rw [eS_1]; exact hE
  refine lv_aload_n hx hb dX12_clears_25 rfl (lv_at hl 0 rfl) ?_
  refine lv_iconst (v := 3) hx hb dX12_clears_26 (by decide) ?_
  refine pp_i (k := 12) (j := 23) (f := 1223) hx hb hown hU iu12 tyX12_ok nmX12 hw Ta0 (by decide) rfl (hU _ tw1494) rfl rfl rfl dX12_clears_27 (fun H locs hw => ?_)
  cases hm
  exact pw_vret hx hb hr hlk hw hE dX12_clears_30
abbrev rm_X12_copies : Room := { frames := 0, cells := 0, slots := 0, locals := 0 }
def b_X12_copies_3 (n : Nat) : Nat → Nat → Nat → Int32 → Int32 → pq_S → Option pq_S
  | 0, _, _, _, _, _ => none
  | f + 1, a1, a2, x3, x4, S => if x3 ≤ x4 then some S else ck (ix x4 (pN S a1)) (dix _ _) (ck (ix x4 (pN S a2)) (dix _ _) (b_X12_copies_3 n f a1 a2 x3 (x4 + 1) (sA S a2 (Int32.toNatClampNeg x4) (pA S a1 (Int32.toNatClampNeg x4)))))
set_option maxHeartbeats 4000000 in
set_option maxRecDepth 100000 in
theorem wb_X12_copies_3 {p : Program} {l : Launch} {e : Env} {s : State} {m : MethodId} {args : Array Value} {below : List Frame} {meth : Method} {c : Code} (cx : Cx p s m args meth c cX12_copies 5 RX12 none) (C : pq_C) (X : va_W) (S0 : pq_S) (n : Nat) (S1 : pq_S) : ∀ (f : Nat) (a1 : Nat) (a2 : Nat) (x3 : Int32) (x4 : Int32) (S : pq_S) (H : Heap) (locs : List Loc) (ls : Array Slot), PW C X S (pq_F C X S0 s.heap.size) H locs s → Ext S0 S → TY S a1 14 → TY S a2 14 → lv_has ls 5 [(1, .ref a1), (2, .ref a2), (3, .int x3), (4, .int x4)] → b_X12_copies_3 n f a1 a2 x3 x4 S = some S1 → W p l e rm_X12_copies s m args below meth c H locs 0 0 (MQ below (QcV C X S0 s.heap.size S1) args s 0 0 (pq_F C X S0 s.heap.size)) (F0 m 3 ls []) := by
  obtain ⟨hx, hb, hml, hown, hU, hr, hlk⟩ := id cx
  intro f
  induction f with
  | zero =>
    intro a1 a2 x3 x4 S H locs ls hw hE Ta1 Ta2 hl hm
    cases hm
  | succ f ih =>
    intro a1 a2 x3 x4 S H locs ls hw hE Ta1 Ta2 hl hm
    rw [b_X12_copies_3] at hm
    refine lv_iload hx hb dX12_copies_3 (lv_at hl 3 rfl) ?_
    refine lv_iload_n hx hb dX12_copies_5 rfl (lv_at hl 2 rfl) ?_
    refine lv_icmp_ge (tgt := 23) hx hb dX12_copies_6 (by decide) (fun h1 => ?_) (fun h1 => ?_)
    · rw [if_pos h1] at hm
      cases hm
      exact pw_vret hx hb hr hlk hw hE dX12_copies_23
    · rw [if_neg h1] at hm
      refine lv_aload_n hx hb dX12_copies_9 rfl (lv_at hl 1 rfl) ?_
      refine lv_iload hx hb dX12_copies_10 (lv_at hl 3 rfl) ?_
      refine lv_aload_n hx hb dX12_copies_12 rfl (lv_at hl 0 rfl) ?_
      refine lv_iload hx hb dX12_copies_13 (lv_at hl 3 rfl) ?_
      obtain ⟨hi2, hm⟩ := ck_some hm
      refine pw_iald hx hb hw Ta1 hi2 dX12_copies_15 ?_
      obtain ⟨hi3, hm⟩ := ck_some hm
      refine pw_iast hx hb hw Ta2 hi3 dX12_copies_16 (fun H locs hw => ?_)
      refine lv_iinc (v := (x4 + 1)) (lv' := [(4, .int (x4 + 1)), (1, .ref a1), (2, .ref a2), (3, .int x3)]) hx hb dX12_copies_17 hl (k := 3) rfl rfl (by decide) rfl (fun ls hl => ?_)
      refine lv_goto (tgt := 3) hx hb dX12_copies_20 (by decide) ?_
      exact ih a1 a2 x3 (x4 + 1) (sA S a2 (Int32.toNatClampNeg x4) (pA S a1 (Int32.toNatClampNeg x4))) _ _ _ hw hE Ta1 Ta2 (lv_sub hl [1, 2, 3, 0] rfl) hm
def m_X12_copies (n : Nat) (a0 : Nat) (a1 : Nat) (a2 : Nat) (x3 : Int32) (S0 : pq_S) : Option pq_S := b_X12_copies_3 n n a1 a2 x3 0 S0
theorem tc_X12_copies : Cond.code yX12_copies cX12_copies 5 none ∈ pq_U := tw1470
theorem cd_X12_copies : yX12_copies.cls = RX12 ∧ yX12_copies.cls ≠ "java/lang/invoke/MethodHandle" ∧ yX12_copies.cls ≠ "java/lang/invoke/VarHandle" ∧ (parseMethodDescriptor yX12_copies.desc).map (fun d => d.parameters.length) = some 3 := by decide +kernel
set_option maxHeartbeats 4000000 in
set_option maxRecDepth 100000 in
theorem c_X12_copies (l : Launch) (C : pq_C) (X : va_W) (n : Nat) (S0 : pq_S) (hF : WF S0) (sz : Nat) (a0 : Nat) (a1 : Nat) (a2 : Nat) (x3 : Int32) (Ta0 : TY S0 a0 12) (Ta1 : TY S0 a1 14) (Ta2 : TY S0 a2 14) (S1 : pq_S) (hm : m_X12_copies n a0 a1 a2 x3 S0 = some S1) : MV l yX12_copies (.code yX12_copies cX12_copies 5 none :: pq_U) rm_X12_copies C X S0 sz [.ref a0, .ref a1, .ref a2, .int x3] S1 0 0 := by
  refine Met.ofW (cc := cX12_copies) (maxL := 5) (ret := none) (by decide) rfl ?_
  intro p e s m args below meth c s₁ B hml hv
  obtain ⟨rfl, hv⟩ := hv
  have hsz := hv.1
  subst hsz
  have hw := pw_entry hF hv
  have hts := atoms_spec (ws := .code yX12_copies cX12_copies 5 none :: pq_U) B.pre
  have hU : ∀ w ∈ pq_U, w.before _ s = true := fun w h => hts w (List.mem_cons_of_mem _ h)
  have hx := B.exec
  have hb := B.bytes
  have hr := B.returns
  have hown : s.vm.findClass RX12 = some m.cls := findClass_of_methodNamed B.named
  have hlk := B.notSynchronized
  have hl := lv_entry ([.ref a0, .ref a1, .ref a2, .int x3]) (n := 5) (Nat.le_of_ble_eq_true rfl)
  rw [lg_entry_eq]
  generalize (lg_sl ([.ref a0, .ref a1, .ref a2, .int x3]) ++ List.replicate (5 - (lg_sl ([.ref a0, .ref a1, .ref a2, .int x3])).length) Slot.unset).toArray = ls at hl ⊢
  have hl : lv_has ls 5 [(0, .ref a0), (1, .ref a1), (2, .ref a2), (3, .int x3)] := hl
  have hE : Ext S0 S0 := Ext.rf _
  have cx : Cx p s m _ meth c cX12_copies 5 RX12 none := ⟨hx, hb, hml, hown, hU, hr, hlk⟩
  rw [m_X12_copies] at hm
  refine lv_iconst (v := 0) hx hb dX12_copies_0 (by decide) ?_
  refine lv_istore (lv' := [(4, .int 0), (0, .ref a0), (1, .ref a1), (2, .ref a2), (3, .int x3)]) hx hb dX12_copies_1 hl (by decide) rfl (fun ls hl => ?_)
  exact wb_X12_copies_3 cx C X S0 n S1 n a1 a2 x3 0 S0 _ _ _ hw hE Ta1 Ta2 (lv_sub hl [2, 3, 4, 0] rfl) hm
abbrev rm_X12_sets : Room := { frames := 1, cells := 0, slots := 0, locals := 24 }
def b_X12_sets_241 (n : Nat) (k124 : Nat → Int32 → pq_S → Option pq_S) (a0 : Nat) (x1 : Int32) (b0 : Nat) (z1 : Int32) (z2 : Int32) (S : pq_S) : Option pq_S := ck (ix z1 (pN S b0)) (dix _ _) (k124 a0 (x1 + 1) (sA S b0 (Int32.toNatClampNeg z1) z2))
set_option maxHeartbeats 4000000 in
set_option maxRecDepth 100000 in
theorem wb_X12_sets_241 {p : Program} {l : Launch} {e : Env} {s : State} {m : MethodId} {args : Array Value} {below : List Frame} {meth : Method} {c : Code} (cx : Cx p s m args meth c cX12_sets 2 RX12 none) (C : pq_C) (X : va_W) (S0 : pq_S) (n : Nat) (S1 : pq_S) (k124 : Nat → Int32 → pq_S → Option pq_S) (hk124 : ∀ (a0 : Nat) (x1 : Int32) (S : pq_S) (H : Heap) (locs : List Loc) (ls : Array Slot), PW C X S (pq_F C X S0 s.heap.size) H locs s → Ext S0 S → TY S a0 12 → lv_has ls 2 [(0, .ref a0), (1, .int x1)] → k124 a0 x1 S = some S1 → W p l e rm_X12_sets s m args below meth c H locs 0 0 (MQ below (QcV C X S0 s.heap.size S1) args s 0 0 (pq_F C X S0 s.heap.size)) (F0 m 214 ls [])) : ∀ (a0 : Nat) (x1 : Int32) (b0 : Nat) (z1 : Int32) (z2 : Int32) (S : pq_S) (H : Heap) (locs : List Loc) (ls : Array Slot), PW C X S (pq_F C X S0 s.heap.size) H locs s → Ext S0 S → TY S a0 12 → TY S b0 14 → lv_has ls 2 [(0, .ref a0), (1, .int x1)] → b_X12_sets_241 n k124 a0 x1 b0 z1 z2 S = some S1 → W p l e rm_X12_sets s m args below meth c H locs 0 0 (MQ below (QcV C X S0 s.heap.size S1) args s 0 0 (pq_F C X S0 s.heap.size)) (F0 m 241 ls [.int z2, .int z1, .ref b0]) := by
  obtain ⟨hx, hb, hml, hown, hU, hr, hlk⟩ := id cx
  intro a0 x1 b0 z1 z2 S H locs ls hw hE Ta0 Tb0 hl hm
  rw [b_X12_sets_241] at hm
  obtain ⟨hi46, hm⟩ := ck_some hm
  refine pw_iast hx hb hw Tb0 hi46 dX12_sets_241 (fun H locs hw => ?_)
  refine lv_iinc (v := (x1 + 1)) (lv' := [(1, .int (x1 + 1)), (0, .ref a0)]) hx hb dX12_sets_242 hl (k := 1) rfl rfl (by decide) rfl (fun ls hl => ?_)
  refine lv_goto (tgt := 214) hx hb dX12_sets_245 (by decide) ?_
  exact hk124 a0 (x1 + 1) (sA S b0 (Int32.toNatClampNeg z1) z2) _ _ _ hw hE Ta0 (lv_sub hl [1, 0] rfl) hm
def b_X12_sets_283 (n : Nat) (a0 : Nat) (S : pq_S) : Option pq_S := Option.bind (pR S 1247 a0) fun q53 => Option.bind (pR S 1246 a0) fun q54 => Option.bind (m_X12_copies n a0 q53 q54 50 S) fun S_55 => some S_55
set_option maxHeartbeats 4000000 in
set_option maxRecDepth 100000 in
theorem wb_X12_sets_283 {p : Program} {l : Launch} {e : Env} {s : State} {m : MethodId} {args : Array Value} {below : List Frame} {meth : Method} {c : Code} (cx : Cx p s m args meth c cX12_sets 2 RX12 none) (C : pq_C) (X : va_W) (S0 : pq_S) (n : Nat) (S1 : pq_S) : ∀ (a0 : Nat) (S : pq_S) (H : Heap) (locs : List Loc) (ls : Array Slot), PW C X S (pq_F C X S0 s.heap.size) H locs s → Ext S0 S → TY S a0 12 → lv_has ls 2 [(0, .ref a0)] → b_X12_sets_283 n a0 S = some S1 → W p l e rm_X12_sets s m args below meth c H locs 0 0 (MQ below (QcV C X S0 s.heap.size S1) args s 0 0 (pq_F C X S0 s.heap.size)) (F0 m 283 ls []) := by
  obtain ⟨hx, hb, hml, hown, hU, hr, hlk⟩ := id cx
  intro a0 S H locs ls hw hE Ta0 hl hm
  rw [b_X12_sets_283] at hm
  refine lv_aload_n hx hb dX12_sets_283 rfl (lv_at hl 0 rfl) ?_
  refine lv_aload_n hx hb dX12_sets_284 rfl (lv_at hl 0 rfl) ?_
  obtain ⟨q53, hq53, hm⟩ := bd_some hm
  have Tq53 : TY S q53 14 := hw.wf.ref (k := 12) (j := 47) Ta0 (by decide) (by decide) hq53
  refine pg_rb (k := 12) (j := 47) (f := 1247) hx hb hown hU iu12 hw Ta0 (by decide) rfl (hU _ tw1518) rfl hq53 dX12_sets_285 ?_
  refine lv_aload_n hx hb dX12_sets_288 rfl (lv_at hl 0 rfl) ?_
  obtain ⟨q54, hq54, hm⟩ := bd_some hm
  have Tq54 : TY S q54 14 := hw.wf.ref (k := 12) (j := 46) Ta0 (by decide) (by decide) hq54
  refine pg_rb (k := 12) (j := 46) (f := 1246) hx hb hown hU iu12 hw Ta0 (by decide) rfl (hU _ tw1517) rfl hq54 dX12_sets_289 ?_
  refine lv_bipush (v := 50) hx hb dX12_sets_292 (by decide) ?_
  obtain ⟨S_55, hq56, hm⟩ := bd_some hm
  refine pw_cv (va_runV (As := [.ref q53, .ref q54, .int 50]) (rest := []) ⟨hx, hb, hml, hown, hU⟩ (c_X12_copies l C X n S hw.wf _ a0 q53 q54 50 (Ta0) (Tq53) (Tq54) S_55 hq56) (cwV 3 hU (pq_gV tw1467 tw1469 ts122 tw14 tc_X12_copies) rfl rfl rfl cd_X12_copies ⟨Nat.le_of_ble_eq_true rfl, Nat.le_of_ble_eq_true rfl⟩) (pw_preV hw Ta0 (by decide) rfl) rfl rfl hl.1 rfl (lv_room (Nat.le_of_ble_eq_true rfl)) dX12_sets_294 ⟨Nat.zero_le _, Nat.zero_le _⟩) hw (fun H locs hw hx57 => ?_)
  have Ta0 : TY S_55 a0 12 := ty_ext hx57 Ta0
  have hE : Ext S0 S_55 := Ext.tr hE hx57
  cases hm
  exact pw_vret hx hb hr hlk hw hE dX12_sets_297
def b_X12_sets_250 (n : Nat) : Nat → Nat → Int32 → pq_S → Option pq_S
  | 0, _, _, _ => none
  | f + 1, a0, x1, S => if (pI S 1226 a0) ≤ x1 then b_X12_sets_283 n a0 S else Option.bind (pR S 1247 a0) fun q48 => Option.bind (pR S 1216 a0) fun q49 => ck (ix (((3 : Int32) * x1) + (1 : Int32)) (pN S q49)) (dix _ _) (ck (ix ((42 : Int32) + x1) (pN S q48)) (dix _ _) (lt_ (sA S q48 (Int32.toNatClampNeg ((42 : Int32) + x1)) (pA S q49 (Int32.toNatClampNeg (((3 : Int32) * x1) + (1 : Int32))))) fun S_52 => b_X12_sets_250 n f a0 (x1 + 1) S_52))
set_option maxHeartbeats 4000000 in
set_option maxRecDepth 100000 in
theorem wb_X12_sets_250 {p : Program} {l : Launch} {e : Env} {s : State} {m : MethodId} {args : Array Value} {below : List Frame} {meth : Method} {c : Code} (cx : Cx p s m args meth c cX12_sets 2 RX12 none) (C : pq_C) (X : va_W) (S0 : pq_S) (n : Nat) (S1 : pq_S) : ∀ (f : Nat) (a0 : Nat) (x1 : Int32) (S : pq_S) (H : Heap) (locs : List Loc) (ls : Array Slot), PW C X S (pq_F C X S0 s.heap.size) H locs s → Ext S0 S → TY S a0 12 → lv_has ls 2 [(0, .ref a0), (1, .int x1)] → b_X12_sets_250 n f a0 x1 S = some S1 → W p l e rm_X12_sets s m args below meth c H locs 0 0 (MQ below (QcV C X S0 s.heap.size S1) args s 0 0 (pq_F C X S0 s.heap.size)) (F0 m 250 ls []) := by
  obtain ⟨hx, hb, hml, hown, hU, hr, hlk⟩ := id cx
  intro f
  induction f with
  | zero =>
    intro a0 x1 S H locs ls hw hE Ta0 hl hm
    cases hm
  | succ f ih =>
    intro a0 x1 S H locs ls hw hE Ta0 hl hm
    rw [b_X12_sets_250] at hm
    refine lv_iload_n hx hb dX12_sets_250 rfl (lv_at hl 1 rfl) ?_
    refine lv_aload_n hx hb dX12_sets_251 rfl (lv_at hl 0 rfl) ?_
    refine pg_i (k := 12) (j := 26) (f := 1226) hx hb hown hU iu12 hw Ta0 (by decide) rfl (hU _ tw1497) rfl dX12_sets_252 ?_
    refine lv_icmp_ge (tgt := 283) hx hb dX12_sets_255 (by decide) (fun h47 => ?_) (fun h47 => ?_)
    · rw [if_pos h47] at hm
      exact wb_X12_sets_283 cx C X S0 n S1 a0 S _ _ _ hw hE Ta0 (lv_sub hl [0] rfl) hm
    · rw [if_neg h47] at hm
      refine lv_aload_n hx hb dX12_sets_258 rfl (lv_at hl 0 rfl) ?_
      obtain ⟨q48, hq48, hm⟩ := bd_some hm
      have Tq48 : TY S q48 14 := hw.wf.ref (k := 12) (j := 47) Ta0 (by decide) (by decide) hq48
      refine pg_rb (k := 12) (j := 47) (f := 1247) hx hb hown hU iu12 hw Ta0 (by decide) rfl (hU _ tw1518) rfl hq48 dX12_sets_259 ?_
      refine lv_bipush (v := 42) hx hb dX12_sets_262 (by decide) ?_
      refine lv_iload_n hx hb dX12_sets_264 rfl (lv_at hl 1 rfl) ?_
      refine lv_iadd hx hb dX12_sets_265 ?_
      refine lv_aload_n hx hb dX12_sets_266 rfl (lv_at hl 0 rfl) ?_
      obtain ⟨q49, hq49, hm⟩ := bd_some hm
      have Tq49 : TY S q49 14 := hw.wf.ref (k := 12) (j := 16) Ta0 (by decide) (by decide) hq49
      refine pg_rb (k := 12) (j := 16) (f := 1216) hx hb hown hU iu12 hw Ta0 (by decide) rfl (hU _ tw1487) rfl hq49 dX12_sets_267 ?_
      refine lv_iconst (v := 3) hx hb dX12_sets_270 (by decide) ?_
      refine lv_iload_n hx hb dX12_sets_271 rfl (lv_at hl 1 rfl) ?_
      refine lv_imul hx hb dX12_sets_272 ?_
      refine lv_iconst (v := 1) hx hb dX12_sets_273 (by decide) ?_
      refine lv_iadd hx hb dX12_sets_274 ?_
      obtain ⟨hi50, hm⟩ := ck_some hm
      refine pw_iald hx hb hw Tq49 hi50 dX12_sets_275 ?_
      obtain ⟨hi51, hm⟩ := ck_some hm
      refine pw_iast hx hb hw Tq48 hi51 dX12_sets_276 (fun H locs hw => ?_)
      obtain ⟨S_52, eS_52, hm⟩ := lt_some hm
      rw [← eS_52] at hw
      have Ta0 : TY S_52 a0 12 := by rw [eS_52]; exact Ta0
      have hE : Ext S0 S_52 := by rw [eS_52]; exact hE
      refine lv_iinc (v := (x1 + 1)) (lv' := [(1, .int (x1 + 1)), (0, .ref a0)]) hx hb dX12_sets_277 hl (k := 1) rfl rfl (by decide) rfl (fun ls hl => ?_)
      refine lv_goto (tgt := 250) hx hb dX12_sets_280 (by decide) ?_
      exact ih a0 (x1 + 1) S_52 _ _ _ hw hE Ta0 (lv_sub hl [1, 0] rfl) hm
def b_X12_sets_248 (n : Nat) (a0 : Nat) (S : pq_S) : Option pq_S := b_X12_sets_250 n n a0 0 S
set_option maxHeartbeats 4000000 in
set_option maxRecDepth 100000 in
theorem wb_X12_sets_248 {p : Program} {l : Launch} {e : Env} {s : State} {m : MethodId} {args : Array Value} {below : List Frame} {meth : Method} {c : Code} (cx : Cx p s m args meth c cX12_sets 2 RX12 none) (C : pq_C) (X : va_W) (S0 : pq_S) (n : Nat) (S1 : pq_S) : ∀ (a0 : Nat) (S : pq_S) (H : Heap) (locs : List Loc) (ls : Array Slot), PW C X S (pq_F C X S0 s.heap.size) H locs s → Ext S0 S → TY S a0 12 → lv_has ls 2 [(0, .ref a0)] → b_X12_sets_248 n a0 S = some S1 → W p l e rm_X12_sets s m args below meth c H locs 0 0 (MQ below (QcV C X S0 s.heap.size S1) args s 0 0 (pq_F C X S0 s.heap.size)) (F0 m 248 ls []) := by
  obtain ⟨hx, hb, hml, hown, hU, hr, hlk⟩ := id cx
  intro a0 S H locs ls hw hE Ta0 hl hm
  rw [b_X12_sets_248] at hm
  refine lv_iconst (v := 0) hx hb dX12_sets_248 (by decide) ?_
  refine lv_istore_n (lv' := [(1, .int 0), (0, .ref a0)]) hx hb dX12_sets_249 rfl hl (by decide) rfl (fun ls hl => ?_)
  exact wb_X12_sets_250 cx C X S0 n S1 n a0 0 S _ _ _ hw hE Ta0 (lv_sub hl [1, 0] rfl) hm
def b_X12_sets_214 (n : Nat) : Nat → Nat → Int32 → pq_S → Option pq_S
  | 0, _, _, _ => none
  | f + 1, a0, x1, S => if 12 ≤ x1 then b_X12_sets_248 n a0 S else Option.bind (pR S 1247 a0) fun q44 => if (pI S 1225 a0) ≤ x1 then b_X12_sets_241 n (b_X12_sets_214 n f) a0 x1 q44 ((18 : Int32) + x1) 0 S else b_X12_sets_241 n (b_X12_sets_214 n f) a0 x1 q44 ((18 : Int32) + x1) 1 S
set_option maxHeartbeats 4000000 in
set_option maxRecDepth 100000 in
theorem wb_X12_sets_214 {p : Program} {l : Launch} {e : Env} {s : State} {m : MethodId} {args : Array Value} {below : List Frame} {meth : Method} {c : Code} (cx : Cx p s m args meth c cX12_sets 2 RX12 none) (C : pq_C) (X : va_W) (S0 : pq_S) (n : Nat) (S1 : pq_S) : ∀ (f : Nat) (a0 : Nat) (x1 : Int32) (S : pq_S) (H : Heap) (locs : List Loc) (ls : Array Slot), PW C X S (pq_F C X S0 s.heap.size) H locs s → Ext S0 S → TY S a0 12 → lv_has ls 2 [(0, .ref a0), (1, .int x1)] → b_X12_sets_214 n f a0 x1 S = some S1 → W p l e rm_X12_sets s m args below meth c H locs 0 0 (MQ below (QcV C X S0 s.heap.size S1) args s 0 0 (pq_F C X S0 s.heap.size)) (F0 m 214 ls []) := by
  obtain ⟨hx, hb, hml, hown, hU, hr, hlk⟩ := id cx
  intro f
  induction f with
  | zero =>
    intro a0 x1 S H locs ls hw hE Ta0 hl hm
    cases hm
  | succ f ih =>
    intro a0 x1 S H locs ls hw hE Ta0 hl hm
    rw [b_X12_sets_214] at hm
    refine lv_iload_n hx hb dX12_sets_214 rfl (lv_at hl 1 rfl) ?_
    refine lv_bipush (v := 12) hx hb dX12_sets_215 (by decide) ?_
    refine lv_icmp_ge (tgt := 248) hx hb dX12_sets_217 (by decide) (fun h43 => ?_) (fun h43 => ?_)
    · rw [if_pos h43] at hm
      exact wb_X12_sets_248 cx C X S0 n S1 a0 S _ _ _ hw hE Ta0 (lv_sub hl [0] rfl) hm
    · rw [if_neg h43] at hm
      refine lv_aload_n hx hb dX12_sets_220 rfl (lv_at hl 0 rfl) ?_
      obtain ⟨q44, hq44, hm⟩ := bd_some hm
      have Tq44 : TY S q44 14 := hw.wf.ref (k := 12) (j := 47) Ta0 (by decide) (by decide) hq44
      refine pg_rb (k := 12) (j := 47) (f := 1247) hx hb hown hU iu12 hw Ta0 (by decide) rfl (hU _ tw1518) rfl hq44 dX12_sets_221 ?_
      refine lv_bipush (v := 18) hx hb dX12_sets_224 (by decide) ?_
      refine lv_iload_n hx hb dX12_sets_226 rfl (lv_at hl 1 rfl) ?_
      refine lv_iadd hx hb dX12_sets_227 ?_
      refine lv_iload_n hx hb dX12_sets_228 rfl (lv_at hl 1 rfl) ?_
      refine lv_aload_n hx hb dX12_sets_229 rfl (lv_at hl 0 rfl) ?_
      refine pg_i (k := 12) (j := 25) (f := 1225) hx hb hown hU iu12 hw Ta0 (by decide) rfl (hU _ tw1496) rfl dX12_sets_230 ?_
      refine lv_icmp_ge (tgt := 240) hx hb dX12_sets_233 (by decide) (fun h45 => ?_) (fun h45 => ?_)
      · rw [if_pos h45] at hm
        refine lv_iconst (v := 0) hx hb dX12_sets_240 (by decide) ?_
        exact wb_X12_sets_241 cx C X S0 n S1 _ ih a0 x1 q44 ((18 : Int32) + x1) 0 S _ _ _ hw hE Ta0 Tq44 (lv_sub hl [0, 1] rfl) hm
      · rw [if_neg h45] at hm
        refine lv_iconst (v := 1) hx hb dX12_sets_236 (by decide) ?_
        refine lv_goto (tgt := 241) hx hb dX12_sets_237 (by decide) ?_
        exact wb_X12_sets_241 cx C X S0 n S1 _ ih a0 x1 q44 ((18 : Int32) + x1) 1 S _ _ _ hw hE Ta0 Tq44 (lv_sub hl [0, 1] rfl) hm
def b_X12_sets_212 (n : Nat) (a0 : Nat) (S : pq_S) : Option pq_S := b_X12_sets_214 n n a0 0 S
set_option maxHeartbeats 4000000 in
set_option maxRecDepth 100000 in
theorem wb_X12_sets_212 {p : Program} {l : Launch} {e : Env} {s : State} {m : MethodId} {args : Array Value} {below : List Frame} {meth : Method} {c : Code} (cx : Cx p s m args meth c cX12_sets 2 RX12 none) (C : pq_C) (X : va_W) (S0 : pq_S) (n : Nat) (S1 : pq_S) : ∀ (a0 : Nat) (S : pq_S) (H : Heap) (locs : List Loc) (ls : Array Slot), PW C X S (pq_F C X S0 s.heap.size) H locs s → Ext S0 S → TY S a0 12 → lv_has ls 2 [(0, .ref a0)] → b_X12_sets_212 n a0 S = some S1 → W p l e rm_X12_sets s m args below meth c H locs 0 0 (MQ below (QcV C X S0 s.heap.size S1) args s 0 0 (pq_F C X S0 s.heap.size)) (F0 m 212 ls []) := by
  obtain ⟨hx, hb, hml, hown, hU, hr, hlk⟩ := id cx
  intro a0 S H locs ls hw hE Ta0 hl hm
  rw [b_X12_sets_212] at hm
  refine lv_iconst (v := 0) hx hb dX12_sets_212 (by decide) ?_
  refine lv_istore_n (lv' := [(1, .int 0), (0, .ref a0)]) hx hb dX12_sets_213 rfl hl (by decide) rfl (fun ls hl => ?_)
  exact wb_X12_sets_214 cx C X S0 n S1 n a0 0 S _ _ _ hw hE Ta0 (lv_sub hl [1, 0] rfl) hm
def b_X12_sets_161 (n : Nat) : Nat → Nat → Int32 → pq_S → Option pq_S
  | 0, _, _, _ => none
  | f + 1, a0, x1, S => if (pI S 1224 a0) ≤ x1 then b_X12_sets_212 n a0 S else Option.bind (pR S 1247 a0) fun q33 => Option.bind (pR S 1214 a0) fun q34 => ck (ix (((4 : Int32) * x1) + (1 : Int32)) (pN S q34)) (dix _ _) (ck (ix ((0 : Int32) + x1) (pN S q33)) (dix _ _) (lt_ (sA S q33 (Int32.toNatClampNeg ((0 : Int32) + x1)) (pA S q34 (Int32.toNatClampNeg (((4 : Int32) * x1) + (1 : Int32))))) fun S_37 => Option.bind (pR S_37 1247 a0) fun q38 => Option.bind (pR S_37 1214 a0) fun q39 => ck (ix (((4 : Int32) * x1) + (2 : Int32)) (pN S_37 q39)) (dix _ _) (ck (ix ((6 : Int32) + x1) (pN S_37 q38)) (dix _ _) (lt_ (sA S_37 q38 (Int32.toNatClampNeg ((6 : Int32) + x1)) (pA S_37 q39 (Int32.toNatClampNeg (((4 : Int32) * x1) + (2 : Int32))))) fun S_42 => b_X12_sets_161 n f a0 (x1 + 1) S_42))))
set_option maxHeartbeats 4000000 in
set_option maxRecDepth 100000 in
theorem wb_X12_sets_161 {p : Program} {l : Launch} {e : Env} {s : State} {m : MethodId} {args : Array Value} {below : List Frame} {meth : Method} {c : Code} (cx : Cx p s m args meth c cX12_sets 2 RX12 none) (C : pq_C) (X : va_W) (S0 : pq_S) (n : Nat) (S1 : pq_S) : ∀ (f : Nat) (a0 : Nat) (x1 : Int32) (S : pq_S) (H : Heap) (locs : List Loc) (ls : Array Slot), PW C X S (pq_F C X S0 s.heap.size) H locs s → Ext S0 S → TY S a0 12 → lv_has ls 2 [(0, .ref a0), (1, .int x1)] → b_X12_sets_161 n f a0 x1 S = some S1 → W p l e rm_X12_sets s m args below meth c H locs 0 0 (MQ below (QcV C X S0 s.heap.size S1) args s 0 0 (pq_F C X S0 s.heap.size)) (F0 m 161 ls []) := by
  obtain ⟨hx, hb, hml, hown, hU, hr, hlk⟩ := id cx
  intro f
  induction f with
  | zero =>
    intro a0 x1 S H locs ls hw hE Ta0 hl hm
    cases hm
  | succ f ih =>
    intro a0 x1 S H locs ls hw hE Ta0 hl hm
    rw [b_X12_sets_161] at hm
    refine lv_iload_n hx hb dX12_sets_161 rfl (lv_at hl 1 rfl) ?_
    refine lv_aload_n hx hb dX12_sets_162 rfl (lv_at hl 0 rfl) ?_
    refine pg_i (k := 12) (j := 24) (f := 1224) hx hb hown hU iu12 hw Ta0 (by decide) rfl (hU _ tw1495) rfl dX12_sets_163 ?_
    refine lv_icmp_ge (tgt := 212) hx hb dX12_sets_166 (by decide) (fun h32 => ?_) (fun h32 => ?_)
    · rw [if_pos h32] at hm
      exact wb_X12_sets_212 cx C X S0 n S1 a0 S _ _ _ hw hE Ta0 (lv_sub hl [0] rfl) hm
    · rw [if_neg h32] at hm
      refine lv_aload_n hx hb dX12_sets_169 rfl (lv_at hl 0 rfl) ?_
      obtain ⟨q33, hq33, hm⟩ := bd_some hm
      have Tq33 : TY S q33 14 := hw.wf.ref (k := 12) (j := 47) Ta0 (by decide) (by decide) hq33
      refine pg_rb (k := 12) (j := 47) (f := 1247) hx hb hown hU iu12 hw Ta0 (by decide) rfl (hU _ tw1518) rfl hq33 dX12_sets_170 ?_
      refine lv_iconst (v := 0) hx hb dX12_sets_173 (by decide) ?_
      refine lv_iload_n hx hb dX12_sets_174 rfl (lv_at hl 1 rfl) ?_
      refine lv_iadd hx hb dX12_sets_175 ?_
      refine lv_aload_n hx hb dX12_sets_176 rfl (lv_at hl 0 rfl) ?_
      obtain ⟨q34, hq34, hm⟩ := bd_some hm
      have Tq34 : TY S q34 14 := hw.wf.ref (k := 12) (j := 14) Ta0 (by decide) (by decide) hq34
      refine pg_rb (k := 12) (j := 14) (f := 1214) hx hb hown hU iu12 hw Ta0 (by decide) rfl (hU _ tw1485) rfl hq34 dX12_sets_177 ?_
      refine lv_iconst (v := 4) hx hb dX12_sets_180 (by decide) ?_
      refine lv_iload_n hx hb dX12_sets_181 rfl (lv_at hl 1 rfl) ?_
      refine lv_imul hx hb dX12_sets_182 ?_
      refine lv_iconst (v := 1) hx hb dX12_sets_183 (by decide) ?_
      refine lv_iadd hx hb dX12_sets_184 ?_
      obtain ⟨hi35, hm⟩ := ck_some hm
      refine pw_iald hx hb hw Tq34 hi35 dX12_sets_185 ?_
      obtain ⟨hi36, hm⟩ := ck_some hm
      refine pw_iast hx hb hw Tq33 hi36 dX12_sets_186 (fun H locs hw => ?_)
      obtain ⟨S_37, eS_37, hm⟩ := lt_some hm
      rw [← eS_37] at hw
      have Ta0 : TY S_37 a0 12 := by rw [eS_37]; exact Ta0
      have hE : Ext S0 S_37 := by rw [eS_37]; exact hE
      refine lv_aload_n hx hb dX12_sets_187 rfl (lv_at hl 0 rfl) ?_
      obtain ⟨q38, hq38, hm⟩ := bd_some hm
      have Tq38 : TY S_37 q38 14 := hw.wf.ref (k := 12) (j := 47) Ta0 (by decide) (by decide) hq38
      refine pg_rb (k := 12) (j := 47) (f := 1247) hx hb hown hU iu12 hw Ta0 (by decide) rfl (hU _ tw1518) rfl hq38 dX12_sets_188 ?_
      refine lv_bipush (v := 6) hx hb dX12_sets_191 (by decide) ?_
      refine lv_iload_n hx hb dX12_sets_193 rfl (lv_at hl 1 rfl) ?_
      refine lv_iadd hx hb dX12_sets_194 ?_
      refine lv_aload_n hx hb dX12_sets_195 rfl (lv_at hl 0 rfl) ?_
      obtain ⟨q39, hq39, hm⟩ := bd_some hm
      have Tq39 : TY S_37 q39 14 := hw.wf.ref (k := 12) (j := 14) Ta0 (by decide) (by decide) hq39
      refine pg_rb (k := 12) (j := 14) (f := 1214) hx hb hown hU iu12 hw Ta0 (by decide) rfl (hU _ tw1485) rfl hq39 dX12_sets_196 ?_
      refine lv_iconst (v := 4) hx hb dX12_sets_199 (by decide) ?_
      refine lv_iload_n hx hb dX12_sets_200 rfl (lv_at hl 1 rfl) ?_
      refine lv_imul hx hb dX12_sets_201 ?_
      refine lv_iconst (v := 2) hx hb dX12_sets_202 (by decide) ?_
      refine lv_iadd hx hb dX12_sets_203 ?_
      obtain ⟨hi40, hm⟩ := ck_some hm
      refine pw_iald hx hb hw Tq39 hi40 dX12_sets_204 ?_
      obtain ⟨hi41, hm⟩ := ck_some hm
      refine pw_iast hx hb hw Tq38 hi41 dX12_sets_205 (fun H locs hw => ?_)
      obtain ⟨S_42, eS_42, hm⟩ := lt_some hm
      rw [← eS_42] at hw
      have Ta0 : TY S_42 a0 12 := by rw [eS_42]; exact Ta0
      have hE : Ext S0 S_42 := by rw [eS_42]; exact hE
      refine lv_iinc (v := (x1 + 1)) (lv' := [(1, .int (x1 + 1)), (0, .ref a0)]) hx hb dX12_sets_206 hl (k := 1) rfl rfl (by decide) rfl (fun ls hl => ?_)
      refine lv_goto (tgt := 161) hx hb dX12_sets_209 (by decide) ?_
      exact ih a0 (x1 + 1) S_42 _ _ _ hw hE Ta0 (lv_sub hl [1, 0] rfl) hm
def b_X12_sets_159 (n : Nat) (a0 : Nat) (S : pq_S) : Option pq_S := b_X12_sets_161 n n a0 0 S
set_option maxHeartbeats 4000000 in
set_option maxRecDepth 100000 in
theorem wb_X12_sets_159 {p : Program} {l : Launch} {e : Env} {s : State} {m : MethodId} {args : Array Value} {below : List Frame} {meth : Method} {c : Code} (cx : Cx p s m args meth c cX12_sets 2 RX12 none) (C : pq_C) (X : va_W) (S0 : pq_S) (n : Nat) (S1 : pq_S) : ∀ (a0 : Nat) (S : pq_S) (H : Heap) (locs : List Loc) (ls : Array Slot), PW C X S (pq_F C X S0 s.heap.size) H locs s → Ext S0 S → TY S a0 12 → lv_has ls 2 [(0, .ref a0)] → b_X12_sets_159 n a0 S = some S1 → W p l e rm_X12_sets s m args below meth c H locs 0 0 (MQ below (QcV C X S0 s.heap.size S1) args s 0 0 (pq_F C X S0 s.heap.size)) (F0 m 159 ls []) := by
  obtain ⟨hx, hb, hml, hown, hU, hr, hlk⟩ := id cx
  intro a0 S H locs ls hw hE Ta0 hl hm
  rw [b_X12_sets_159] at hm
  refine lv_iconst (v := 0) hx hb dX12_sets_159 (by decide) ?_
  refine lv_istore_n (lv' := [(1, .int 0), (0, .ref a0)]) hx hb dX12_sets_160 rfl hl (by decide) rfl (fun ls hl => ?_)
  exact wb_X12_sets_161 cx C X S0 n S1 n a0 0 S _ _ _ hw hE Ta0 (lv_sub hl [1, 0] rfl) hm
def b_X12_sets_140 (n : Nat) : Nat → Nat → Int32 → pq_S → Option pq_S
  | 0, _, _, _ => none
  | f + 1, a0, x1, S => if 50 ≤ x1 then b_X12_sets_159 n a0 S else Option.bind (pR S 1247 a0) fun q30 => ck (ix x1 (pN S q30)) (dix _ _) (b_X12_sets_140 n f a0 (x1 + 1) (sA S q30 (Int32.toNatClampNeg x1) 0))
set_option maxHeartbeats 4000000 in
set_option maxRecDepth 100000 in
theorem wb_X12_sets_140 {p : Program} {l : Launch} {e : Env} {s : State} {m : MethodId} {args : Array Value} {below : List Frame} {meth : Method} {c : Code} (cx : Cx p s m args meth c cX12_sets 2 RX12 none) (C : pq_C) (X : va_W) (S0 : pq_S) (n : Nat) (S1 : pq_S) : ∀ (f : Nat) (a0 : Nat) (x1 : Int32) (S : pq_S) (H : Heap) (locs : List Loc) (ls : Array Slot), PW C X S (pq_F C X S0 s.heap.size) H locs s → Ext S0 S → TY S a0 12 → lv_has ls 2 [(0, .ref a0), (1, .int x1)] → b_X12_sets_140 n f a0 x1 S = some S1 → W p l e rm_X12_sets s m args below meth c H locs 0 0 (MQ below (QcV C X S0 s.heap.size S1) args s 0 0 (pq_F C X S0 s.heap.size)) (F0 m 140 ls []) := by
  obtain ⟨hx, hb, hml, hown, hU, hr, hlk⟩ := id cx
  intro f
  induction f with
  | zero =>
    intro a0 x1 S H locs ls hw hE Ta0 hl hm
    cases hm
  | succ f ih =>
    intro a0 x1 S H locs ls hw hE Ta0 hl hm
    rw [b_X12_sets_140] at hm
    refine lv_iload_n hx hb dX12_sets_140 rfl (lv_at hl 1 rfl) ?_
    refine lv_bipush (v := 50) hx hb dX12_sets_141 (by decide) ?_
    refine lv_icmp_ge (tgt := 159) hx hb dX12_sets_143 (by decide) (fun h29 => ?_) (fun h29 => ?_)
    · rw [if_pos h29] at hm
      exact wb_X12_sets_159 cx C X S0 n S1 a0 S _ _ _ hw hE Ta0 (lv_sub hl [0] rfl) hm
    · rw [if_neg h29] at hm
      refine lv_aload_n hx hb dX12_sets_146 rfl (lv_at hl 0 rfl) ?_
      obtain ⟨q30, hq30, hm⟩ := bd_some hm
      have Tq30 : TY S q30 14 := hw.wf.ref (k := 12) (j := 47) Ta0 (by decide) (by decide) hq30
      refine pg_rb (k := 12) (j := 47) (f := 1247) hx hb hown hU iu12 hw Ta0 (by decide) rfl (hU _ tw1518) rfl hq30 dX12_sets_147 ?_
      refine lv_iload_n hx hb dX12_sets_150 rfl (lv_at hl 1 rfl) ?_
      refine lv_iconst (v := 0) hx hb dX12_sets_151 (by decide) ?_
      obtain ⟨hi31, hm⟩ := ck_some hm
      refine pw_iast hx hb hw Tq30 hi31 dX12_sets_152 (fun H locs hw => ?_)
      refine lv_iinc (v := (x1 + 1)) (lv' := [(1, .int (x1 + 1)), (0, .ref a0)]) hx hb dX12_sets_153 hl (k := 1) rfl rfl (by decide) rfl (fun ls hl => ?_)
      refine lv_goto (tgt := 140) hx hb dX12_sets_156 (by decide) ?_
      exact ih a0 (x1 + 1) (sA S q30 (Int32.toNatClampNeg x1) 0) _ _ _ hw hE Ta0 (lv_sub hl [1, 0] rfl) hm
def m_X12_sets (n : Nat) (a0 : Nat) (S0 : pq_S) : Option pq_S := lt_ (sI (sI S0 1224 a0 (pI S0 1218 a0)) 1225 a0 (pI (sI S0 1224 a0 (pI S0 1218 a0)) 1219 a0)) fun S_1 => lt_ (sI (sI S_1 1226 a0 (pI S_1 1220 a0)) 1227 a0 (pI (sI S_1 1226 a0 (pI S_1 1220 a0)) 1221 a0)) fun S_2 => lt_ (sI (sI S_2 1228 a0 (pI S_2 1222 a0)) 1229 a0 (pI (sI S_2 1228 a0 (pI S_2 1222 a0)) 1223 a0)) fun S_3 => Option.bind (pR S_3 1210 a0) fun q4 => Option.bind (pR S_3 1214 a0) fun q5 => Option.bind (m_X12_copies n a0 q4 q5 24 S_3) fun S_6 => Option.bind (pR S_6 1211 a0) fun q9 => Option.bind (pR S_6 1215 a0) fun q10 => Option.bind (m_X12_copies n a0 q9 q10 48 S_6) fun S_11 => Option.bind (pR S_11 1212 a0) fun q14 => Option.bind (pR S_11 1216 a0) fun q15 => Option.bind (m_X12_copies n a0 q14 q15 9 S_11) fun S_16 => Option.bind (pR S_16 1213 a0) fun q19 => Option.bind (pR S_16 1217 a0) fun q20 => Option.bind (m_X12_copies n a0 q19 q20 6 S_16) fun S_21 => Option.bind (pR S_21 1234 a0) fun q24 => ck (ix 0 (pN S_21 q24)) (dix _ _) (Option.bind (pR (sA S_21 q24 (Int32.toNatClampNeg 0) 0) 1234 a0) fun q26 => ck (ix 1 (pN (sA S_21 q24 (Int32.toNatClampNeg 0) 0) q26)) (dix _ _) (lt_ (sA (sA S_21 q24 (Int32.toNatClampNeg 0) 0) q26 (Int32.toNatClampNeg 1) 0) fun S_28 => b_X12_sets_140 n n a0 0 (sI (sI (sI (sI S_28 1251 a0 0) 1241 a0 0) 1272 a0 0) 1242 a0 0)))
theorem tc_X12_sets : Cond.code yX12_sets cX12_sets 2 none ∈ pq_U := tw1466
theorem cd_X12_sets : yX12_sets.cls = RX12 ∧ yX12_sets.cls ≠ "java/lang/invoke/MethodHandle" ∧ yX12_sets.cls ≠ "java/lang/invoke/VarHandle" ∧ (parseMethodDescriptor yX12_sets.desc).map (fun d => d.parameters.length) = some 0 := by decide +kernel
set_option maxHeartbeats 4000000 in
set_option maxRecDepth 100000 in
theorem c_X12_sets (l : Launch) (C : pq_C) (X : va_W) (n : Nat) (S0 : pq_S) (hF : WF S0) (sz : Nat) (a0 : Nat) (Ta0 : TY S0 a0 12) (S1 : pq_S) (hm : m_X12_sets n a0 S0 = some S1) : MV l yX12_sets (.code yX12_sets cX12_sets 2 none :: pq_U) rm_X12_sets C X S0 sz [.ref a0] S1 0 0 := by
  refine Met.ofW (cc := cX12_sets) (maxL := 2) (ret := none) (by decide) rfl ?_
  intro p e s m args below meth c s₁ B hml hv
  obtain ⟨rfl, hv⟩ := hv
  have hsz := hv.1
  subst hsz
  have hw := pw_entry hF hv
  have hts := atoms_spec (ws := .code yX12_sets cX12_sets 2 none :: pq_U) B.pre
  have hU : ∀ w ∈ pq_U, w.before _ s = true := fun w h => hts w (List.mem_cons_of_mem _ h)
  have hx := B.exec
  have hb := B.bytes
  have hr := B.returns
  have hown : s.vm.findClass RX12 = some m.cls := findClass_of_methodNamed B.named
  have hlk := B.notSynchronized
  have hl := lv_entry ([.ref a0]) (n := 2) (Nat.le_of_ble_eq_true rfl)
  rw [lg_entry_eq]
  generalize (lg_sl ([.ref a0]) ++ List.replicate (2 - (lg_sl ([.ref a0])).length) Slot.unset).toArray = ls at hl ⊢
  have hl : lv_has ls 2 [(0, .ref a0)] := hl
  have hE : Ext S0 S0 := Ext.rf _
  have cx : Cx p s m _ meth c cX12_sets 2 RX12 none := ⟨hx, hb, hml, hown, hU, hr, hlk⟩
  rw [m_X12_sets] at hm
  refine lv_aload_n hx hb dX12_sets_0 rfl (lv_at hl 0 rfl) ?_
  refine lv_aload_n hx hb dX12_sets_1 rfl (lv_at hl 0 rfl) ?_
  refine pg_i (k := 12) (j := 18) (f := 1218) hx hb hown hU iu12 hw Ta0 (by decide) rfl (hU _ tw1489) rfl dX12_sets_2 ?_
  refine pp_i (k := 12) (j := 24) (f := 1224) hx hb hown hU iu12 tyX12_ok nmX12 hw Ta0 (by decide) rfl (hU _ tw1495) rfl rfl rfl dX12_sets_5 (fun H locs hw => ?_)
  refine lv_aload_n hx hb dX12_sets_8 rfl (lv_at hl 0 rfl) ?_
  refine lv_aload_n hx hb dX12_sets_9 rfl (lv_at hl 0 rfl) ?_
  refine pg_i (k := 12) (j := 19) (f := 1219) hx hb hown hU iu12 hw Ta0 (by decide) rfl (hU _ tw1490) rfl dX12_sets_10 ?_
  refine pp_i (k := 12) (j := 25) (f := 1225) hx hb hown hU iu12 tyX12_ok nmX12 hw Ta0 (by decide) rfl (hU _ tw1496) rfl rfl rfl dX12_sets_13 (fun H locs hw => ?_)
  obtain ⟨S_1, eS_1, hm⟩ := lt_some hm
  rw [← eS_1] at hw
  have Ta0 : TY S_1 a0 12 := by rw [eS_1]; exact Ta0
  have hE : Ext S0 S_1 := by rw [eS_1]; exact hE
  refine lv_aload_n hx hb dX12_sets_16 rfl (lv_at hl 0 rfl) ?_
  refine lv_aload_n hx hb dX12_sets_17 rfl (lv_at hl 0 rfl) ?_
  refine pg_i (k := 12) (j := 20) (f := 1220) hx hb hown hU iu12 hw Ta0 (by decide) rfl (hU _ tw1491) rfl dX12_sets_18 ?_
  refine pp_i (k := 12) (j := 26) (f := 1226) hx hb hown hU iu12 tyX12_ok nmX12 hw Ta0 (by decide) rfl (hU _ tw1497) rfl rfl rfl dX12_sets_21 (fun H locs hw => ?_)
  refine lv_aload_n hx hb dX12_sets_24 rfl (lv_at hl 0 rfl) ?_
  refine lv_aload_n hx hb dX12_sets_25 rfl (lv_at hl 0 rfl) ?_
  refine pg_i (k := 12) (j := 21) (f := 1221) hx hb hown hU iu12 hw Ta0 (by decide) rfl (hU _ tw1492) rfl dX12_sets_26 ?_
  refine pp_i (k := 12) (j := 27) (f := 1227) hx hb hown hU iu12 tyX12_ok nmX12 hw Ta0 (by decide) rfl (hU _ tw1498) rfl rfl rfl dX12_sets_29 (fun H locs hw => ?_)
  obtain ⟨S_2, eS_2, hm⟩ := lt_some hm
  rw [← eS_2] at hw
  have Ta0 : TY S_2 a0 12 := by rw [eS_2]; exact Ta0
  have hE : Ext S0 S_2 := by rw [eS_2]; exact hE
  refine lv_aload_n hx hb dX12_sets_32 rfl (lv_at hl 0 rfl) ?_
  refine lv_aload_n hx hb dX12_sets_33 rfl (lv_at hl 0 rfl) ?_
  refine pg_i (k := 12) (j := 22) (f := 1222) hx hb hown hU iu12 hw Ta0 (by decide) rfl (hU _ tw1493) rfl dX12_sets_34 ?_
  refine pp_i (k := 12) (j := 28) (f := 1228) hx hb hown hU iu12 tyX12_ok nmX12 hw Ta0 (by decide) rfl (hU _ tw1499) rfl rfl rfl dX12_sets_37 (fun H locs hw => ?_)
  refine lv_aload_n hx hb dX12_sets_40 rfl (lv_at hl 0 rfl) ?_
  refine lv_aload_n hx hb dX12_sets_41 rfl (lv_at hl 0 rfl) ?_
  refine pg_i (k := 12) (j := 23) (f := 1223) hx hb hown hU iu12 hw Ta0 (by decide) rfl (hU _ tw1494) rfl dX12_sets_42 ?_
  refine pp_i (k := 12) (j := 29) (f := 1229) hx hb hown hU iu12 tyX12_ok nmX12 hw Ta0 (by decide) rfl (hU _ tw1500) rfl rfl rfl dX12_sets_45 (fun H locs hw => ?_)
  obtain ⟨S_3, eS_3, hm⟩ := lt_some hm
  rw [← eS_3] at hw
  have Ta0 : TY S_3 a0 12 := by rw [eS_3]; exact Ta0
  have hE : Ext S0 S_3 := by rw [eS_3]; exact hE
  refine lv_aload_n hx hb dX12_sets_48 rfl (lv_at hl 0 rfl) ?_
  refine lv_aload_n hx hb dX12_sets_49 rfl (lv_at hl 0 rfl) ?_
  obtain ⟨q4, hq4, hm⟩ := bd_some hm
  have Tq4 : TY S_3 q4 14 := hw.wf.ref (k := 12) (j := 10) Ta0 (by decide) (by decide) hq4
  refine pg_rb (k := 12) (j := 10) (f := 1210) hx hb hown hU iu12 hw Ta0 (by decide) rfl (hU _ tw1481) rfl hq4 dX12_sets_50 ?_
  refine lv_aload_n hx hb dX12_sets_53 rfl (lv_at hl 0 rfl) ?_
  obtain ⟨q5, hq5, hm⟩ := bd_some hm
  have Tq5 : TY S_3 q5 14 := hw.wf.ref (k := 12) (j := 14) Ta0 (by decide) (by decide) hq5
  refine pg_rb (k := 12) (j := 14) (f := 1214) hx hb hown hU iu12 hw Ta0 (by decide) rfl (hU _ tw1485) rfl hq5 dX12_sets_54 ?_
  refine lv_bipush (v := 24) hx hb dX12_sets_57 (by decide) ?_
  obtain ⟨S_6, hq7, hm⟩ := bd_some hm
  refine pw_cv (va_runV (As := [.ref q4, .ref q5, .int 24]) (rest := []) ⟨hx, hb, hml, hown, hU⟩ (c_X12_copies l C X n S_3 hw.wf _ a0 q4 q5 24 (Ta0) (Tq4) (Tq5) S_6 hq7) (cwV 3 hU (pq_gV tw1467 tw1469 ts122 tw14 tc_X12_copies) rfl rfl rfl cd_X12_copies ⟨Nat.le_of_ble_eq_true rfl, Nat.le_of_ble_eq_true rfl⟩) (pw_preV hw Ta0 (by decide) rfl) rfl rfl hl.1 rfl (lv_room (Nat.le_of_ble_eq_true rfl)) dX12_sets_59 ⟨Nat.zero_le _, Nat.zero_le _⟩) hw (fun H locs hw hx8 => ?_)
  have Ta0 : TY S_6 a0 12 := ty_ext hx8 Ta0
  have hE : Ext S0 S_6 := Ext.tr hE hx8
  refine lv_aload_n hx hb dX12_sets_62 rfl (lv_at hl 0 rfl) ?_
  refine lv_aload_n hx hb dX12_sets_63 rfl (lv_at hl 0 rfl) ?_
  obtain ⟨q9, hq9, hm⟩ := bd_some hm
  have Tq9 : TY S_6 q9 14 := hw.wf.ref (k := 12) (j := 11) Ta0 (by decide) (by decide) hq9
  refine pg_rb (k := 12) (j := 11) (f := 1211) hx hb hown hU iu12 hw Ta0 (by decide) rfl (hU _ tw1482) rfl hq9 dX12_sets_64 ?_
  refine lv_aload_n hx hb dX12_sets_67 rfl (lv_at hl 0 rfl) ?_
  obtain ⟨q10, hq10, hm⟩ := bd_some hm
  have Tq10 : TY S_6 q10 14 := hw.wf.ref (k := 12) (j := 15) Ta0 (by decide) (by decide) hq10
  refine pg_rb (k := 12) (j := 15) (f := 1215) hx hb hown hU iu12 hw Ta0 (by decide) rfl (hU _ tw1486) rfl hq10 dX12_sets_68 ?_
  refine lv_bipush (v := 48) hx hb dX12_sets_71 (by decide) ?_
  obtain ⟨S_11, hq12, hm⟩ := bd_some hm
  refine pw_cv (va_runV (As := [.ref q9, .ref q10, .int 48]) (rest := []) ⟨hx, hb, hml, hown, hU⟩ (c_X12_copies l C X n S_6 hw.wf _ a0 q9 q10 48 (Ta0) (Tq9) (Tq10) S_11 hq12) (cwV 3 hU (pq_gV tw1467 tw1469 ts122 tw14 tc_X12_copies) rfl rfl rfl cd_X12_copies ⟨Nat.le_of_ble_eq_true rfl, Nat.le_of_ble_eq_true rfl⟩) (pw_preV hw Ta0 (by decide) rfl) rfl rfl hl.1 rfl (lv_room (Nat.le_of_ble_eq_true rfl)) dX12_sets_73 ⟨Nat.zero_le _, Nat.zero_le _⟩) hw (fun H locs hw hx13 => ?_)
  have Ta0 : TY S_11 a0 12 := ty_ext hx13 Ta0
  have hE : Ext S0 S_11 := Ext.tr hE hx13
  refine lv_aload_n hx hb dX12_sets_76 rfl (lv_at hl 0 rfl) ?_
  refine lv_aload_n hx hb dX12_sets_77 rfl (lv_at hl 0 rfl) ?_
  obtain ⟨q14, hq14, hm⟩ := bd_some hm
  have Tq14 : TY S_11 q14 14 := hw.wf.ref (k := 12) (j := 12) Ta0 (by decide) (by decide) hq14
  refine pg_rb (k := 12) (j := 12) (f := 1212) hx hb hown hU iu12 hw Ta0 (by decide) rfl (hU _ tw1483) rfl hq14 dX12_sets_78 ?_
  refine lv_aload_n hx hb dX12_sets_81 rfl (lv_at hl 0 rfl) ?_
  obtain ⟨q15, hq15, hm⟩ := bd_some hm
  have Tq15 : TY S_11 q15 14 := hw.wf.ref (k := 12) (j := 16) Ta0 (by decide) (by decide) hq15
  refine pg_rb (k := 12) (j := 16) (f := 1216) hx hb hown hU iu12 hw Ta0 (by decide) rfl (hU _ tw1487) rfl hq15 dX12_sets_82 ?_
  refine lv_bipush (v := 9) hx hb dX12_sets_85 (by decide) ?_
  obtain ⟨S_16, hq17, hm⟩ := bd_some hm
  refine pw_cv (va_runV (As := [.ref q14, .ref q15, .int 9]) (rest := []) ⟨hx, hb, hml, hown, hU⟩ (c_X12_copies l C X n S_11 hw.wf _ a0 q14 q15 9 (Ta0) (Tq14) (Tq15) S_16 hq17) (cwV 3 hU (pq_gV tw1467 tw1469 ts122 tw14 tc_X12_copies) rfl rfl rfl cd_X12_copies ⟨Nat.le_of_ble_eq_true rfl, Nat.le_of_ble_eq_true rfl⟩) (pw_preV hw Ta0 (by decide) rfl) rfl rfl hl.1 rfl (lv_room (Nat.le_of_ble_eq_true rfl)) dX12_sets_87 ⟨Nat.zero_le _, Nat.zero_le _⟩) hw (fun H locs hw hx18 => ?_)
  have Ta0 : TY S_16 a0 12 := ty_ext hx18 Ta0
  have hE : Ext S0 S_16 := Ext.tr hE hx18
  refine lv_aload_n hx hb dX12_sets_90 rfl (lv_at hl 0 rfl) ?_
  refine lv_aload_n hx hb dX12_sets_91 rfl (lv_at hl 0 rfl) ?_
  obtain ⟨q19, hq19, hm⟩ := bd_some hm
  have Tq19 : TY S_16 q19 14 := hw.wf.ref (k := 12) (j := 13) Ta0 (by decide) (by decide) hq19
  refine pg_rb (k := 12) (j := 13) (f := 1213) hx hb hown hU iu12 hw Ta0 (by decide) rfl (hU _ tw1484) rfl hq19 dX12_sets_92 ?_
  refine lv_aload_n hx hb dX12_sets_95 rfl (lv_at hl 0 rfl) ?_
  obtain ⟨q20, hq20, hm⟩ := bd_some hm
  have Tq20 : TY S_16 q20 14 := hw.wf.ref (k := 12) (j := 17) Ta0 (by decide) (by decide) hq20
  refine pg_rb (k := 12) (j := 17) (f := 1217) hx hb hown hU iu12 hw Ta0 (by decide) rfl (hU _ tw1488) rfl hq20 dX12_sets_96 ?_
  refine lv_bipush (v := 6) hx hb dX12_sets_99 (by decide) ?_
  obtain ⟨S_21, hq22, hm⟩ := bd_some hm
  refine pw_cv (va_runV (As := [.ref q19, .ref q20, .int 6]) (rest := []) ⟨hx, hb, hml, hown, hU⟩ (c_X12_copies l C X n S_16 hw.wf _ a0 q19 q20 6 (Ta0) (Tq19) (Tq20) S_21 hq22) (cwV 3 hU (pq_gV tw1467 tw1469 ts122 tw14 tc_X12_copies) rfl rfl rfl cd_X12_copies ⟨Nat.le_of_ble_eq_true rfl, Nat.le_of_ble_eq_true rfl⟩) (pw_preV hw Ta0 (by decide) rfl) rfl rfl hl.1 rfl (lv_room (Nat.le_of_ble_eq_true rfl)) dX12_sets_101 ⟨Nat.zero_le _, Nat.zero_le _⟩) hw (fun H locs hw hx23 => ?_)
  have Ta0 : TY S_21 a0 12 := ty_ext hx23 Ta0
  have hE : Ext S0 S_21 := Ext.tr hE hx23
  refine lv_aload_n hx hb dX12_sets_104 rfl (lv_at hl 0 rfl) ?_
  obtain ⟨q24, hq24, hm⟩ := bd_some hm
  have Tq24 : TY S_21 q24 14 := hw.wf.ref (k := 12) (j := 34) Ta0 (by decide) (by decide) hq24
  refine pg_rb (k := 12) (j := 34) (f := 1234) hx hb hown hU iu12 hw Ta0 (by decide) rfl (hU _ tw1505) rfl hq24 dX12_sets_105 ?_
  refine lv_iconst (v := 0) hx hb dX12_sets_108 (by decide) ?_
  refine lv_iconst (v := 0) hx hb dX12_sets_109 (by decide) ?_
  obtain ⟨hi25, hm⟩ := ck_some hm
  refine pw_iast hx hb hw Tq24 hi25 dX12_sets_110 (fun H locs hw => ?_)
  refine lv_aload_n hx hb dX12_sets_111 rfl (lv_at hl 0 rfl) ?_
  obtain ⟨q26, hq26, hm⟩ := bd_some hm
  have Tq26 : TY (sA S_21 q24 (Int32.toNatClampNeg 0) 0) q26 14 := hw.wf.ref (k := 12) (j := 34) Ta0 (by decide) (by decide) hq26
  refine pg_rb (k := 12) (j := 34) (f := 1234) hx hb hown hU iu12 hw Ta0 (by decide) rfl (hU _ tw1505) rfl hq26 dX12_sets_112 ?_
  refine lv_iconst (v := 1) hx hb dX12_sets_115 (by decide) ?_
  refine lv_iconst (v := 0) hx hb dX12_sets_116 (by decide) ?_
  obtain ⟨hi27, hm⟩ := ck_some hm
  refine pw_iast hx hb hw Tq26 hi27 dX12_sets_117 (fun H locs hw => ?_)
  obtain ⟨S_28, eS_28, hm⟩ := lt_some hm
  rw [← eS_28] at hw
  have Ta0 : TY S_28 a0 12 := by rw [eS_28]; exact Ta0
  have hE : Ext S0 S_28 := by rw [eS_28]; exact hE
  refine lv_aload_n hx hb dX12_sets_118 rfl (lv_at hl 0 rfl) ?_
  refine lv_iconst (v := 0) hx hb dX12_sets_119 (by decide) ?_
  refine pp_i (k := 12) (j := 51) (f := 1251) hx hb hown hU iu12 tyX12_ok nmX12 hw Ta0 (by decide) rfl (hU _ tw1522) rfl rfl rfl dX12_sets_120 (fun H locs hw => ?_)
  refine lv_aload_n hx hb dX12_sets_123 rfl (lv_at hl 0 rfl) ?_
  refine lv_iconst (v := 0) hx hb dX12_sets_124 (by decide) ?_
  refine pp_i (k := 12) (j := 41) (f := 1241) hx hb hown hU iu12 tyX12_ok nmX12 hw Ta0 (by decide) rfl (hU _ tw1512) rfl rfl rfl dX12_sets_125 (fun H locs hw => ?_)
  refine lv_aload_n hx hb dX12_sets_128 rfl (lv_at hl 0 rfl) ?_
  refine lv_iconst (v := 0) hx hb dX12_sets_129 (by decide) ?_
  refine pp_i (k := 12) (j := 72) (f := 1272) hx hb hown hU iu12 tyX12_ok nmX12 hw Ta0 (by decide) rfl (hU _ tw1543) rfl rfl rfl dX12_sets_130 (fun H locs hw => ?_)
  refine lv_aload_n hx hb dX12_sets_133 rfl (lv_at hl 0 rfl) ?_
  refine lv_iconst (v := 0) hx hb dX12_sets_134 (by decide) ?_
  refine pp_i (k := 12) (j := 42) (f := 1242) hx hb hown hU iu12 tyX12_ok nmX12 hw Ta0 (by decide) rfl (hU _ tw1513) rfl rfl rfl dX12_sets_135 (fun H locs hw => ?_)
  refine lv_iconst (v := 0) hx hb dX12_sets_138 (by decide) ?_
  refine lv_istore_n (lv' := [(1, .int 0), (0, .ref a0)]) hx hb dX12_sets_139 rfl hl (by decide) rfl (fun ls hl => ?_)
  exact wb_X12_sets_140 cx C X S0 n S1 n a0 0 (sI (sI (sI (sI S_28 1251 a0 0) 1241 a0 0) 1272 a0 0) 1242 a0 0) _ _ _ hw hE Ta0 (lv_sub hl [1, 0] rfl) hm
abbrev rm_X12_readRow : Room := { frames := 5, cells := 0, slots := 0, locals := 107 }
def b_X12_readRow_57 (n : Nat) (a0 : Nat) (S : pq_S) : Option pq_S := some (sI S 1218 a0 ((pI S 1218 a0) + (1 : Int32)))
set_option maxHeartbeats 4000000 in
set_option maxRecDepth 100000 in
theorem wb_X12_readRow_57 {p : Program} {l : Launch} {e : Env} {s : State} {m : MethodId} {args : Array Value} {below : List Frame} {meth : Method} {c : Code} (cx : Cx p s m args meth c cX12_readRow 4 RX12 none) (C : pq_C) (X : va_W) (S0 : pq_S) (n : Nat) (S1 : pq_S) : ∀ (a0 : Nat) (S : pq_S) (H : Heap) (locs : List Loc) (ls : Array Slot), PW C X S (pq_F C X S0 s.heap.size) H locs s → Ext S0 S → TY S a0 12 → lv_has ls 4 [(0, .ref a0)] → b_X12_readRow_57 n a0 S = some S1 → W p l e rm_X12_readRow s m args below meth c H locs 0 0 (MQ below (QcV C X S0 s.heap.size S1) args s 0 0 (pq_F C X S0 s.heap.size)) (F0 m 57 ls []) := by
  obtain ⟨hx, hb, hml, hown, hU, hr, hlk⟩ := id cx
  intro a0 S H locs ls hw hE Ta0 hl hm
  rw [b_X12_readRow_57] at hm
  refine lv_aload_n hx hb dX12_readRow_57 rfl (lv_at hl 0 rfl) ?_
  refine lv_dup hx hb dX12_readRow_58 rfl ?_
  refine pg_i (k := 12) (j := 18) (f := 1218) hx hb hown hU iu12 hw Ta0 (by decide) rfl (hU _ tw1489) rfl dX12_readRow_59 ?_
  refine lv_iconst (v := 1) hx hb dX12_readRow_62 (by decide) ?_
  refine lv_iadd hx hb dX12_readRow_63 ?_
  refine pp_i (k := 12) (j := 18) (f := 1218) hx hb hown hU iu12 tyX12_ok nmX12 hw Ta0 (by decide) rfl (hU _ tw1489) rfl rfl rfl dX12_readRow_64 (fun H locs hw => ?_)
  refine lv_goto (tgt := 288) hx hb dX12_readRow_67 (by decide) ?_
  cases hm
  exact pw_vret hx hb hr hlk hw hE dX12_readRow_288
def b_X12_readRow_31 (n : Nat) : Nat → Nat → Int32 → Int32 → pq_S → Option pq_S
  | 0, _, _, _, _ => none
  | f + 1, a0, x2, x3, S => if 4 ≤ x3 then b_X12_readRow_57 n a0 S else Option.bind (pR S 1210 a0) fun q89 => cb (m_X12_readNumber n a0 0 99 S) fun r92 S_90 => ck (ix (x2 + x3) (pN S_90 q89)) (dix _ _) (b_X12_readRow_31 n f a0 x2 (x3 + 1) (sA S_90 q89 (Int32.toNatClampNeg (x2 + x3)) r92))
set_option maxHeartbeats 4000000 in
set_option maxRecDepth 100000 in
theorem wb_X12_readRow_31 {p : Program} {l : Launch} {e : Env} {s : State} {m : MethodId} {args : Array Value} {below : List Frame} {meth : Method} {c : Code} (cx : Cx p s m args meth c cX12_readRow 4 RX12 none) (C : pq_C) (X : va_W) (S0 : pq_S) (n : Nat) (S1 : pq_S) : ∀ (f : Nat) (a0 : Nat) (x2 : Int32) (x3 : Int32) (S : pq_S) (H : Heap) (locs : List Loc) (ls : Array Slot), PW C X S (pq_F C X S0 s.heap.size) H locs s → Ext S0 S → TY S a0 12 → lv_has ls 4 [(0, .ref a0), (2, .int x2), (3, .int x3)] → b_X12_readRow_31 n f a0 x2 x3 S = some S1 → W p l e rm_X12_readRow s m args below meth c H locs 0 0 (MQ below (QcV C X S0 s.heap.size S1) args s 0 0 (pq_F C X S0 s.heap.size)) (F0 m 31 ls []) := by
  obtain ⟨hx, hb, hml, hown, hU, hr, hlk⟩ := id cx
  intro f
  induction f with
  | zero =>
    intro a0 x2 x3 S H locs ls hw hE Ta0 hl hm
    cases hm
  | succ f ih =>
    intro a0 x2 x3 S H locs ls hw hE Ta0 hl hm
    rw [b_X12_readRow_31] at hm
    refine lv_iload_n hx hb dX12_readRow_31 rfl (lv_at hl 2 rfl) ?_
    refine lv_iconst (v := 4) hx hb dX12_readRow_32 (by decide) ?_
    refine lv_icmp_ge (tgt := 57) hx hb dX12_readRow_33 (by decide) (fun h88 => ?_) (fun h88 => ?_)
    · rw [if_pos h88] at hm
      exact wb_X12_readRow_57 cx C X S0 n S1 a0 S _ _ _ hw hE Ta0 (lv_sub hl [0] rfl) hm
    · rw [if_neg h88] at hm
      refine lv_aload_n hx hb dX12_readRow_36 rfl (lv_at hl 0 rfl) ?_
      obtain ⟨q89, hq89, hm⟩ := bd_some hm
      have Tq89 : TY S q89 14 := hw.wf.ref (k := 12) (j := 10) Ta0 (by decide) (by decide) hq89
      refine pg_rb (k := 12) (j := 10) (f := 1210) hx hb hown hU iu12 hw Ta0 (by decide) rfl (hU _ tw1481) rfl hq89 dX12_readRow_37 ?_
      refine lv_iload_n hx hb dX12_readRow_40 rfl (lv_at hl 1 rfl) ?_
      refine lv_iload_n hx hb dX12_readRow_41 rfl (lv_at hl 2 rfl) ?_
      refine lv_iadd hx hb dX12_readRow_42 ?_
      refine lv_aload_n hx hb dX12_readRow_43 rfl (lv_at hl 0 rfl) ?_
      refine lv_iconst (v := 0) hx hb dX12_readRow_44 (by decide) ?_
      refine lv_bipush (v := 99) hx hb dX12_readRow_45 (by decide) ?_
      obtain ⟨r92, S_90, hq91, hm⟩ := cb_some hm
      refine pw_ci (va_runV (As := [.int 0, .int 99]) (rest := [.int (x2 + x3), .ref q89]) ⟨hx, hb, hml, hown, hU⟩ (c_X12_readNumber l C X n S hw.wf _ a0 0 99 (Ta0) r92 S_90 hq91) (cwV 2 hU (pq_gV tw1757 tw1759 ts133 tw14 tc_X12_readNumber) rfl rfl rfl cd_X12_readNumber ⟨Nat.le_of_ble_eq_true rfl, Nat.le_of_ble_eq_true rfl⟩) (pw_preV hw Ta0 (by decide) rfl) rfl rfl hl.1 rfl (lv_room (Nat.le_of_ble_eq_true rfl)) dX12_readRow_47 ⟨Nat.zero_le _, Nat.zero_le _⟩) hw (fun H locs hw hx93 => ?_)
      have Tq89 : TY S_90 q89 14 := ty_ext hx93 Tq89
      have Ta0 : TY S_90 a0 12 := ty_ext hx93 Ta0
      have hE : Ext S0 S_90 := Ext.tr hE hx93
      obtain ⟨hi94, hm⟩ := ck_some hm
      refine pw_iast hx hb hw Tq89 hi94 dX12_readRow_50 (fun H locs hw => ?_)
      refine lv_iinc (v := (x3 + 1)) (lv' := [(3, .int (x3 + 1)), (0, .ref a0), (2, .int x2)]) hx hb dX12_readRow_51 hl (k := 2) rfl rfl (by decide) rfl (fun ls hl => ?_)
      refine lv_goto (tgt := 31) hx hb dX12_readRow_54 (by decide) ?_
      exact ih a0 x2 (x3 + 1) (sA S_90 q89 (Int32.toNatClampNeg (x2 + x3)) r92) _ _ _ hw hE Ta0 (lv_sub hl [1, 2, 0] rfl) hm
def m_X12_readRow (n : Nat) (a0 : Nat) (x1 : Int32) (S0 : pq_S) : Option pq_S := cb (m_X12_of n 0 S0) fun r3 S_1 => if x1 = r3 then Option.bind (pR S_1 1210 a0) fun q81 => cb (m_X12_readNumber n a0 0 40 S_1) fun r84 S_82 => ck (ix ((4 : Int32) * (pI S_1 1218 a0)) (pN S_82 q81)) (dix _ _) (lt_ (sA S_82 q81 (Int32.toNatClampNeg ((4 : Int32) * (pI S_1 1218 a0))) r84) fun S_87 => b_X12_readRow_31 n n a0 ((4 : Int32) * (pI S_1 1218 a0)) 1 S_87) else cb (m_X12_of n 1 S_1) fun r8 S_6 => if x1 = r8 then Option.bind (pR S_6 1211 a0) fun q53 => cb (m_X12_readNumber n a0 0 ((pI S_6 1218 a0) - (1 : Int32)) S_6) fun r56 S_54 => ck (ix ((4 : Int32) * (pI S_6 1219 a0)) (pN S_54 q53)) (dix _ _) (lt_ (sA S_54 q53 (Int32.toNatClampNeg ((4 : Int32) * (pI S_6 1219 a0))) r56) fun S_59 => Option.bind (pR S_59 1211 a0) fun q60 => cb (m_X12_readNumber n a0 1 12 S_59) fun r63 S_61 => ck (ix (((4 : Int32) * (pI S_6 1219 a0)) + (1 : Int32)) (pN S_61 q60)) (dix _ _) (lt_ (sA S_61 q60 (Int32.toNatClampNeg (((4 : Int32) * (pI S_6 1219 a0)) + (1 : Int32))) r63) fun S_66 => Option.bind (pR S_66 1211 a0) fun q67 => cb (m_X12_readNumber n a0 0 1 S_66) fun r70 S_68 => ck (ix (((4 : Int32) * (pI S_6 1219 a0)) + (2 : Int32)) (pN S_68 q67)) (dix _ _) (lt_ (sA S_68 q67 (Int32.toNatClampNeg (((4 : Int32) * (pI S_6 1219 a0)) + (2 : Int32))) r70) fun S_73 => Option.bind (pR S_73 1211 a0) fun q74 => cb (m_X12_readNumber n a0 0 99 S_73) fun r77 S_75 => ck (ix (((4 : Int32) * (pI S_6 1219 a0)) + (3 : Int32)) (pN S_75 q74)) (dix _ _) (lt_ (sA S_75 q74 (Int32.toNatClampNeg (((4 : Int32) * (pI S_6 1219 a0)) + (3 : Int32))) r77) fun S_80 => some (sI S_80 1219 a0 ((pI S_80 1219 a0) + (1 : Int32))))))) else cb (m_X12_of n 2 S_6) fun r13 S_11 => if x1 = r13 then Option.bind (pR S_11 1212 a0) fun q32 => cb (m_X12_readNumber n a0 0 ((pI S_11 1218 a0) - (1 : Int32)) S_11) fun r35 S_33 => ck (ix ((3 : Int32) * (pI S_11 1220 a0)) (pN S_33 q32)) (dix _ _) (lt_ (sA S_33 q32 (Int32.toNatClampNeg ((3 : Int32) * (pI S_11 1220 a0))) r35) fun S_38 => Option.bind (pR S_38 1212 a0) fun q39 => cb (m_X12_readNumber n a0 0 400 S_38) fun r42 S_40 => ck (ix (((3 : Int32) * (pI S_11 1220 a0)) + (1 : Int32)) (pN S_40 q39)) (dix _ _) (lt_ (sA S_40 q39 (Int32.toNatClampNeg (((3 : Int32) * (pI S_11 1220 a0)) + (1 : Int32))) r42) fun S_45 => Option.bind (pR S_45 1212 a0) fun q46 => cb (m_X12_readNumber n a0 0 11 S_45) fun r49 S_47 => ck (ix (((3 : Int32) * (pI S_11 1220 a0)) + (2 : Int32)) (pN S_47 q46)) (dix _ _) (lt_ (sA S_47 q46 (Int32.toNatClampNeg (((3 : Int32) * (pI S_11 1220 a0)) + (2 : Int32))) r49) fun S_52 => some (sI S_52 1220 a0 ((pI S_52 1220 a0) + (1 : Int32)))))) else Option.bind (pR S_11 1213 a0) fun q16 => cb (m_X12_readNumber n a0 1 30 S_11) fun r19 S_17 => ck (ix ((2 : Int32) * (pI S_11 1221 a0)) (pN S_17 q16)) (dix _ _) (lt_ (sA S_17 q16 (Int32.toNatClampNeg ((2 : Int32) * (pI S_11 1221 a0))) r19) fun S_22 => Option.bind (pR S_22 1213 a0) fun q23 => Option.bind (pR S_22 1213 a0) fun q24 => ck (ix ((2 : Int32) * (pI S_11 1221 a0)) (pN S_22 q24)) (dix _ _) (cb (m_X12_readNumber n a0 0 ((pA S_22 q24 (Int32.toNatClampNeg ((2 : Int32) * (pI S_11 1221 a0)))) - (1 : Int32)) S_22) fun r28 S_26 => ck (ix (((2 : Int32) * (pI S_11 1221 a0)) + (1 : Int32)) (pN S_26 q23)) (dix _ _) (lt_ (sA S_26 q23 (Int32.toNatClampNeg (((2 : Int32) * (pI S_11 1221 a0)) + (1 : Int32))) r28) fun S_31 => some (sI S_31 1221 a0 ((pI S_31 1221 a0) + (1 : Int32))))))
theorem tc_X12_readRow : Cond.code yX12_readRow cX12_readRow 4 none ∈ pq_U := tw1756
theorem cd_X12_readRow : yX12_readRow.cls = RX12 ∧ yX12_readRow.cls ≠ "java/lang/invoke/MethodHandle" ∧ yX12_readRow.cls ≠ "java/lang/invoke/VarHandle" ∧ (parseMethodDescriptor yX12_readRow.desc).map (fun d => d.parameters.length) = some 1 := by decide +kernel
set_option maxHeartbeats 4000000 in
set_option maxRecDepth 100000 in
theorem c_X12_readRow (l : Launch) (C : pq_C) (X : va_W) (n : Nat) (S0 : pq_S) (hF : WF S0) (sz : Nat) (a0 : Nat) (x1 : Int32) (Ta0 : TY S0 a0 12) (S1 : pq_S) (hm : m_X12_readRow n a0 x1 S0 = some S1) : MV l yX12_readRow (.code yX12_readRow cX12_readRow 4 none :: pq_U) rm_X12_readRow C X S0 sz [.ref a0, .int x1] S1 0 0 := by
  refine Met.ofW (cc := cX12_readRow) (maxL := 4) (ret := none) (by decide) rfl ?_
  intro p e s m args below meth c s₁ B hml hv
  obtain ⟨rfl, hv⟩ := hv
  have hsz := hv.1
  subst hsz
  have hw := pw_entry hF hv
  have hts := atoms_spec (ws := .code yX12_readRow cX12_readRow 4 none :: pq_U) B.pre
  have hU : ∀ w ∈ pq_U, w.before _ s = true := fun w h => hts w (List.mem_cons_of_mem _ h)
  have hx := B.exec
  have hb := B.bytes
  have hr := B.returns
  have hown : s.vm.findClass RX12 = some m.cls := findClass_of_methodNamed B.named
  have hlk := B.notSynchronized
  have hl := lv_entry ([.ref a0, .int x1]) (n := 4) (Nat.le_of_ble_eq_true rfl)
  rw [lg_entry_eq]
  generalize (lg_sl ([.ref a0, .int x1]) ++ List.replicate (4 - (lg_sl ([.ref a0, .int x1])).length) Slot.unset).toArray = ls at hl ⊢
  have hl : lv_has ls 4 [(0, .ref a0), (1, .int x1)] := hl
  have hE : Ext S0 S0 := Ext.rf _
  have cx : Cx p s m _ meth c cX12_readRow 4 RX12 none := ⟨hx, hb, hml, hown, hU, hr, hlk⟩
  rw [m_X12_readRow] at hm
  refine lv_iload_n hx hb dX12_readRow_0 rfl (lv_at hl 1 rfl) ?_
  refine va_ldcS hx hb hown (hw.str 21 rfl) dX12_readRow_1 ?_
  obtain ⟨r3, S_1, hq2, hm⟩ := cb_some hm
  refine pw_ci (va_runS (As := [.ref (C.2.2.2.2.2.2.1 0)]) (rest := [.int x1]) ⟨hx, hb, hml, hown, hU⟩ (c_X12_of l C X n S0 hw.wf _ 0 ((by decide)) r3 S_1 hq2) ⟨callB_of 1 hU (pq_g1 tc_X12_of) rfl rfl rfl (hU _ tw14) (hU _ tw1731) cd_X12_of.2 ⟨Nat.le_of_ble_eq_true rfl, Nat.le_of_ble_eq_true rfl⟩, hU _ tw1732⟩ (pw_preS hw) rfl rfl hl.1 rfl (lv_room (Nat.le_of_ble_eq_true rfl)) dX12_readRow_3 ⟨Nat.zero_le _, Nat.zero_le _⟩) hw (fun H locs hw hx4 => ?_)
  have Ta0 : TY S_1 a0 12 := ty_ext hx4 Ta0
  have hE : Ext S0 S_1 := Ext.tr hE hx4
  refine lv_icmp_ne (tgt := 70) hx hb dX12_readRow_6 (by decide) (fun h5 => ?_) (fun h5 => ?_)
  · rw [if_neg h5] at hm
    refine lv_iload_n hx hb dX12_readRow_70 rfl (lv_at hl 1 rfl) ?_
    refine va_ldcS hx hb hown (hw.str 22 rfl) dX12_readRow_71 ?_
    obtain ⟨r8, S_6, hq7, hm⟩ := cb_some hm
    refine pw_ci (va_runS (As := [.ref (C.2.2.2.2.2.2.1 1)]) (rest := [.int x1]) ⟨hx, hb, hml, hown, hU⟩ (c_X12_of l C X n S_1 hw.wf _ 1 ((by decide)) r8 S_6 hq7) ⟨callB_of 1 hU (pq_g1 tc_X12_of) rfl rfl rfl (hU _ tw14) (hU _ tw1731) cd_X12_of.2 ⟨Nat.le_of_ble_eq_true rfl, Nat.le_of_ble_eq_true rfl⟩, hU _ tw1732⟩ (pw_preS hw) rfl rfl hl.1 rfl (lv_room (Nat.le_of_ble_eq_true rfl)) dX12_readRow_73 ⟨Nat.zero_le _, Nat.zero_le _⟩) hw (fun H locs hw hx9 => ?_)
    have Ta0 : TY S_6 a0 12 := ty_ext hx9 Ta0
    have hE : Ext S0 S_6 := Ext.tr hE hx9
    refine lv_icmp_ne (tgt := 160) hx hb dX12_readRow_76 (by decide) (fun h10 => ?_) (fun h10 => ?_)
    · rw [if_neg h10] at hm
      refine lv_iload_n hx hb dX12_readRow_160 rfl (lv_at hl 1 rfl) ?_
      refine va_ldcS hx hb hown (hw.str 23 rfl) dX12_readRow_161 ?_
      obtain ⟨r13, S_11, hq12, hm⟩ := cb_some hm
      refine pw_ci (va_runS (As := [.ref (C.2.2.2.2.2.2.1 2)]) (rest := [.int x1]) ⟨hx, hb, hml, hown, hU⟩ (c_X12_of l C X n S_6 hw.wf _ 2 ((by decide)) r13 S_11 hq12) ⟨callB_of 1 hU (pq_g1 tc_X12_of) rfl rfl rfl (hU _ tw14) (hU _ tw1731) cd_X12_of.2 ⟨Nat.le_of_ble_eq_true rfl, Nat.le_of_ble_eq_true rfl⟩, hU _ tw1732⟩ (pw_preS hw) rfl rfl hl.1 rfl (lv_room (Nat.le_of_ble_eq_true rfl)) dX12_readRow_163 ⟨Nat.zero_le _, Nat.zero_le _⟩) hw (fun H locs hw hx14 => ?_)
      have Ta0 : TY S_11 a0 12 := ty_ext hx14 Ta0
      have hE : Ext S0 S_11 := Ext.tr hE hx14
      refine lv_icmp_ne (tgt := 237) hx hb dX12_readRow_166 (by decide) (fun h15 => ?_) (fun h15 => ?_)
      · rw [if_neg h15] at hm
        refine lv_iconst (v := 2) hx hb dX12_readRow_237 (by decide) ?_
        refine lv_aload_n hx hb dX12_readRow_238 rfl (lv_at hl 0 rfl) ?_
        refine pg_i (k := 12) (j := 21) (f := 1221) hx hb hown hU iu12 hw Ta0 (by decide) rfl (hU _ tw1492) rfl dX12_readRow_239 ?_
        refine lv_imul hx hb dX12_readRow_242 ?_
        refine lv_istore_n (lv' := [(2, .int ((2 : Int32) * (pI S_11 1221 a0))), (0, .ref a0), (1, .int x1)]) hx hb dX12_readRow_243 rfl hl (by decide) rfl (fun ls hl => ?_)
        refine lv_aload_n hx hb dX12_readRow_244 rfl (lv_at hl 1 rfl) ?_
        obtain ⟨q16, hq16, hm⟩ := bd_some hm
        have Tq16 : TY S_11 q16 14 := hw.wf.ref (k := 12) (j := 13) Ta0 (by decide) (by decide) hq16
        refine pg_rb (k := 12) (j := 13) (f := 1213) hx hb hown hU iu12 hw Ta0 (by decide) rfl (hU _ tw1484) rfl hq16 dX12_readRow_245 ?_
        refine lv_iload_n hx hb dX12_readRow_248 rfl (lv_at hl 0 rfl) ?_
        refine lv_aload_n hx hb dX12_readRow_249 rfl (lv_at hl 1 rfl) ?_
        refine lv_iconst (v := 1) hx hb dX12_readRow_250 (by decide) ?_
        refine lv_bipush (v := 30) hx hb dX12_readRow_251 (by decide) ?_
        obtain ⟨r19, S_17, hq18, hm⟩ := cb_some hm
        refine pw_ci (va_runV (As := [.int 1, .int 30]) (rest := [.int ((2 : Int32) * (pI S_11 1221 a0)), .ref q16]) ⟨hx, hb, hml, hown, hU⟩ (c_X12_readNumber l C X n S_11 hw.wf _ a0 1 30 (Ta0) r19 S_17 hq18) (cwV 2 hU (pq_gV tw1757 tw1759 ts133 tw14 tc_X12_readNumber) rfl rfl rfl cd_X12_readNumber ⟨Nat.le_of_ble_eq_true rfl, Nat.le_of_ble_eq_true rfl⟩) (pw_preV hw Ta0 (by decide) rfl) rfl rfl hl.1 rfl (lv_room (Nat.le_of_ble_eq_true rfl)) dX12_readRow_253 ⟨Nat.zero_le _, Nat.zero_le _⟩) hw (fun H locs hw hx20 => ?_)
        have Tq16 : TY S_17 q16 14 := ty_ext hx20 Tq16
        have Ta0 : TY S_17 a0 12 := ty_ext hx20 Ta0
        have hE : Ext S0 S_17 := Ext.tr hE hx20
        obtain ⟨hi21, hm⟩ := ck_some hm
        refine pw_iast hx hb hw Tq16 hi21 dX12_readRow_256 (fun H locs hw => ?_)
        obtain ⟨S_22, eS_22, hm⟩ := lt_some hm
        rw [← eS_22] at hw
        have Ta0 : TY S_22 a0 12 := by rw [eS_22]; exact Ta0
        have hE : Ext S0 S_22 := by rw [eS_22]; exact hE
        refine lv_aload_n hx hb dX12_readRow_257 rfl (lv_at hl 1 rfl) ?_
        obtain ⟨q23, hq23, hm⟩ := bd_some hm
        have Tq23 : TY S_22 q23 14 := hw.wf.ref (k := 12) (j := 13) Ta0 (by decide) (by decide) hq23
        refine pg_rb (k := 12) (j := 13) (f := 1213) hx hb hown hU iu12 hw Ta0 (by decide) rfl (hU _ tw1484) rfl hq23 dX12_readRow_258 ?_
        refine lv_iload_n hx hb dX12_readRow_261 rfl (lv_at hl 0 rfl) ?_
        refine lv_iconst (v := 1) hx hb dX12_readRow_262 (by decide) ?_
        refine lv_iadd hx hb dX12_readRow_263 ?_
        refine lv_aload_n hx hb dX12_readRow_264 rfl (lv_at hl 1 rfl) ?_
        refine lv_iconst (v := 0) hx hb dX12_readRow_265 (by decide) ?_
        refine lv_aload_n hx hb dX12_readRow_266 rfl (lv_at hl 1 rfl) ?_
        obtain ⟨q24, hq24, hm⟩ := bd_some hm
        have Tq24 : TY S_22 q24 14 := hw.wf.ref (k := 12) (j := 13) Ta0 (by decide) (by decide) hq24
        refine pg_rb (k := 12) (j := 13) (f := 1213) hx hb hown hU iu12 hw Ta0 (by decide) rfl (hU _ tw1484) rfl hq24 dX12_readRow_267 ?_
        refine lv_iload_n hx hb dX12_readRow_270 rfl (lv_at hl 0 rfl) ?_
        obtain ⟨hi25, hm⟩ := ck_some hm
        refine pw_iald hx hb hw Tq24 hi25 dX12_readRow_271 ?_
        refine lv_iconst (v := 1) hx hb dX12_readRow_272 (by decide) ?_
        refine lv_isub hx hb dX12_readRow_273 ?_
        obtain ⟨r28, S_26, hq27, hm⟩ := cb_some hm
        refine pw_ci (va_runV (As := [.int 0, .int ((pA S_22 q24 (Int32.toNatClampNeg ((2 : Int32) * (pI S_11 1221 a0)))) - (1 : Int32))]) (rest := [.int (((2 : Int32) * (pI S_11 1221 a0)) + (1 : Int32)), .ref q23]) ⟨hx, hb, hml, hown, hU⟩ (c_X12_readNumber l C X n S_22 hw.wf _ a0 0 ((pA S_22 q24 (Int32.toNatClampNeg ((2 : Int32) * (pI S_11 1221 a0)))) - (1 : Int32)) (Ta0) r28 S_26 hq27) (cwV 2 hU (pq_gV tw1757 tw1759 ts133 tw14 tc_X12_readNumber) rfl rfl rfl cd_X12_readNumber ⟨Nat.le_of_ble_eq_true rfl, Nat.le_of_ble_eq_true rfl⟩) (pw_preV hw Ta0 (by decide) rfl) rfl rfl hl.1 rfl (lv_room (Nat.le_of_ble_eq_true rfl)) dX12_readRow_274 ⟨Nat.zero_le _, Nat.zero_le _⟩) hw (fun H locs hw hx29 => ?_)
        have Tq23 : TY S_26 q23 14 := ty_ext hx29 Tq23
        have Ta0 : TY S_26 a0 12 := ty_ext hx29 Ta0
        have hE : Ext S0 S_26 := Ext.tr hE hx29
        obtain ⟨hi30, hm⟩ := ck_some hm
        refine pw_iast hx hb hw Tq23 hi30 dX12_readRow_277 (fun H locs hw => ?_)
        obtain ⟨S_31, eS_31, hm⟩ := lt_some hm
        rw [← eS_31] at hw
        have Ta0 : TY S_31 a0 12 := by rw [eS_31]; exact Ta0
        have hE : Ext S0 S_31 := by rw [eS_31]; exact hE
        refine lv_aload_n hx hb dX12_readRow_278 rfl (lv_at hl 1 rfl) ?_
        refine lv_dup hx hb dX12_readRow_279 rfl ?_
        refine pg_i (k := 12) (j := 21) (f := 1221) hx hb hown hU iu12 hw Ta0 (by decide) rfl (hU _ tw1492) rfl dX12_readRow_280 ?_
        refine lv_iconst (v := 1) hx hb dX12_readRow_283 (by decide) ?_
        refine lv_iadd hx hb dX12_readRow_284 ?_
        refine pp_i (k := 12) (j := 21) (f := 1221) hx hb hown hU iu12 tyX12_ok nmX12 hw Ta0 (by decide) rfl (hU _ tw1492) rfl rfl rfl dX12_readRow_285 (fun H locs hw => ?_)
        cases hm
        exact pw_vret hx hb hr hlk hw hE dX12_readRow_288
      · rw [if_pos h15] at hm
        refine lv_iconst (v := 3) hx hb dX12_readRow_169 (by decide) ?_
        refine lv_aload_n hx hb dX12_readRow_170 rfl (lv_at hl 0 rfl) ?_
        refine pg_i (k := 12) (j := 20) (f := 1220) hx hb hown hU iu12 hw Ta0 (by decide) rfl (hU _ tw1491) rfl dX12_readRow_171 ?_
        refine lv_imul hx hb dX12_readRow_174 ?_
        refine lv_istore_n (lv' := [(2, .int ((3 : Int32) * (pI S_11 1220 a0))), (0, .ref a0), (1, .int x1)]) hx hb dX12_readRow_175 rfl hl (by decide) rfl (fun ls hl => ?_)
        refine lv_aload_n hx hb dX12_readRow_176 rfl (lv_at hl 1 rfl) ?_
        obtain ⟨q32, hq32, hm⟩ := bd_some hm
        have Tq32 : TY S_11 q32 14 := hw.wf.ref (k := 12) (j := 12) Ta0 (by decide) (by decide) hq32
        refine pg_rb (k := 12) (j := 12) (f := 1212) hx hb hown hU iu12 hw Ta0 (by decide) rfl (hU _ tw1483) rfl hq32 dX12_readRow_177 ?_
        refine lv_iload_n hx hb dX12_readRow_180 rfl (lv_at hl 0 rfl) ?_
        refine lv_aload_n hx hb dX12_readRow_181 rfl (lv_at hl 1 rfl) ?_
        refine lv_iconst (v := 0) hx hb dX12_readRow_182 (by decide) ?_
        refine lv_aload_n hx hb dX12_readRow_183 rfl (lv_at hl 1 rfl) ?_
        refine pg_i (k := 12) (j := 18) (f := 1218) hx hb hown hU iu12 hw Ta0 (by decide) rfl (hU _ tw1489) rfl dX12_readRow_184 ?_
        refine lv_iconst (v := 1) hx hb dX12_readRow_187 (by decide) ?_
        refine lv_isub hx hb dX12_readRow_188 ?_
        obtain ⟨r35, S_33, hq34, hm⟩ := cb_some hm
        refine pw_ci (va_runV (As := [.int 0, .int ((pI S_11 1218 a0) - (1 : Int32))]) (rest := [.int ((3 : Int32) * (pI S_11 1220 a0)), .ref q32]) ⟨hx, hb, hml, hown, hU⟩ (c_X12_readNumber l C X n S_11 hw.wf _ a0 0 ((pI S_11 1218 a0) - (1 : Int32)) (Ta0) r35 S_33 hq34) (cwV 2 hU (pq_gV tw1757 tw1759 ts133 tw14 tc_X12_readNumber) rfl rfl rfl cd_X12_readNumber ⟨Nat.le_of_ble_eq_true rfl, Nat.le_of_ble_eq_true rfl⟩) (pw_preV hw Ta0 (by decide) rfl) rfl rfl hl.1 rfl (lv_room (Nat.le_of_ble_eq_true rfl)) dX12_readRow_189 ⟨Nat.zero_le _, Nat.zero_le _⟩) hw (fun H locs hw hx36 => ?_)
        have Tq32 : TY S_33 q32 14 := ty_ext hx36 Tq32
        have Ta0 : TY S_33 a0 12 := ty_ext hx36 Ta0
        have hE : Ext S0 S_33 := Ext.tr hE hx36
        obtain ⟨hi37, hm⟩ := ck_some hm
        refine pw_iast hx hb hw Tq32 hi37 dX12_readRow_192 (fun H locs hw => ?_)
        obtain ⟨S_38, eS_38, hm⟩ := lt_some hm
        rw [← eS_38] at hw
        have Ta0 : TY S_38 a0 12 := by rw [eS_38]; exact Ta0
        have hE : Ext S0 S_38 := by rw [eS_38]; exact hE
        refine lv_aload_n hx hb dX12_readRow_193 rfl (lv_at hl 1 rfl) ?_
        obtain ⟨q39, hq39, hm⟩ := bd_some hm
        have Tq39 : TY S_38 q39 14 := hw.wf.ref (k := 12) (j := 12) Ta0 (by decide) (by decide) hq39
        refine pg_rb (k := 12) (j := 12) (f := 1212) hx hb hown hU iu12 hw Ta0 (by decide) rfl (hU _ tw1483) rfl hq39 dX12_readRow_194 ?_
        refine lv_iload_n hx hb dX12_readRow_197 rfl (lv_at hl 0 rfl) ?_
        refine lv_iconst (v := 1) hx hb dX12_readRow_198 (by decide) ?_
        refine lv_iadd hx hb dX12_readRow_199 ?_
        refine lv_aload_n hx hb dX12_readRow_200 rfl (lv_at hl 1 rfl) ?_
        refine lv_iconst (v := 0) hx hb dX12_readRow_201 (by decide) ?_
        refine lv_sipush (v := 400) hx hb dX12_readRow_202 (by decide) ?_
        obtain ⟨r42, S_40, hq41, hm⟩ := cb_some hm
        refine pw_ci (va_runV (As := [.int 0, .int 400]) (rest := [.int (((3 : Int32) * (pI S_11 1220 a0)) + (1 : Int32)), .ref q39]) ⟨hx, hb, hml, hown, hU⟩ (c_X12_readNumber l C X n S_38 hw.wf _ a0 0 400 (Ta0) r42 S_40 hq41) (cwV 2 hU (pq_gV tw1757 tw1759 ts133 tw14 tc_X12_readNumber) rfl rfl rfl cd_X12_readNumber ⟨Nat.le_of_ble_eq_true rfl, Nat.le_of_ble_eq_true rfl⟩) (pw_preV hw Ta0 (by decide) rfl) rfl rfl hl.1 rfl (lv_room (Nat.le_of_ble_eq_true rfl)) dX12_readRow_205 ⟨Nat.zero_le _, Nat.zero_le _⟩) hw (fun H locs hw hx43 => ?_)
        have Tq39 : TY S_40 q39 14 := ty_ext hx43 Tq39
        have Ta0 : TY S_40 a0 12 := ty_ext hx43 Ta0
        have hE : Ext S0 S_40 := Ext.tr hE hx43
        obtain ⟨hi44, hm⟩ := ck_some hm
        refine pw_iast hx hb hw Tq39 hi44 dX12_readRow_208 (fun H locs hw => ?_)
        obtain ⟨S_45, eS_45, hm⟩ := lt_some hm
        rw [← eS_45] at hw
        have Ta0 : TY S_45 a0 12 := by rw [eS_45]; exact Ta0
        have hE : Ext S0 S_45 := by rw [eS_45]; exact hE
        refine lv_aload_n hx hb dX12_readRow_209 rfl (lv_at hl 1 rfl) ?_
        obtain ⟨q46, hq46, hm⟩ := bd_some hm
        have Tq46 : TY S_45 q46 14 := hw.wf.ref (k := 12) (j := 12) Ta0 (by decide) (by decide) hq46
        refine pg_rb (k := 12) (j := 12) (f := 1212) hx hb hown hU iu12 hw Ta0 (by decide) rfl (hU _ tw1483) rfl hq46 dX12_readRow_210 ?_
        refine lv_iload_n hx hb dX12_readRow_213 rfl (lv_at hl 0 rfl) ?_
        refine lv_iconst (v := 2) hx hb dX12_readRow_214 (by decide) ?_
        refine lv_iadd hx hb dX12_readRow_215 ?_
        refine lv_aload_n hx hb dX12_readRow_216 rfl (lv_at hl 1 rfl) ?_
        refine lv_iconst (v := 0) hx hb dX12_readRow_217 (by decide) ?_
        refine lv_bipush (v := 11) hx hb dX12_readRow_218 (by decide) ?_
        obtain ⟨r49, S_47, hq48, hm⟩ := cb_some hm
        refine pw_ci (va_runV (As := [.int 0, .int 11]) (rest := [.int (((3 : Int32) * (pI S_11 1220 a0)) + (2 : Int32)), .ref q46]) ⟨hx, hb, hml, hown, hU⟩ (c_X12_readNumber l C X n S_45 hw.wf _ a0 0 11 (Ta0) r49 S_47 hq48) (cwV 2 hU (pq_gV tw1757 tw1759 ts133 tw14 tc_X12_readNumber) rfl rfl rfl cd_X12_readNumber ⟨Nat.le_of_ble_eq_true rfl, Nat.le_of_ble_eq_true rfl⟩) (pw_preV hw Ta0 (by decide) rfl) rfl rfl hl.1 rfl (lv_room (Nat.le_of_ble_eq_true rfl)) dX12_readRow_220 ⟨Nat.zero_le _, Nat.zero_le _⟩) hw (fun H locs hw hx50 => ?_)
        have Tq46 : TY S_47 q46 14 := ty_ext hx50 Tq46
        have Ta0 : TY S_47 a0 12 := ty_ext hx50 Ta0
        have hE : Ext S0 S_47 := Ext.tr hE hx50
        obtain ⟨hi51, hm⟩ := ck_some hm
        refine pw_iast hx hb hw Tq46 hi51 dX12_readRow_223 (fun H locs hw => ?_)
        obtain ⟨S_52, eS_52, hm⟩ := lt_some hm
        rw [← eS_52] at hw
        have Ta0 : TY S_52 a0 12 := by rw [eS_52]; exact Ta0
        have hE : Ext S0 S_52 := by rw [eS_52]; exact hE
        refine lv_aload_n hx hb dX12_readRow_224 rfl (lv_at hl 1 rfl) ?_
        refine lv_dup hx hb dX12_readRow_225 rfl ?_
        refine pg_i (k := 12) (j := 20) (f := 1220) hx hb hown hU iu12 hw Ta0 (by decide) rfl (hU _ tw1491) rfl dX12_readRow_226 ?_
        refine lv_iconst (v := 1) hx hb dX12_readRow_229 (by decide) ?_
        refine lv_iadd hx hb dX12_readRow_230 ?_
        refine pp_i (k := 12) (j := 20) (f := 1220) hx hb hown hU iu12 tyX12_ok nmX12 hw Ta0 (by decide) rfl (hU _ tw1491) rfl rfl rfl dX12_readRow_231 (fun H locs hw => ?_)
        refine lv_goto (tgt := 288) hx hb dX12_readRow_234 (by decide) ?_
        cases hm
        exact pw_vret hx hb hr hlk hw hE dX12_readRow_288
    · rw [if_pos h10] at hm
      refine lv_iconst (v := 4) hx hb dX12_readRow_79 (by decide) ?_
      refine lv_aload_n hx hb dX12_readRow_80 rfl (lv_at hl 0 rfl) ?_
      refine pg_i (k := 12) (j := 19) (f := 1219) hx hb hown hU iu12 hw Ta0 (by decide) rfl (hU _ tw1490) rfl dX12_readRow_81 ?_
      refine lv_imul hx hb dX12_readRow_84 ?_
      refine lv_istore_n (lv' := [(2, .int ((4 : Int32) * (pI S_6 1219 a0))), (0, .ref a0), (1, .int x1)]) hx hb dX12_readRow_85 rfl hl (by decide) rfl (fun ls hl => ?_)
      refine lv_aload_n hx hb dX12_readRow_86 rfl (lv_at hl 1 rfl) ?_
      obtain ⟨q53, hq53, hm⟩ := bd_some hm
      have Tq53 : TY S_6 q53 14 := hw.wf.ref (k := 12) (j := 11) Ta0 (by decide) (by decide) hq53
      refine pg_rb (k := 12) (j := 11) (f := 1211) hx hb hown hU iu12 hw Ta0 (by decide) rfl (hU _ tw1482) rfl hq53 dX12_readRow_87 ?_
      refine lv_iload_n hx hb dX12_readRow_90 rfl (lv_at hl 0 rfl) ?_
      refine lv_aload_n hx hb dX12_readRow_91 rfl (lv_at hl 1 rfl) ?_
      refine lv_iconst (v := 0) hx hb dX12_readRow_92 (by decide) ?_
      refine lv_aload_n hx hb dX12_readRow_93 rfl (lv_at hl 1 rfl) ?_
      refine pg_i (k := 12) (j := 18) (f := 1218) hx hb hown hU iu12 hw Ta0 (by decide) rfl (hU _ tw1489) rfl dX12_readRow_94 ?_
      refine lv_iconst (v := 1) hx hb dX12_readRow_97 (by decide) ?_
      refine lv_isub hx hb dX12_readRow_98 ?_
      obtain ⟨r56, S_54, hq55, hm⟩ := cb_some hm
      refine pw_ci (va_runV (As := [.int 0, .int ((pI S_6 1218 a0) - (1 : Int32))]) (rest := [.int ((4 : Int32) * (pI S_6 1219 a0)), .ref q53]) ⟨hx, hb, hml, hown, hU⟩ (c_X12_readNumber l C X n S_6 hw.wf _ a0 0 ((pI S_6 1218 a0) - (1 : Int32)) (Ta0) r56 S_54 hq55) (cwV 2 hU (pq_gV tw1757 tw1759 ts133 tw14 tc_X12_readNumber) rfl rfl rfl cd_X12_readNumber ⟨Nat.le_of_ble_eq_true rfl, Nat.le_of_ble_eq_true rfl⟩) (pw_preV hw Ta0 (by decide) rfl) rfl rfl hl.1 rfl (lv_room (Nat.le_of_ble_eq_true rfl)) dX12_readRow_99 ⟨Nat.zero_le _, Nat.zero_le _⟩) hw (fun H locs hw hx57 => ?_)
      have Tq53 : TY S_54 q53 14 := ty_ext hx57 Tq53
      have Ta0 : TY S_54 a0 12 := ty_ext hx57 Ta0
      have hE : Ext S0 S_54 := Ext.tr hE hx57
      obtain ⟨hi58, hm⟩ := ck_some hm
      refine pw_iast hx hb hw Tq53 hi58 dX12_readRow_102 (fun H locs hw => ?_)
      obtain ⟨S_59, eS_59, hm⟩ := lt_some hm
      rw [← eS_59] at hw
      have Ta0 : TY S_59 a0 12 := by rw [eS_59]; exact Ta0
      have hE : Ext S0 S_59 := by rw [eS_59]; exact hE
      refine lv_aload_n hx hb dX12_readRow_103 rfl (lv_at hl 1 rfl) ?_
      obtain ⟨q60, hq60, hm⟩ := bd_some hm
      have Tq60 : TY S_59 q60 14 := hw.wf.ref (k := 12) (j := 11) Ta0 (by decide) (by decide) hq60
      refine pg_rb (k := 12) (j := 11) (f := 1211) hx hb hown hU iu12 hw Ta0 (by decide) rfl (hU _ tw1482) rfl hq60 dX12_readRow_104 ?_
      refine lv_iload_n hx hb dX12_readRow_107 rfl (lv_at hl 0 rfl) ?_
      refine lv_iconst (v := 1) hx hb dX12_readRow_108 (by decide) ?_
      refine lv_iadd hx hb dX12_readRow_109 ?_
      refine lv_aload_n hx hb dX12_readRow_110 rfl (lv_at hl 1 rfl) ?_
      refine lv_iconst (v := 1) hx hb dX12_readRow_111 (by decide) ?_
      refine lv_bipush (v := 12) hx hb dX12_readRow_112 (by decide) ?_
      obtain ⟨r63, S_61, hq62, hm⟩ := cb_some hm
      refine pw_ci (va_runV (As := [.int 1, .int 12]) (rest := [.int (((4 : Int32) * (pI S_6 1219 a0)) + (1 : Int32)), .ref q60]) ⟨hx, hb, hml, hown, hU⟩ (c_X12_readNumber l C X n S_59 hw.wf _ a0 1 12 (Ta0) r63 S_61 hq62) (cwV 2 hU (pq_gV tw1757 tw1759 ts133 tw14 tc_X12_readNumber) rfl rfl rfl cd_X12_readNumber ⟨Nat.le_of_ble_eq_true rfl, Nat.le_of_ble_eq_true rfl⟩) (pw_preV hw Ta0 (by decide) rfl) rfl rfl hl.1 rfl (lv_room (Nat.le_of_ble_eq_true rfl)) dX12_readRow_114 ⟨Nat.zero_le _, Nat.zero_le _⟩) hw (fun H locs hw hx64 => ?_)
      have Tq60 : TY S_61 q60 14 := ty_ext hx64 Tq60
      have Ta0 : TY S_61 a0 12 := ty_ext hx64 Ta0
      have hE : Ext S0 S_61 := Ext.tr hE hx64
      obtain ⟨hi65, hm⟩ := ck_some hm
      refine pw_iast hx hb hw Tq60 hi65 dX12_readRow_117 (fun H locs hw => ?_)
      obtain ⟨S_66, eS_66, hm⟩ := lt_some hm
      rw [← eS_66] at hw
      have Ta0 : TY S_66 a0 12 := by rw [eS_66]; exact Ta0
      have hE : Ext S0 S_66 := by rw [eS_66]; exact hE
      refine lv_aload_n hx hb dX12_readRow_118 rfl (lv_at hl 1 rfl) ?_
      obtain ⟨q67, hq67, hm⟩ := bd_some hm
      have Tq67 : TY S_66 q67 14 := hw.wf.ref (k := 12) (j := 11) Ta0 (by decide) (by decide) hq67
      refine pg_rb (k := 12) (j := 11) (f := 1211) hx hb hown hU iu12 hw Ta0 (by decide) rfl (hU _ tw1482) rfl hq67 dX12_readRow_119 ?_
      refine lv_iload_n hx hb dX12_readRow_122 rfl (lv_at hl 0 rfl) ?_
      refine lv_iconst (v := 2) hx hb dX12_readRow_123 (by decide) ?_
      refine lv_iadd hx hb dX12_readRow_124 ?_
      refine lv_aload_n hx hb dX12_readRow_125 rfl (lv_at hl 1 rfl) ?_
      refine lv_iconst (v := 0) hx hb dX12_readRow_126 (by decide) ?_
      refine lv_iconst (v := 1) hx hb dX12_readRow_127 (by decide) ?_
      obtain ⟨r70, S_68, hq69, hm⟩ := cb_some hm
      refine pw_ci (va_runV (As := [.int 0, .int 1]) (rest := [.int (((4 : Int32) * (pI S_6 1219 a0)) + (2 : Int32)), .ref q67]) ⟨hx, hb, hml, hown, hU⟩ (c_X12_readNumber l C X n S_66 hw.wf _ a0 0 1 (Ta0) r70 S_68 hq69) (cwV 2 hU (pq_gV tw1757 tw1759 ts133 tw14 tc_X12_readNumber) rfl rfl rfl cd_X12_readNumber ⟨Nat.le_of_ble_eq_true rfl, Nat.le_of_ble_eq_true rfl⟩) (pw_preV hw Ta0 (by decide) rfl) rfl rfl hl.1 rfl (lv_room (Nat.le_of_ble_eq_true rfl)) dX12_readRow_128 ⟨Nat.zero_le _, Nat.zero_le _⟩) hw (fun H locs hw hx71 => ?_)
      have Tq67 : TY S_68 q67 14 := ty_ext hx71 Tq67
      have Ta0 : TY S_68 a0 12 := ty_ext hx71 Ta0
      have hE : Ext S0 S_68 := Ext.tr hE hx71
      obtain ⟨hi72, hm⟩ := ck_some hm
      refine pw_iast hx hb hw Tq67 hi72 dX12_readRow_131 (fun H locs hw => ?_)
      obtain ⟨S_73, eS_73, hm⟩ := lt_some hm
      rw [← eS_73] at hw
      have Ta0 : TY S_73 a0 12 := by rw [eS_73]; exact Ta0
      have hE : Ext S0 S_73 := by rw [eS_73]; exact hE
      refine lv_aload_n hx hb dX12_readRow_132 rfl (lv_at hl 1 rfl) ?_
      obtain ⟨q74, hq74, hm⟩ := bd_some hm
      have Tq74 : TY S_73 q74 14 := hw.wf.ref (k := 12) (j := 11) Ta0 (by decide) (by decide) hq74
      refine pg_rb (k := 12) (j := 11) (f := 1211) hx hb hown hU iu12 hw Ta0 (by decide) rfl (hU _ tw1482) rfl hq74 dX12_readRow_133 ?_
      refine lv_iload_n hx hb dX12_readRow_136 rfl (lv_at hl 0 rfl) ?_
      refine lv_iconst (v := 3) hx hb dX12_readRow_137 (by decide) ?_
      refine lv_iadd hx hb dX12_readRow_138 ?_
      refine lv_aload_n hx hb dX12_readRow_139 rfl (lv_at hl 1 rfl) ?_
      refine lv_iconst (v := 0) hx hb dX12_readRow_140 (by decide) ?_
      refine lv_bipush (v := 99) hx hb dX12_readRow_141 (by decide) ?_
      obtain ⟨r77, S_75, hq76, hm⟩ := cb_some hm
      refine pw_ci (va_runV (As := [.int 0, .int 99]) (rest := [.int (((4 : Int32) * (pI S_6 1219 a0)) + (3 : Int32)), .ref q74]) ⟨hx, hb, hml, hown, hU⟩ (c_X12_readNumber l C X n S_73 hw.wf _ a0 0 99 (Ta0) r77 S_75 hq76) (cwV 2 hU (pq_gV tw1757 tw1759 ts133 tw14 tc_X12_readNumber) rfl rfl rfl cd_X12_readNumber ⟨Nat.le_of_ble_eq_true rfl, Nat.le_of_ble_eq_true rfl⟩) (pw_preV hw Ta0 (by decide) rfl) rfl rfl hl.1 rfl (lv_room (Nat.le_of_ble_eq_true rfl)) dX12_readRow_143 ⟨Nat.zero_le _, Nat.zero_le _⟩) hw (fun H locs hw hx78 => ?_)
      have Tq74 : TY S_75 q74 14 := ty_ext hx78 Tq74
      have Ta0 : TY S_75 a0 12 := ty_ext hx78 Ta0
      have hE : Ext S0 S_75 := Ext.tr hE hx78
      obtain ⟨hi79, hm⟩ := ck_some hm
      refine pw_iast hx hb hw Tq74 hi79 dX12_readRow_146 (fun H locs hw => ?_)
      obtain ⟨S_80, eS_80, hm⟩ := lt_some hm
      rw [← eS_80] at hw
      have Ta0 : TY S_80 a0 12 := by rw [eS_80]; exact Ta0
      have hE : Ext S0 S_80 := by rw [eS_80]; exact hE
      refine lv_aload_n hx hb dX12_readRow_147 rfl (lv_at hl 1 rfl) ?_
      refine lv_dup hx hb dX12_readRow_148 rfl ?_
      refine pg_i (k := 12) (j := 19) (f := 1219) hx hb hown hU iu12 hw Ta0 (by decide) rfl (hU _ tw1490) rfl dX12_readRow_149 ?_
      refine lv_iconst (v := 1) hx hb dX12_readRow_152 (by decide) ?_
      refine lv_iadd hx hb dX12_readRow_153 ?_
      refine pp_i (k := 12) (j := 19) (f := 1219) hx hb hown hU iu12 tyX12_ok nmX12 hw Ta0 (by decide) rfl (hU _ tw1490) rfl rfl rfl dX12_readRow_154 (fun H locs hw => ?_)
      refine lv_goto (tgt := 288) hx hb dX12_readRow_157 (by decide) ?_
      cases hm
      exact pw_vret hx hb hr hlk hw hE dX12_readRow_288
  · rw [if_pos h5] at hm
    refine lv_iconst (v := 4) hx hb dX12_readRow_9 (by decide) ?_
    refine lv_aload_n hx hb dX12_readRow_10 rfl (lv_at hl 0 rfl) ?_
    refine pg_i (k := 12) (j := 18) (f := 1218) hx hb hown hU iu12 hw Ta0 (by decide) rfl (hU _ tw1489) rfl dX12_readRow_11 ?_
    refine lv_imul hx hb dX12_readRow_14 ?_
    refine lv_istore_n (lv' := [(2, .int ((4 : Int32) * (pI S_1 1218 a0))), (0, .ref a0), (1, .int x1)]) hx hb dX12_readRow_15 rfl hl (by decide) rfl (fun ls hl => ?_)
    refine lv_aload_n hx hb dX12_readRow_16 rfl (lv_at hl 1 rfl) ?_
    obtain ⟨q81, hq81, hm⟩ := bd_some hm
    have Tq81 : TY S_1 q81 14 := hw.wf.ref (k := 12) (j := 10) Ta0 (by decide) (by decide) hq81
    refine pg_rb (k := 12) (j := 10) (f := 1210) hx hb hown hU iu12 hw Ta0 (by decide) rfl (hU _ tw1481) rfl hq81 dX12_readRow_17 ?_
    refine lv_iload_n hx hb dX12_readRow_20 rfl (lv_at hl 0 rfl) ?_
    refine lv_aload_n hx hb dX12_readRow_21 rfl (lv_at hl 1 rfl) ?_
    refine lv_iconst (v := 0) hx hb dX12_readRow_22 (by decide) ?_
    refine lv_bipush (v := 40) hx hb dX12_readRow_23 (by decide) ?_
    obtain ⟨r84, S_82, hq83, hm⟩ := cb_some hm
    refine pw_ci (va_runV (As := [.int 0, .int 40]) (rest := [.int ((4 : Int32) * (pI S_1 1218 a0)), .ref q81]) ⟨hx, hb, hml, hown, hU⟩ (c_X12_readNumber l C X n S_1 hw.wf _ a0 0 40 (Ta0) r84 S_82 hq83) (cwV 2 hU (pq_gV tw1757 tw1759 ts133 tw14 tc_X12_readNumber) rfl rfl rfl cd_X12_readNumber ⟨Nat.le_of_ble_eq_true rfl, Nat.le_of_ble_eq_true rfl⟩) (pw_preV hw Ta0 (by decide) rfl) rfl rfl hl.1 rfl (lv_room (Nat.le_of_ble_eq_true rfl)) dX12_readRow_25 ⟨Nat.zero_le _, Nat.zero_le _⟩) hw (fun H locs hw hx85 => ?_)
    have Tq81 : TY S_82 q81 14 := ty_ext hx85 Tq81
    have Ta0 : TY S_82 a0 12 := ty_ext hx85 Ta0
    have hE : Ext S0 S_82 := Ext.tr hE hx85
    obtain ⟨hi86, hm⟩ := ck_some hm
    refine pw_iast hx hb hw Tq81 hi86 dX12_readRow_28 (fun H locs hw => ?_)
    obtain ⟨S_87, eS_87, hm⟩ := lt_some hm
    rw [← eS_87] at hw
    have Ta0 : TY S_87 a0 12 := by rw [eS_87]; exact Ta0
    have hE : Ext S0 S_87 := by rw [eS_87]; exact hE
    refine lv_iconst (v := 1) hx hb dX12_readRow_29 (by decide) ?_
    refine lv_istore_n (lv' := [(3, .int 1), (2, .int ((4 : Int32) * (pI S_1 1218 a0))), (0, .ref a0), (1, .int x1)]) hx hb dX12_readRow_30 rfl hl (by decide) rfl (fun ls hl => ?_)
    exact wb_X12_readRow_31 cx C X S0 n S1 n a0 ((4 : Int32) * (pI S_1 1218 a0)) 1 S_87 _ _ _ hw hE Ta0 (lv_sub hl [2, 1, 0] rfl) hm
abbrev rm_X12_isFull : Room := { frames := 5, cells := 0, slots := 0, locals := 107 }
def b_X12_isFull_70 (n : Nat)  (S : pq_S) : Option (Int32 × pq_S) := some (1, S)
set_option maxHeartbeats 4000000 in
set_option maxRecDepth 100000 in
theorem wb_X12_isFull_70 {p : Program} {l : Launch} {e : Env} {s : State} {m : MethodId} {args : Array Value} {below : List Frame} {meth : Method} {c : Code} (cx : Cx p s m args meth c cX12_isFull 2 RX12 (some .boolean)) (C : pq_C) (X : va_W) (S0 : pq_S) (n : Nat) (r : Int32) (S1 : pq_S) : ∀  (S : pq_S) (H : Heap) (locs : List Loc) (ls : Array Slot), PW C X S (pq_F C X S0 s.heap.size) H locs s → Ext S0 S → lv_has ls 2 [] → b_X12_isFull_70 n  S = some (r, S1) → W p l e rm_X12_isFull s m args below meth c H locs 0 0 (MQ below (QcZ C X S0 s.heap.size r S1) args s 0 0 (pq_F C X S0 s.heap.size)) (F0 m 70 ls []) := by
  obtain ⟨hx, hb, hml, hown, hU, hr, hlk⟩ := id cx
  intro S H locs ls hw hE hl hm
  rw [b_X12_isFull_70] at hm
  refine lv_iconst (v := 1) hx hb dX12_isFull_70 (by decide) ?_
  refine lv_goto (tgt := 75) hx hb dX12_isFull_71 (by decide) ?_
  cases hm
  exact pw_zret hx hb hr bz_1 hlk hw hE dX12_isFull_75
def b_X12_isFull_53 (n : Nat) (a0 : Nat) (x1 : Int32) (S : pq_S) : Option (Int32 × pq_S) := cb (m_X12_of n 3 S) fun r21 S_19 => if x1 = r21 then if (pI S_19 1221 a0) = 3 then b_X12_isFull_70 n  S_19 else some (0, S_19) else some (0, S_19)
set_option maxHeartbeats 4000000 in
set_option maxRecDepth 100000 in
theorem wb_X12_isFull_53 {p : Program} {l : Launch} {e : Env} {s : State} {m : MethodId} {args : Array Value} {below : List Frame} {meth : Method} {c : Code} (cx : Cx p s m args meth c cX12_isFull 2 RX12 (some .boolean)) (C : pq_C) (X : va_W) (S0 : pq_S) (n : Nat) (r : Int32) (S1 : pq_S) : ∀ (a0 : Nat) (x1 : Int32) (S : pq_S) (H : Heap) (locs : List Loc) (ls : Array Slot), PW C X S (pq_F C X S0 s.heap.size) H locs s → Ext S0 S → TY S a0 12 → lv_has ls 2 [(0, .ref a0), (1, .int x1)] → b_X12_isFull_53 n a0 x1 S = some (r, S1) → W p l e rm_X12_isFull s m args below meth c H locs 0 0 (MQ below (QcZ C X S0 s.heap.size r S1) args s 0 0 (pq_F C X S0 s.heap.size)) (F0 m 53 ls []) := by
  obtain ⟨hx, hb, hml, hown, hU, hr, hlk⟩ := id cx
  intro a0 x1 S H locs ls hw hE Ta0 hl hm
  rw [b_X12_isFull_53] at hm
  refine lv_iload_n hx hb dX12_isFull_53 rfl (lv_at hl 1 rfl) ?_
  refine va_ldcS hx hb hown (hw.str 24 rfl) dX12_isFull_54 ?_
  obtain ⟨r21, S_19, hq20, hm⟩ := cb_some hm
  refine pw_ci (va_runS (As := [.ref (C.2.2.2.2.2.2.1 3)]) (rest := [.int x1]) ⟨hx, hb, hml, hown, hU⟩ (c_X12_of l C X n S hw.wf _ 3 ((by decide)) r21 S_19 hq20) ⟨callB_of 1 hU (pq_g1 tc_X12_of) rfl rfl rfl (hU _ tw14) (hU _ tw1731) cd_X12_of.2 ⟨Nat.le_of_ble_eq_true rfl, Nat.le_of_ble_eq_true rfl⟩, hU _ tw1732⟩ (pw_preS hw) rfl rfl hl.1 rfl (lv_room (Nat.le_of_ble_eq_true rfl)) dX12_isFull_56 ⟨Nat.zero_le _, Nat.zero_le _⟩) hw (fun H locs hw hx22 => ?_)
  have Ta0 : TY S_19 a0 12 := ty_ext hx22 Ta0
  have hE : Ext S0 S_19 := Ext.tr hE hx22
  refine lv_icmp_ne (tgt := 74) hx hb dX12_isFull_59 (by decide) (fun h23 => ?_) (fun h23 => ?_)
  · rw [if_neg h23] at hm
    refine lv_iconst (v := 0) hx hb dX12_isFull_74 (by decide) ?_
    cases hm
    exact pw_zret hx hb hr bz_0 hlk hw hE dX12_isFull_75
  · rw [if_pos h23] at hm
    refine lv_aload_n hx hb dX12_isFull_62 rfl (lv_at hl 0 rfl) ?_
    refine pg_i (k := 12) (j := 21) (f := 1221) hx hb hown hU iu12 hw Ta0 (by decide) rfl (hU _ tw1492) rfl dX12_isFull_63 ?_
    refine lv_iconst (v := 3) hx hb dX12_isFull_66 (by decide) ?_
    refine lv_icmp_ne (tgt := 74) hx hb dX12_isFull_67 (by decide) (fun h24 => ?_) (fun h24 => ?_)
    · rw [if_neg h24] at hm
      refine lv_iconst (v := 0) hx hb dX12_isFull_74 (by decide) ?_
      cases hm
      exact pw_zret hx hb hr bz_0 hlk hw hE dX12_isFull_75
    · rw [if_pos h24] at hm
      exact wb_X12_isFull_70 cx C X S0 n r S1  S_19 _ _ _ hw hE  (lv_sub hl [] rfl) hm
def b_X12_isFull_36 (n : Nat) (a0 : Nat) (x1 : Int32) (S : pq_S) : Option (Int32 × pq_S) := cb (m_X12_of n 2 S) fun r15 S_13 => if x1 = r15 then if (pI S_13 1220 a0) = 3 then b_X12_isFull_70 n  S_13 else b_X12_isFull_53 n a0 x1 S_13 else b_X12_isFull_53 n a0 x1 S_13
set_option maxHeartbeats 4000000 in
set_option maxRecDepth 100000 in
theorem wb_X12_isFull_36 {p : Program} {l : Launch} {e : Env} {s : State} {m : MethodId} {args : Array Value} {below : List Frame} {meth : Method} {c : Code} (cx : Cx p s m args meth c cX12_isFull 2 RX12 (some .boolean)) (C : pq_C) (X : va_W) (S0 : pq_S) (n : Nat) (r : Int32) (S1 : pq_S) : ∀ (a0 : Nat) (x1 : Int32) (S : pq_S) (H : Heap) (locs : List Loc) (ls : Array Slot), PW C X S (pq_F C X S0 s.heap.size) H locs s → Ext S0 S → TY S a0 12 → lv_has ls 2 [(0, .ref a0), (1, .int x1)] → b_X12_isFull_36 n a0 x1 S = some (r, S1) → W p l e rm_X12_isFull s m args below meth c H locs 0 0 (MQ below (QcZ C X S0 s.heap.size r S1) args s 0 0 (pq_F C X S0 s.heap.size)) (F0 m 36 ls []) := by
  obtain ⟨hx, hb, hml, hown, hU, hr, hlk⟩ := id cx
  intro a0 x1 S H locs ls hw hE Ta0 hl hm
  rw [b_X12_isFull_36] at hm
  refine lv_iload_n hx hb dX12_isFull_36 rfl (lv_at hl 1 rfl) ?_
  refine va_ldcS hx hb hown (hw.str 23 rfl) dX12_isFull_37 ?_
  obtain ⟨r15, S_13, hq14, hm⟩ := cb_some hm
  refine pw_ci (va_runS (As := [.ref (C.2.2.2.2.2.2.1 2)]) (rest := [.int x1]) ⟨hx, hb, hml, hown, hU⟩ (c_X12_of l C X n S hw.wf _ 2 ((by decide)) r15 S_13 hq14) ⟨callB_of 1 hU (pq_g1 tc_X12_of) rfl rfl rfl (hU _ tw14) (hU _ tw1731) cd_X12_of.2 ⟨Nat.le_of_ble_eq_true rfl, Nat.le_of_ble_eq_true rfl⟩, hU _ tw1732⟩ (pw_preS hw) rfl rfl hl.1 rfl (lv_room (Nat.le_of_ble_eq_true rfl)) dX12_isFull_39 ⟨Nat.zero_le _, Nat.zero_le _⟩) hw (fun H locs hw hx16 => ?_)
  have Ta0 : TY S_13 a0 12 := ty_ext hx16 Ta0
  have hE : Ext S0 S_13 := Ext.tr hE hx16
  refine lv_icmp_ne (tgt := 53) hx hb dX12_isFull_42 (by decide) (fun h17 => ?_) (fun h17 => ?_)
  · rw [if_neg h17] at hm
    exact wb_X12_isFull_53 cx C X S0 n r S1 a0 x1 S_13 _ _ _ hw hE Ta0 (lv_sub hl [0, 1] rfl) hm
  · rw [if_pos h17] at hm
    refine lv_aload_n hx hb dX12_isFull_45 rfl (lv_at hl 0 rfl) ?_
    refine pg_i (k := 12) (j := 20) (f := 1220) hx hb hown hU iu12 hw Ta0 (by decide) rfl (hU _ tw1491) rfl dX12_isFull_46 ?_
    refine lv_iconst (v := 3) hx hb dX12_isFull_49 (by decide) ?_
    refine lv_icmp_eq (tgt := 70) hx hb dX12_isFull_50 (by decide) (fun h18 => ?_) (fun h18 => ?_)
    · rw [if_pos h18] at hm
      exact wb_X12_isFull_70 cx C X S0 n r S1  S_13 _ _ _ hw hE  (lv_sub hl [] rfl) hm
    · rw [if_neg h18] at hm
      exact wb_X12_isFull_53 cx C X S0 n r S1 a0 x1 S_13 _ _ _ hw hE Ta0 (lv_sub hl [0, 1] rfl) hm
def b_X12_isFull_18 (n : Nat) (a0 : Nat) (x1 : Int32) (S : pq_S) : Option (Int32 × pq_S) := cb (m_X12_of n 1 S) fun r9 S_7 => if x1 = r9 then if (pI S_7 1219 a0) = 12 then b_X12_isFull_70 n  S_7 else b_X12_isFull_36 n a0 x1 S_7 else b_X12_isFull_36 n a0 x1 S_7
set_option maxHeartbeats 4000000 in
set_option maxRecDepth 100000 in
theorem wb_X12_isFull_18 {p : Program} {l : Launch} {e : Env} {s : State} {m : MethodId} {args : Array Value} {below : List Frame} {meth : Method} {c : Code} (cx : Cx p s m args meth c cX12_isFull 2 RX12 (some .boolean)) (C : pq_C) (X : va_W) (S0 : pq_S) (n : Nat) (r : Int32) (S1 : pq_S) : ∀ (a0 : Nat) (x1 : Int32) (S : pq_S) (H : Heap) (locs : List Loc) (ls : Array Slot), PW C X S (pq_F C X S0 s.heap.size) H locs s → Ext S0 S → TY S a0 12 → lv_has ls 2 [(0, .ref a0), (1, .int x1)] → b_X12_isFull_18 n a0 x1 S = some (r, S1) → W p l e rm_X12_isFull s m args below meth c H locs 0 0 (MQ below (QcZ C X S0 s.heap.size r S1) args s 0 0 (pq_F C X S0 s.heap.size)) (F0 m 18 ls []) := by
  obtain ⟨hx, hb, hml, hown, hU, hr, hlk⟩ := id cx
  intro a0 x1 S H locs ls hw hE Ta0 hl hm
  rw [b_X12_isFull_18] at hm
  refine lv_iload_n hx hb dX12_isFull_18 rfl (lv_at hl 1 rfl) ?_
  refine va_ldcS hx hb hown (hw.str 22 rfl) dX12_isFull_19 ?_
  obtain ⟨r9, S_7, hq8, hm⟩ := cb_some hm
  refine pw_ci (va_runS (As := [.ref (C.2.2.2.2.2.2.1 1)]) (rest := [.int x1]) ⟨hx, hb, hml, hown, hU⟩ (c_X12_of l C X n S hw.wf _ 1 ((by decide)) r9 S_7 hq8) ⟨callB_of 1 hU (pq_g1 tc_X12_of) rfl rfl rfl (hU _ tw14) (hU _ tw1731) cd_X12_of.2 ⟨Nat.le_of_ble_eq_true rfl, Nat.le_of_ble_eq_true rfl⟩, hU _ tw1732⟩ (pw_preS hw) rfl rfl hl.1 rfl (lv_room (Nat.le_of_ble_eq_true rfl)) dX12_isFull_21 ⟨Nat.zero_le _, Nat.zero_le _⟩) hw (fun H locs hw hx10 => ?_)
  have Ta0 : TY S_7 a0 12 := ty_ext hx10 Ta0
  have hE : Ext S0 S_7 := Ext.tr hE hx10
  refine lv_icmp_ne (tgt := 36) hx hb dX12_isFull_24 (by decide) (fun h11 => ?_) (fun h11 => ?_)
  · rw [if_neg h11] at hm
    exact wb_X12_isFull_36 cx C X S0 n r S1 a0 x1 S_7 _ _ _ hw hE Ta0 (lv_sub hl [0, 1] rfl) hm
  · rw [if_pos h11] at hm
    refine lv_aload_n hx hb dX12_isFull_27 rfl (lv_at hl 0 rfl) ?_
    refine pg_i (k := 12) (j := 19) (f := 1219) hx hb hown hU iu12 hw Ta0 (by decide) rfl (hU _ tw1490) rfl dX12_isFull_28 ?_
    refine lv_bipush (v := 12) hx hb dX12_isFull_31 (by decide) ?_
    refine lv_icmp_eq (tgt := 70) hx hb dX12_isFull_33 (by decide) (fun h12 => ?_) (fun h12 => ?_)
    · rw [if_pos h12] at hm
      exact wb_X12_isFull_70 cx C X S0 n r S1  S_7 _ _ _ hw hE  (lv_sub hl [] rfl) hm
    · rw [if_neg h12] at hm
      exact wb_X12_isFull_36 cx C X S0 n r S1 a0 x1 S_7 _ _ _ hw hE Ta0 (lv_sub hl [0, 1] rfl) hm
def m_X12_isFull (n : Nat) (a0 : Nat) (x1 : Int32) (S0 : pq_S) : Option (Int32 × pq_S) := cb (m_X12_of n 0 S0) fun r3 S_1 => if x1 = r3 then if (pI S_1 1218 a0) = 6 then b_X12_isFull_70 n  S_1 else b_X12_isFull_18 n a0 x1 S_1 else b_X12_isFull_18 n a0 x1 S_1
theorem tc_X12_isFull : Cond.code yX12_isFull cX12_isFull 2 (some .boolean) ∈ pq_U := tw1748
theorem cd_X12_isFull : yX12_isFull.cls = RX12 ∧ yX12_isFull.cls ≠ "java/lang/invoke/MethodHandle" ∧ yX12_isFull.cls ≠ "java/lang/invoke/VarHandle" ∧ (parseMethodDescriptor yX12_isFull.desc).map (fun d => d.parameters.length) = some 1 := by decide +kernel
set_option maxHeartbeats 4000000 in
set_option maxRecDepth 100000 in
theorem c_X12_isFull (l : Launch) (C : pq_C) (X : va_W) (n : Nat) (S0 : pq_S) (hF : WF S0) (sz : Nat) (a0 : Nat) (x1 : Int32) (Ta0 : TY S0 a0 12) (r : Int32) (S1 : pq_S) (hm : m_X12_isFull n a0 x1 S0 = some (r, S1)) : MZ l yX12_isFull (.code yX12_isFull cX12_isFull 2 (some .boolean) :: pq_U) rm_X12_isFull C X S0 sz [.ref a0, .int x1] r S1 0 0 := by
  refine Met.ofW (cc := cX12_isFull) (maxL := 2) (ret := (some .boolean)) (by decide) rfl ?_
  intro p e s m args below meth c s₁ B hml hv
  obtain ⟨rfl, hv⟩ := hv
  have hsz := hv.1
  subst hsz
  have hw := pw_entry hF hv
  have hts := atoms_spec (ws := .code yX12_isFull cX12_isFull 2 (some .boolean) :: pq_U) B.pre
  have hU : ∀ w ∈ pq_U, w.before _ s = true := fun w h => hts w (List.mem_cons_of_mem _ h)
  have hx := B.exec
  have hb := B.bytes
  have hr := B.returns
  have hown : s.vm.findClass RX12 = some m.cls := findClass_of_methodNamed B.named
  have hlk := B.notSynchronized
  have hl := lv_entry ([.ref a0, .int x1]) (n := 2) (Nat.le_of_ble_eq_true rfl)
  rw [lg_entry_eq]
  generalize (lg_sl ([.ref a0, .int x1]) ++ List.replicate (2 - (lg_sl ([.ref a0, .int x1])).length) Slot.unset).toArray = ls at hl ⊢
  have hl : lv_has ls 2 [(0, .ref a0), (1, .int x1)] := hl
  have hE : Ext S0 S0 := Ext.rf _
  have cx : Cx p s m _ meth c cX12_isFull 2 RX12 (some .boolean) := ⟨hx, hb, hml, hown, hU, hr, hlk⟩
  rw [m_X12_isFull] at hm
  refine lv_iload_n hx hb dX12_isFull_0 rfl (lv_at hl 1 rfl) ?_
  refine va_ldcS hx hb hown (hw.str 21 rfl) dX12_isFull_1 ?_
  obtain ⟨r3, S_1, hq2, hm⟩ := cb_some hm
  refine pw_ci (va_runS (As := [.ref (C.2.2.2.2.2.2.1 0)]) (rest := [.int x1]) ⟨hx, hb, hml, hown, hU⟩ (c_X12_of l C X n S0 hw.wf _ 0 ((by decide)) r3 S_1 hq2) ⟨callB_of 1 hU (pq_g1 tc_X12_of) rfl rfl rfl (hU _ tw14) (hU _ tw1731) cd_X12_of.2 ⟨Nat.le_of_ble_eq_true rfl, Nat.le_of_ble_eq_true rfl⟩, hU _ tw1732⟩ (pw_preS hw) rfl rfl hl.1 rfl (lv_room (Nat.le_of_ble_eq_true rfl)) dX12_isFull_3 ⟨Nat.zero_le _, Nat.zero_le _⟩) hw (fun H locs hw hx4 => ?_)
  have Ta0 : TY S_1 a0 12 := ty_ext hx4 Ta0
  have hE : Ext S0 S_1 := Ext.tr hE hx4
  refine lv_icmp_ne (tgt := 18) hx hb dX12_isFull_6 (by decide) (fun h5 => ?_) (fun h5 => ?_)
  · rw [if_neg h5] at hm
    exact wb_X12_isFull_18 cx C X S0 n r S1 a0 x1 S_1 _ _ _ hw hE Ta0 (lv_sub hl [0, 1] rfl) hm
  · rw [if_pos h5] at hm
    refine lv_aload_n hx hb dX12_isFull_9 rfl (lv_at hl 0 rfl) ?_
    refine pg_i (k := 12) (j := 18) (f := 1218) hx hb hown hU iu12 hw Ta0 (by decide) rfl (hU _ tw1489) rfl dX12_isFull_10 ?_
    refine lv_bipush (v := 6) hx hb dX12_isFull_13 (by decide) ?_
    refine lv_icmp_eq (tgt := 70) hx hb dX12_isFull_15 (by decide) (fun h6 => ?_) (fun h6 => ?_)
    · rw [if_pos h6] at hm
      exact wb_X12_isFull_70 cx C X S0 n r S1  S_1 _ _ _ hw hE  (lv_sub hl [] rfl) hm
    · rw [if_neg h6] at hm
      exact wb_X12_isFull_18 cx C X S0 n r S1 a0 x1 S_1 _ _ _ hw hE Ta0 (lv_sub hl [0, 1] rfl) hm
abbrev rm_X12_coast : Room := { frames := 6, cells := 0, slots := 0, locals := 130 }
def b_X12_coast_225 (n : Nat) (k26 : Nat → Int32 → pq_S → Option (Int32 × pq_S)) (a0 : Nat) (x2 : Int32) (S : pq_S) : Option (Int32 × pq_S) := Option.bind (m_X12_sign n a0 59 S) fun S_91 => k26 a0 (x2 + 1) S_91
set_option maxHeartbeats 4000000 in
set_option maxRecDepth 100000 in
theorem wb_X12_coast_225 {p : Program} {l : Launch} {e : Env} {s : State} {m : MethodId} {args : Array Value} {below : List Frame} {meth : Method} {c : Code} (cx : Cx p s m args meth c cX12_coast 5 RX12 (some .int)) (C : pq_C) (X : va_W) (S0 : pq_S) (n : Nat) (r : Int32) (S1 : pq_S) (k26 : Nat → Int32 → pq_S → Option (Int32 × pq_S)) (hk26 : ∀ (a0 : Nat) (x2 : Int32) (S : pq_S) (H : Heap) (locs : List Loc) (ls : Array Slot), PW C X S (pq_F C X S0 s.heap.size) H locs s → Ext S0 S → TY S a0 12 → lv_has ls 5 [(0, .ref a0), (2, .int x2)] → k26 a0 x2 S = some (r, S1) → W p l e rm_X12_coast s m args below meth c H locs 0 0 (MQ below (QcI C X S0 s.heap.size r S1) args s 0 0 (pq_F C X S0 s.heap.size)) (F0 m 44 ls [])) : ∀ (a0 : Nat) (x2 : Int32) (S : pq_S) (H : Heap) (locs : List Loc) (ls : Array Slot), PW C X S (pq_F C X S0 s.heap.size) H locs s → Ext S0 S → TY S a0 12 → lv_has ls 5 [(0, .ref a0), (2, .int x2)] → b_X12_coast_225 n k26 a0 x2 S = some (r, S1) → W p l e rm_X12_coast s m args below meth c H locs 0 0 (MQ below (QcI C X S0 s.heap.size r S1) args s 0 0 (pq_F C X S0 s.heap.size)) (F0 m 225 ls []) := by
  obtain ⟨hx, hb, hml, hown, hU, hr, hlk⟩ := id cx
  intro a0 x2 S H locs ls hw hE Ta0 hl hm
  rw [b_X12_coast_225] at hm
  refine lv_aload_n hx hb dX12_coast_225 rfl (lv_at hl 0 rfl) ?_
  refine lv_bipush (v := 59) hx hb dX12_coast_226 (by decide) ?_
  obtain ⟨S_91, hq92, hm⟩ := bd_some hm
  refine pw_cv (va_runV (As := [.int 59]) (rest := []) ⟨hx, hb, hml, hown, hU⟩ (c_X12_sign l C X n S hw.wf _ a0 59 (Ta0) S_91 hq92) (cwV 1 hU (pq_gV tw1764 tw1766 ts134 tw14 tc_X12_sign) rfl rfl rfl cd_X12_sign ⟨Nat.le_of_ble_eq_true rfl, Nat.le_of_ble_eq_true rfl⟩) (pw_preV hw Ta0 (by decide) rfl) rfl rfl hl.1 rfl (lv_room (Nat.le_of_ble_eq_true rfl)) dX12_coast_228 ⟨Nat.zero_le _, Nat.zero_le _⟩) hw (fun H locs hw hx93 => ?_)
  have Ta0 : TY S_91 a0 12 := ty_ext hx93 Ta0
  have hE : Ext S0 S_91 := Ext.tr hE hx93
  refine lv_iinc (v := (x2 + 1)) (lv' := [(2, .int (x2 + 1)), (0, .ref a0)]) hx hb dX12_coast_231 hl (k := 1) rfl rfl (by decide) rfl (fun ls hl => ?_)
  refine lv_goto (tgt := 44) hx hb dX12_coast_234 (by decide) ?_
  exact hk26 a0 (x2 + 1) S_91 _ _ _ hw hE Ta0 (lv_sub hl [1, 0] rfl) hm
def b_X12_coast_237 (n : Nat) (a0 : Nat) (S : pq_S) : Option (Int32 × pq_S) := cb (m_X12_result n a0 (pI S 1218 a0) S) fun r106 S_104 => if (pI S_104 1205 a0) = (-1) then Option.bind (m_X12_sets n a0 S_104) fun S_109 => some (r106, S_109) else some (r106, S_104)
set_option maxHeartbeats 4000000 in
set_option maxRecDepth 100000 in
theorem wb_X12_coast_237 {p : Program} {l : Launch} {e : Env} {s : State} {m : MethodId} {args : Array Value} {below : List Frame} {meth : Method} {c : Code} (cx : Cx p s m args meth c cX12_coast 5 RX12 (some .int)) (C : pq_C) (X : va_W) (S0 : pq_S) (n : Nat) (r : Int32) (S1 : pq_S) : ∀ (a0 : Nat) (S : pq_S) (H : Heap) (locs : List Loc) (ls : Array Slot), PW C X S (pq_F C X S0 s.heap.size) H locs s → Ext S0 S → TY S a0 12 → lv_has ls 5 [(0, .ref a0)] → b_X12_coast_237 n a0 S = some (r, S1) → W p l e rm_X12_coast s m args below meth c H locs 0 0 (MQ below (QcI C X S0 s.heap.size r S1) args s 0 0 (pq_F C X S0 s.heap.size)) (F0 m 237 ls []) := by
  obtain ⟨hx, hb, hml, hown, hU, hr, hlk⟩ := id cx
  intro a0 S H locs ls hw hE Ta0 hl hm
  rw [b_X12_coast_237] at hm
  refine lv_aload_n hx hb dX12_coast_237 rfl (lv_at hl 0 rfl) ?_
  refine lv_aload_n hx hb dX12_coast_238 rfl (lv_at hl 0 rfl) ?_
  refine pg_i (k := 12) (j := 18) (f := 1218) hx hb hown hU iu12 hw Ta0 (by decide) rfl (hU _ tw1489) rfl dX12_coast_239 ?_
  obtain ⟨r106, S_104, hq105, hm⟩ := cb_some hm
  refine pw_ci (va_runV (As := [.int (pI S 1218 a0)]) (rest := []) ⟨hx, hb, hml, hown, hU⟩ (c_X12_result l C X n S hw.wf _ a0 (pI S 1218 a0) (Ta0) r106 S_104 hq105) (cwV 1 hU (pq_gV tw1768 tw1770 ts135 tw14 tc_X12_result) rfl rfl rfl cd_X12_result ⟨Nat.le_of_ble_eq_true rfl, Nat.le_of_ble_eq_true rfl⟩) (pw_preV hw Ta0 (by decide) rfl) rfl rfl hl.1 rfl (lv_room (Nat.le_of_ble_eq_true rfl)) dX12_coast_242 ⟨Nat.zero_le _, Nat.zero_le _⟩) hw (fun H locs hw hx107 => ?_)
  have Ta0 : TY S_104 a0 12 := ty_ext hx107 Ta0
  have hE : Ext S0 S_104 := Ext.tr hE hx107
  refine lv_istore_n (lv' := [(3, .int r106), (0, .ref a0)]) hx hb dX12_coast_245 rfl hl (by decide) rfl (fun ls hl => ?_)
  refine lv_aload_n hx hb dX12_coast_246 rfl (lv_at hl 1 rfl) ?_
  refine pg_i (k := 12) (j := 5) (f := 1205) hx hb hown hU iu12 hw Ta0 (by decide) rfl (hU _ tw1476) rfl dX12_coast_247 ?_
  refine lv_iconst (v := (-1)) hx hb dX12_coast_250 (by decide) ?_
  refine lv_icmp_ne (tgt := 258) hx hb dX12_coast_251 (by decide) (fun h108 => ?_) (fun h108 => ?_)
  · rw [if_neg h108] at hm
    refine lv_iload_n hx hb dX12_coast_258 rfl (lv_at hl 0 rfl) ?_
    cases hm
    exact pw_iret hx hb hr rfl hlk hw hE dX12_coast_259
  · rw [if_pos h108] at hm
    refine lv_aload_n hx hb dX12_coast_254 rfl (lv_at hl 1 rfl) ?_
    obtain ⟨S_109, hq110, hm⟩ := bd_some hm
    refine pw_cv (va_runV (As := []) (rest := []) ⟨hx, hb, hml, hown, hU⟩ (c_X12_sets l C X n S_104 hw.wf _ a0 (Ta0) S_109 hq110) (cwV 0 hU (pq_gV tw1463 tw1465 ts121 tw14 tc_X12_sets) rfl rfl rfl cd_X12_sets ⟨Nat.le_of_ble_eq_true rfl, Nat.le_of_ble_eq_true rfl⟩) (pw_preV hw Ta0 (by decide) rfl) rfl rfl hl.1 rfl (lv_room (Nat.le_of_ble_eq_true rfl)) dX12_coast_255 ⟨Nat.zero_le _, Nat.zero_le _⟩) hw (fun H locs hw hx111 => ?_)
    have Ta0 : TY S_109 a0 12 := ty_ext hx111 Ta0
    have hE : Ext S0 S_109 := Ext.tr hE hx111
    refine lv_iload_n hx hb dX12_coast_258 rfl (lv_at hl 0 rfl) ?_
    cases hm
    exact pw_iret hx hb hr rfl hlk hw hE dX12_coast_259
def b_X12_coast_171 (n : Nat) (a0 : Nat) (S : pq_S) : Option (Int32 × pq_S) := b_X12_coast_237 n a0 S
set_option maxHeartbeats 4000000 in
set_option maxRecDepth 100000 in
theorem wb_X12_coast_171 {p : Program} {l : Launch} {e : Env} {s : State} {m : MethodId} {args : Array Value} {below : List Frame} {meth : Method} {c : Code} (cx : Cx p s m args meth c cX12_coast 5 RX12 (some .int)) (C : pq_C) (X : va_W) (S0 : pq_S) (n : Nat) (r : Int32) (S1 : pq_S) : ∀ (a0 : Nat) (S : pq_S) (H : Heap) (locs : List Loc) (ls : Array Slot), PW C X S (pq_F C X S0 s.heap.size) H locs s → Ext S0 S → TY S a0 12 → lv_has ls 5 [(0, .ref a0)] → b_X12_coast_171 n a0 S = some (r, S1) → W p l e rm_X12_coast s m args below meth c H locs 0 0 (MQ below (QcI C X S0 s.heap.size r S1) args s 0 0 (pq_F C X S0 s.heap.size)) (F0 m 171 ls []) := by
  obtain ⟨hx, hb, hml, hown, hU, hr, hlk⟩ := id cx
  intro a0 S H locs ls hw hE Ta0 hl hm
  rw [b_X12_coast_171] at hm
  refine lv_goto (tgt := 237) hx hb dX12_coast_171 (by decide) ?_
  exact wb_X12_coast_237 cx C X S0 n r S1 a0 S _ _ _ hw hE Ta0 (lv_sub hl [0] rfl) hm
def b_X12_coast_164 (n : Nat) (k26 : Nat → Int32 → pq_S → Option (Int32 × pq_S)) (a0 : Nat) (x2 : Int32) (x3 : Int32) (x4 : Int32) (S : pq_S) : Option (Int32 × pq_S) := cb (m_X12_fine n a0 S) fun r67 S_65 => if r67 = 0 then b_X12_coast_171 n a0 S_65 else Option.bind (m_X12_pass n a0 S_65) fun S_71 => if x4 = 0 then cb (m_X12_of n 4 S_71) fun r77 S_75 => if x3 = r77 then cb (m_X12_readNumber n a0 0 8 S_75) fun r86 S_84 => b_X12_coast_225 n k26 a0 x2 (sI S_84 1222 a0 r86) else cb (m_X12_readNumber n a0 0 99 S_75) fun r82 S_80 => b_X12_coast_225 n k26 a0 x2 (sI S_80 1223 a0 r82) else Option.bind (m_X12_readRow n a0 x3 S_71) fun S_88 => b_X12_coast_225 n k26 a0 x2 S_88
set_option maxHeartbeats 4000000 in
set_option maxRecDepth 100000 in
theorem wb_X12_coast_164 {p : Program} {l : Launch} {e : Env} {s : State} {m : MethodId} {args : Array Value} {below : List Frame} {meth : Method} {c : Code} (cx : Cx p s m args meth c cX12_coast 5 RX12 (some .int)) (C : pq_C) (X : va_W) (S0 : pq_S) (n : Nat) (r : Int32) (S1 : pq_S) (k26 : Nat → Int32 → pq_S → Option (Int32 × pq_S)) (hk26 : ∀ (a0 : Nat) (x2 : Int32) (S : pq_S) (H : Heap) (locs : List Loc) (ls : Array Slot), PW C X S (pq_F C X S0 s.heap.size) H locs s → Ext S0 S → TY S a0 12 → lv_has ls 5 [(0, .ref a0), (2, .int x2)] → k26 a0 x2 S = some (r, S1) → W p l e rm_X12_coast s m args below meth c H locs 0 0 (MQ below (QcI C X S0 s.heap.size r S1) args s 0 0 (pq_F C X S0 s.heap.size)) (F0 m 44 ls [])) : ∀ (a0 : Nat) (x2 : Int32) (x3 : Int32) (x4 : Int32) (S : pq_S) (H : Heap) (locs : List Loc) (ls : Array Slot), PW C X S (pq_F C X S0 s.heap.size) H locs s → Ext S0 S → TY S a0 12 → lv_has ls 5 [(0, .ref a0), (2, .int x2), (3, .int x3), (4, .int x4)] → b_X12_coast_164 n k26 a0 x2 x3 x4 S = some (r, S1) → W p l e rm_X12_coast s m args below meth c H locs 0 0 (MQ below (QcI C X S0 s.heap.size r S1) args s 0 0 (pq_F C X S0 s.heap.size)) (F0 m 164 ls []) := by
  obtain ⟨hx, hb, hml, hown, hU, hr, hlk⟩ := id cx
  intro a0 x2 x3 x4 S H locs ls hw hE Ta0 hl hm
  rw [b_X12_coast_164] at hm
  refine lv_aload_n hx hb dX12_coast_164 rfl (lv_at hl 0 rfl) ?_
  obtain ⟨r67, S_65, hq66, hm⟩ := cb_some hm
  refine pw_cz (va_runV (As := []) (rest := []) ⟨hx, hb, hml, hown, hU⟩ (c_X12_fine l C X n S hw.wf _ a0 (Ta0) r67 S_65 hq66) (cwV 0 hU (pq_gV tw1711 tw1713 ts125 tw14 tc_X12_fine) rfl rfl rfl cd_X12_fine ⟨Nat.le_of_ble_eq_true rfl, Nat.le_of_ble_eq_true rfl⟩) (pw_preV hw Ta0 (by decide) rfl) rfl rfl hl.1 rfl (lv_room (Nat.le_of_ble_eq_true rfl)) dX12_coast_165 ⟨Nat.zero_le _, Nat.zero_le _⟩) hw (fun H locs hw hx68 hz69 => ?_)
  have Ta0 : TY S_65 a0 12 := ty_ext hx68 Ta0
  have hE : Ext S0 S_65 := Ext.tr hE hx68
  refine lv_if_ne (tgt := 174) hx hb dX12_coast_168 (by decide) (fun h70 => ?_) (fun h70 => ?_)
  · rw [if_neg h70] at hm
    refine lv_aload_n hx hb dX12_coast_174 rfl (lv_at hl 0 rfl) ?_
    obtain ⟨S_71, hq72, hm⟩ := bd_some hm
    refine pw_cv (va_runV (As := []) (rest := []) ⟨hx, hb, hml, hown, hU⟩ (c_X12_pass l C X n S_65 hw.wf _ a0 (Ta0) S_71 hq72) (cwV 0 hU (pq_gV tw1749 tw1751 ts131 tw14 tc_X12_pass) rfl rfl rfl cd_X12_pass ⟨Nat.le_of_ble_eq_true rfl, Nat.le_of_ble_eq_true rfl⟩) (pw_preV hw Ta0 (by decide) rfl) rfl rfl hl.1 rfl (lv_room (Nat.le_of_ble_eq_true rfl)) dX12_coast_175 ⟨Nat.zero_le _, Nat.zero_le _⟩) hw (fun H locs hw hx73 => ?_)
    have Ta0 : TY S_71 a0 12 := ty_ext hx73 Ta0
    have hE : Ext S0 S_71 := Ext.tr hE hx73
    refine lv_iload hx hb dX12_coast_178 (lv_at hl 3 rfl) ?_
    refine lv_if_eq (tgt := 191) hx hb dX12_coast_180 (by decide) (fun h74 => ?_) (fun h74 => ?_)
    · rw [if_pos h74] at hm
      refine lv_iload_n hx hb dX12_coast_191 rfl (lv_at hl 2 rfl) ?_
      refine va_ldcS hx hb hown (hw.str 25 rfl) dX12_coast_192 ?_
      obtain ⟨r77, S_75, hq76, hm⟩ := cb_some hm
      refine pw_ci (va_runS (As := [.ref (C.2.2.2.2.2.2.1 4)]) (rest := [.int x3]) ⟨hx, hb, hml, hown, hU⟩ (c_X12_of l C X n S_71 hw.wf _ 4 ((by decide)) r77 S_75 hq76) ⟨callB_of 1 hU (pq_g1 tc_X12_of) rfl rfl rfl (hU _ tw14) (hU _ tw1731) cd_X12_of.2 ⟨Nat.le_of_ble_eq_true rfl, Nat.le_of_ble_eq_true rfl⟩, hU _ tw1732⟩ (pw_preS hw) rfl rfl hl.1 rfl (lv_room (Nat.le_of_ble_eq_true rfl)) dX12_coast_194 ⟨Nat.zero_le _, Nat.zero_le _⟩) hw (fun H locs hw hx78 => ?_)
      have Ta0 : TY S_75 a0 12 := ty_ext hx78 Ta0
      have hE : Ext S0 S_75 := Ext.tr hE hx78
      refine lv_icmp_ne (tgt := 214) hx hb dX12_coast_197 (by decide) (fun h79 => ?_) (fun h79 => ?_)
      · rw [if_neg h79] at hm
        refine lv_aload_n hx hb dX12_coast_214 rfl (lv_at hl 0 rfl) ?_
        refine lv_aload_n hx hb dX12_coast_215 rfl (lv_at hl 0 rfl) ?_
        refine lv_iconst (v := 0) hx hb dX12_coast_216 (by decide) ?_
        refine lv_bipush (v := 99) hx hb dX12_coast_217 (by decide) ?_
        obtain ⟨r82, S_80, hq81, hm⟩ := cb_some hm
        refine pw_ci (va_runV (As := [.int 0, .int 99]) (rest := [.ref a0]) ⟨hx, hb, hml, hown, hU⟩ (c_X12_readNumber l C X n S_75 hw.wf _ a0 0 99 (Ta0) r82 S_80 hq81) (cwV 2 hU (pq_gV tw1757 tw1759 ts133 tw14 tc_X12_readNumber) rfl rfl rfl cd_X12_readNumber ⟨Nat.le_of_ble_eq_true rfl, Nat.le_of_ble_eq_true rfl⟩) (pw_preV hw Ta0 (by decide) rfl) rfl rfl hl.1 rfl (lv_room (Nat.le_of_ble_eq_true rfl)) dX12_coast_219 ⟨Nat.zero_le _, Nat.zero_le _⟩) hw (fun H locs hw hx83 => ?_)
        have Ta0 : TY S_80 a0 12 := ty_ext hx83 Ta0
        have hE : Ext S0 S_80 := Ext.tr hE hx83
        refine pp_i (k := 12) (j := 23) (f := 1223) hx hb hown hU iu12 tyX12_ok nmX12 hw Ta0 (by decide) rfl (hU _ tw1494) rfl rfl rfl dX12_coast_222 (fun H locs hw => ?_)
        exact wb_X12_coast_225 cx C X S0 n r S1 _ hk26 a0 x2 (sI S_80 1223 a0 r82) _ _ _ hw hE Ta0 (lv_sub hl [0, 1] rfl) hm
      · rw [if_pos h79] at hm
        refine lv_aload_n hx hb dX12_coast_200 rfl (lv_at hl 0 rfl) ?_
        refine lv_aload_n hx hb dX12_coast_201 rfl (lv_at hl 0 rfl) ?_
        refine lv_iconst (v := 0) hx hb dX12_coast_202 (by decide) ?_
        refine lv_bipush (v := 8) hx hb dX12_coast_203 (by decide) ?_
        obtain ⟨r86, S_84, hq85, hm⟩ := cb_some hm
        refine pw_ci (va_runV (As := [.int 0, .int 8]) (rest := [.ref a0]) ⟨hx, hb, hml, hown, hU⟩ (c_X12_readNumber l C X n S_75 hw.wf _ a0 0 8 (Ta0) r86 S_84 hq85) (cwV 2 hU (pq_gV tw1757 tw1759 ts133 tw14 tc_X12_readNumber) rfl rfl rfl cd_X12_readNumber ⟨Nat.le_of_ble_eq_true rfl, Nat.le_of_ble_eq_true rfl⟩) (pw_preV hw Ta0 (by decide) rfl) rfl rfl hl.1 rfl (lv_room (Nat.le_of_ble_eq_true rfl)) dX12_coast_205 ⟨Nat.zero_le _, Nat.zero_le _⟩) hw (fun H locs hw hx87 => ?_)
        have Ta0 : TY S_84 a0 12 := ty_ext hx87 Ta0
        have hE : Ext S0 S_84 := Ext.tr hE hx87
        refine pp_i (k := 12) (j := 22) (f := 1222) hx hb hown hU iu12 tyX12_ok nmX12 hw Ta0 (by decide) rfl (hU _ tw1493) rfl rfl rfl dX12_coast_208 (fun H locs hw => ?_)
        refine lv_goto (tgt := 225) hx hb dX12_coast_211 (by decide) ?_
        exact wb_X12_coast_225 cx C X S0 n r S1 _ hk26 a0 x2 (sI S_84 1222 a0 r86) _ _ _ hw hE Ta0 (lv_sub hl [0, 1] rfl) hm
    · rw [if_neg h74] at hm
      refine lv_aload_n hx hb dX12_coast_183 rfl (lv_at hl 0 rfl) ?_
      refine lv_iload_n hx hb dX12_coast_184 rfl (lv_at hl 2 rfl) ?_
      obtain ⟨S_88, hq89, hm⟩ := bd_some hm
      refine pw_cv (va_runV (As := [.int x3]) (rest := []) ⟨hx, hb, hml, hown, hU⟩ (c_X12_readRow l C X n S_71 hw.wf _ a0 x3 (Ta0) S_88 hq89) (cwV 1 hU (pq_gV tw1753 tw1755 ts132 tw14 tc_X12_readRow) rfl rfl rfl cd_X12_readRow ⟨Nat.le_of_ble_eq_true rfl, Nat.le_of_ble_eq_true rfl⟩) (pw_preV hw Ta0 (by decide) rfl) rfl rfl hl.1 rfl (lv_room (Nat.le_of_ble_eq_true rfl)) dX12_coast_185 ⟨Nat.zero_le _, Nat.zero_le _⟩) hw (fun H locs hw hx90 => ?_)
      have Ta0 : TY S_88 a0 12 := ty_ext hx90 Ta0
      have hE : Ext S0 S_88 := Ext.tr hE hx90
      refine lv_goto (tgt := 225) hx hb dX12_coast_188 (by decide) ?_
      exact wb_X12_coast_225 cx C X S0 n r S1 _ hk26 a0 x2 S_88 _ _ _ hw hE Ta0 (lv_sub hl [0, 1] rfl) hm
  · rw [if_pos h70] at hm
    exact wb_X12_coast_171 cx C X S0 n r S1 a0 S_65 _ _ _ hw hE Ta0 (lv_sub hl [0] rfl) hm
def b_X12_coast_155 (n : Nat) (k26 : Nat → Int32 → pq_S → Option (Int32 × pq_S)) (a0 : Nat) (x2 : Int32) (x3 : Int32) (x4 : Int32) (S : pq_S) : Option (Int32 × pq_S) := Option.bind (m_X12_wrong n a0 3 (pI S 1204 a0) S) fun S_101 => b_X12_coast_164 n k26 a0 x2 x3 x4 S_101
set_option maxHeartbeats 4000000 in
set_option maxRecDepth 100000 in
theorem wb_X12_coast_155 {p : Program} {l : Launch} {e : Env} {s : State} {m : MethodId} {args : Array Value} {below : List Frame} {meth : Method} {c : Code} (cx : Cx p s m args meth c cX12_coast 5 RX12 (some .int)) (C : pq_C) (X : va_W) (S0 : pq_S) (n : Nat) (r : Int32) (S1 : pq_S) (k26 : Nat → Int32 → pq_S → Option (Int32 × pq_S)) (hk26 : ∀ (a0 : Nat) (x2 : Int32) (S : pq_S) (H : Heap) (locs : List Loc) (ls : Array Slot), PW C X S (pq_F C X S0 s.heap.size) H locs s → Ext S0 S → TY S a0 12 → lv_has ls 5 [(0, .ref a0), (2, .int x2)] → k26 a0 x2 S = some (r, S1) → W p l e rm_X12_coast s m args below meth c H locs 0 0 (MQ below (QcI C X S0 s.heap.size r S1) args s 0 0 (pq_F C X S0 s.heap.size)) (F0 m 44 ls [])) : ∀ (a0 : Nat) (x2 : Int32) (x3 : Int32) (x4 : Int32) (S : pq_S) (H : Heap) (locs : List Loc) (ls : Array Slot), PW C X S (pq_F C X S0 s.heap.size) H locs s → Ext S0 S → TY S a0 12 → lv_has ls 5 [(0, .ref a0), (2, .int x2), (3, .int x3), (4, .int x4)] → b_X12_coast_155 n k26 a0 x2 x3 x4 S = some (r, S1) → W p l e rm_X12_coast s m args below meth c H locs 0 0 (MQ below (QcI C X S0 s.heap.size r S1) args s 0 0 (pq_F C X S0 s.heap.size)) (F0 m 155 ls []) := by
  obtain ⟨hx, hb, hml, hown, hU, hr, hlk⟩ := id cx
  intro a0 x2 x3 x4 S H locs ls hw hE Ta0 hl hm
  rw [b_X12_coast_155] at hm
  refine lv_aload_n hx hb dX12_coast_155 rfl (lv_at hl 0 rfl) ?_
  refine lv_iconst (v := 3) hx hb dX12_coast_156 (by decide) ?_
  refine lv_aload_n hx hb dX12_coast_157 rfl (lv_at hl 0 rfl) ?_
  refine pg_i (k := 12) (j := 4) (f := 1204) hx hb hown hU iu12 hw Ta0 (by decide) rfl (hU _ tw1475) rfl dX12_coast_158 ?_
  obtain ⟨S_101, hq102, hm⟩ := bd_some hm
  refine pw_cv (va_runV (As := [.int 3, .int (pI S 1204 a0)]) (rest := []) ⟨hx, hb, hml, hown, hU⟩ (c_X12_wrong l C X n S hw.wf _ a0 3 (pI S 1204 a0) (Ta0) S_101 hq102) (cwV 2 hU (pq_gV tw1741 tw1743 ts129 tw14 tc_X12_wrong) rfl rfl rfl cd_X12_wrong ⟨Nat.le_of_ble_eq_true rfl, Nat.le_of_ble_eq_true rfl⟩) (pw_preV hw Ta0 (by decide) rfl) rfl rfl hl.1 rfl (lv_room (Nat.le_of_ble_eq_true rfl)) dX12_coast_161 ⟨Nat.zero_le _, Nat.zero_le _⟩) hw (fun H locs hw hx103 => ?_)
  have Ta0 : TY S_101 a0 12 := ty_ext hx103 Ta0
  have hE : Ext S0 S_101 := Ext.tr hE hx103
  exact wb_X12_coast_164 cx C X S0 n r S1 _ hk26 a0 x2 x3 x4 S_101 _ _ _ hw hE Ta0 (lv_sub hl [0, 1, 2, 3] rfl) hm
def b_X12_coast_141 (n : Nat) (k26 : Nat → Int32 → pq_S → Option (Int32 × pq_S)) (a0 : Nat) (x2 : Int32) (x3 : Int32) (x4 : Int32) (S : pq_S) : Option (Int32 × pq_S) := if x2 = 60 then b_X12_coast_155 n k26 a0 x2 x3 x4 S else cb (m_X12_isFull n a0 x3 S) fun r97 S_95 => if r97 = 0 then b_X12_coast_164 n k26 a0 x2 x3 x4 S_95 else b_X12_coast_155 n k26 a0 x2 x3 x4 S_95
set_option maxHeartbeats 4000000 in
set_option maxRecDepth 100000 in
theorem wb_X12_coast_141 {p : Program} {l : Launch} {e : Env} {s : State} {m : MethodId} {args : Array Value} {below : List Frame} {meth : Method} {c : Code} (cx : Cx p s m args meth c cX12_coast 5 RX12 (some .int)) (C : pq_C) (X : va_W) (S0 : pq_S) (n : Nat) (r : Int32) (S1 : pq_S) (k26 : Nat → Int32 → pq_S → Option (Int32 × pq_S)) (hk26 : ∀ (a0 : Nat) (x2 : Int32) (S : pq_S) (H : Heap) (locs : List Loc) (ls : Array Slot), PW C X S (pq_F C X S0 s.heap.size) H locs s → Ext S0 S → TY S a0 12 → lv_has ls 5 [(0, .ref a0), (2, .int x2)] → k26 a0 x2 S = some (r, S1) → W p l e rm_X12_coast s m args below meth c H locs 0 0 (MQ below (QcI C X S0 s.heap.size r S1) args s 0 0 (pq_F C X S0 s.heap.size)) (F0 m 44 ls [])) : ∀ (a0 : Nat) (x2 : Int32) (x3 : Int32) (x4 : Int32) (S : pq_S) (H : Heap) (locs : List Loc) (ls : Array Slot), PW C X S (pq_F C X S0 s.heap.size) H locs s → Ext S0 S → TY S a0 12 → lv_has ls 5 [(0, .ref a0), (2, .int x2), (3, .int x3), (4, .int x4)] → b_X12_coast_141 n k26 a0 x2 x3 x4 S = some (r, S1) → W p l e rm_X12_coast s m args below meth c H locs 0 0 (MQ below (QcI C X S0 s.heap.size r S1) args s 0 0 (pq_F C X S0 s.heap.size)) (F0 m 141 ls []) := by
  obtain ⟨hx, hb, hml, hown, hU, hr, hlk⟩ := id cx
  intro a0 x2 x3 x4 S H locs ls hw hE Ta0 hl hm
  rw [b_X12_coast_141] at hm
  refine lv_iload_n hx hb dX12_coast_141 rfl (lv_at hl 1 rfl) ?_
  refine lv_bipush (v := 60) hx hb dX12_coast_142 (by decide) ?_
  refine lv_icmp_eq (tgt := 155) hx hb dX12_coast_144 (by decide) (fun h94 => ?_) (fun h94 => ?_)
  · rw [if_pos h94] at hm
    exact wb_X12_coast_155 cx C X S0 n r S1 _ hk26 a0 x2 x3 x4 S _ _ _ hw hE Ta0 (lv_sub hl [0, 1, 2, 3] rfl) hm
  · rw [if_neg h94] at hm
    refine lv_aload_n hx hb dX12_coast_147 rfl (lv_at hl 0 rfl) ?_
    refine lv_iload_n hx hb dX12_coast_148 rfl (lv_at hl 2 rfl) ?_
    obtain ⟨r97, S_95, hq96, hm⟩ := cb_some hm
    refine pw_cz (va_runV (As := [.int x3]) (rest := []) ⟨hx, hb, hml, hown, hU⟩ (c_X12_isFull l C X n S hw.wf _ a0 x3 (Ta0) r97 S_95 hq96) (cwV 1 hU (pq_gV tw1745 tw1747 ts130 tw14 tc_X12_isFull) rfl rfl rfl cd_X12_isFull ⟨Nat.le_of_ble_eq_true rfl, Nat.le_of_ble_eq_true rfl⟩) (pw_preV hw Ta0 (by decide) rfl) rfl rfl hl.1 rfl (lv_room (Nat.le_of_ble_eq_true rfl)) dX12_coast_149 ⟨Nat.zero_le _, Nat.zero_le _⟩) hw (fun H locs hw hx98 hz99 => ?_)
    have Ta0 : TY S_95 a0 12 := ty_ext hx98 Ta0
    have hE : Ext S0 S_95 := Ext.tr hE hx98
    refine lv_if_eq (tgt := 164) hx hb dX12_coast_152 (by decide) (fun h100 => ?_) (fun h100 => ?_)
    · rw [if_pos h100] at hm
      exact wb_X12_coast_164 cx C X S0 n r S1 _ hk26 a0 x2 x3 x4 S_95 _ _ _ hw hE Ta0 (lv_sub hl [0, 1, 2, 3] rfl) hm
    · rw [if_neg h100] at hm
      exact wb_X12_coast_155 cx C X S0 n r S1 _ hk26 a0 x2 x3 x4 S_95 _ _ _ hw hE Ta0 (lv_sub hl [0, 1, 2, 3] rfl) hm
def b_X12_coast_104 (n : Nat) (k26 : Nat → Int32 → pq_S → Option (Int32 × pq_S)) (a0 : Nat) (x2 : Int32) (x3 : Int32) (z0 : Int32) (S : pq_S) : Option (Int32 × pq_S) := if z0 = 0 then cb (m_X12_of n 4 S) fun r54 S_52 => if x3 = r54 then b_X12_coast_141 n k26 a0 x2 x3 z0 S_52 else cb (m_X12_of n 5 S_52) fun r59 S_57 => if x3 = r59 then b_X12_coast_141 n k26 a0 x2 x3 z0 S_57 else Option.bind (m_X12_wrong n a0 1 (pI S_57 1204 a0) S_57) fun S_62 => b_X12_coast_164 n k26 a0 x2 x3 z0 S_62 else b_X12_coast_141 n k26 a0 x2 x3 z0 S
set_option maxHeartbeats 4000000 in
set_option maxRecDepth 100000 in
theorem wb_X12_coast_104 {p : Program} {l : Launch} {e : Env} {s : State} {m : MethodId} {args : Array Value} {below : List Frame} {meth : Method} {c : Code} (cx : Cx p s m args meth c cX12_coast 5 RX12 (some .int)) (C : pq_C) (X : va_W) (S0 : pq_S) (n : Nat) (r : Int32) (S1 : pq_S) (k26 : Nat → Int32 → pq_S → Option (Int32 × pq_S)) (hk26 : ∀ (a0 : Nat) (x2 : Int32) (S : pq_S) (H : Heap) (locs : List Loc) (ls : Array Slot), PW C X S (pq_F C X S0 s.heap.size) H locs s → Ext S0 S → TY S a0 12 → lv_has ls 5 [(0, .ref a0), (2, .int x2)] → k26 a0 x2 S = some (r, S1) → W p l e rm_X12_coast s m args below meth c H locs 0 0 (MQ below (QcI C X S0 s.heap.size r S1) args s 0 0 (pq_F C X S0 s.heap.size)) (F0 m 44 ls [])) : ∀ (a0 : Nat) (x2 : Int32) (x3 : Int32) (z0 : Int32) (S : pq_S) (H : Heap) (locs : List Loc) (ls : Array Slot), PW C X S (pq_F C X S0 s.heap.size) H locs s → Ext S0 S → TY S a0 12 → lv_has ls 5 [(0, .ref a0), (2, .int x2), (3, .int x3)] → b_X12_coast_104 n k26 a0 x2 x3 z0 S = some (r, S1) → W p l e rm_X12_coast s m args below meth c H locs 0 0 (MQ below (QcI C X S0 s.heap.size r S1) args s 0 0 (pq_F C X S0 s.heap.size)) (F0 m 104 ls [.int z0]) := by
  obtain ⟨hx, hb, hml, hown, hU, hr, hlk⟩ := id cx
  intro a0 x2 x3 z0 S H locs ls hw hE Ta0 hl hm
  rw [b_X12_coast_104] at hm
  refine lv_istore (lv' := [(4, .int z0), (0, .ref a0), (2, .int x2), (3, .int x3)]) hx hb dX12_coast_104 hl (by decide) rfl (fun ls hl => ?_)
  refine lv_iload hx hb dX12_coast_106 (lv_at hl 0 rfl) ?_
  refine lv_if_ne (tgt := 141) hx hb dX12_coast_108 (by decide) (fun h51 => ?_) (fun h51 => ?_)
  · rw [if_neg h51] at hm
    exact wb_X12_coast_141 cx C X S0 n r S1 _ hk26 a0 x2 x3 z0 S _ _ _ hw hE Ta0 (lv_sub hl [1, 2, 3, 0] rfl) hm
  · rw [if_pos h51] at hm
    refine lv_iload_n hx hb dX12_coast_111 rfl (lv_at hl 3 rfl) ?_
    refine va_ldcS hx hb hown (hw.str 25 rfl) dX12_coast_112 ?_
    obtain ⟨r54, S_52, hq53, hm⟩ := cb_some hm
    refine pw_ci (va_runS (As := [.ref (C.2.2.2.2.2.2.1 4)]) (rest := [.int x3]) ⟨hx, hb, hml, hown, hU⟩ (c_X12_of l C X n S hw.wf _ 4 ((by decide)) r54 S_52 hq53) ⟨callB_of 1 hU (pq_g1 tc_X12_of) rfl rfl rfl (hU _ tw14) (hU _ tw1731) cd_X12_of.2 ⟨Nat.le_of_ble_eq_true rfl, Nat.le_of_ble_eq_true rfl⟩, hU _ tw1732⟩ (pw_preS hw) rfl rfl hl.1 rfl (lv_room (Nat.le_of_ble_eq_true rfl)) dX12_coast_114 ⟨Nat.zero_le _, Nat.zero_le _⟩) hw (fun H locs hw hx55 => ?_)
    have Ta0 : TY S_52 a0 12 := ty_ext hx55 Ta0
    have hE : Ext S0 S_52 := Ext.tr hE hx55
    refine lv_icmp_eq (tgt := 141) hx hb dX12_coast_117 (by decide) (fun h56 => ?_) (fun h56 => ?_)
    · rw [if_pos h56] at hm
      exact wb_X12_coast_141 cx C X S0 n r S1 _ hk26 a0 x2 x3 z0 S_52 _ _ _ hw hE Ta0 (lv_sub hl [1, 2, 3, 0] rfl) hm
    · rw [if_neg h56] at hm
      refine lv_iload_n hx hb dX12_coast_120 rfl (lv_at hl 3 rfl) ?_
      refine va_ldcS hx hb hown (hw.str 26 rfl) dX12_coast_121 ?_
      obtain ⟨r59, S_57, hq58, hm⟩ := cb_some hm
      refine pw_ci (va_runS (As := [.ref (C.2.2.2.2.2.2.1 5)]) (rest := [.int x3]) ⟨hx, hb, hml, hown, hU⟩ (c_X12_of l C X n S_52 hw.wf _ 5 ((by decide)) r59 S_57 hq58) ⟨callB_of 1 hU (pq_g1 tc_X12_of) rfl rfl rfl (hU _ tw14) (hU _ tw1731) cd_X12_of.2 ⟨Nat.le_of_ble_eq_true rfl, Nat.le_of_ble_eq_true rfl⟩, hU _ tw1732⟩ (pw_preS hw) rfl rfl hl.1 rfl (lv_room (Nat.le_of_ble_eq_true rfl)) dX12_coast_123 ⟨Nat.zero_le _, Nat.zero_le _⟩) hw (fun H locs hw hx60 => ?_)
      have Ta0 : TY S_57 a0 12 := ty_ext hx60 Ta0
      have hE : Ext S0 S_57 := Ext.tr hE hx60
      refine lv_icmp_eq (tgt := 141) hx hb dX12_coast_126 (by decide) (fun h61 => ?_) (fun h61 => ?_)
      · rw [if_pos h61] at hm
        exact wb_X12_coast_141 cx C X S0 n r S1 _ hk26 a0 x2 x3 z0 S_57 _ _ _ hw hE Ta0 (lv_sub hl [1, 2, 3, 0] rfl) hm
      · rw [if_neg h61] at hm
        refine lv_aload_n hx hb dX12_coast_129 rfl (lv_at hl 1 rfl) ?_
        refine lv_iconst (v := 1) hx hb dX12_coast_130 (by decide) ?_
        refine lv_aload_n hx hb dX12_coast_131 rfl (lv_at hl 1 rfl) ?_
        refine pg_i (k := 12) (j := 4) (f := 1204) hx hb hown hU iu12 hw Ta0 (by decide) rfl (hU _ tw1475) rfl dX12_coast_132 ?_
        obtain ⟨S_62, hq63, hm⟩ := bd_some hm
        refine pw_cv (va_runV (As := [.int 1, .int (pI S_57 1204 a0)]) (rest := []) ⟨hx, hb, hml, hown, hU⟩ (c_X12_wrong l C X n S_57 hw.wf _ a0 1 (pI S_57 1204 a0) (Ta0) S_62 hq63) (cwV 2 hU (pq_gV tw1741 tw1743 ts129 tw14 tc_X12_wrong) rfl rfl rfl cd_X12_wrong ⟨Nat.le_of_ble_eq_true rfl, Nat.le_of_ble_eq_true rfl⟩) (pw_preV hw Ta0 (by decide) rfl) rfl rfl hl.1 rfl (lv_room (Nat.le_of_ble_eq_true rfl)) dX12_coast_135 ⟨Nat.zero_le _, Nat.zero_le _⟩) hw (fun H locs hw hx64 => ?_)
        have Ta0 : TY S_62 a0 12 := ty_ext hx64 Ta0
        have hE : Ext S0 S_62 := Ext.tr hE hx64
        refine lv_goto (tgt := 164) hx hb dX12_coast_138 (by decide) ?_
        exact wb_X12_coast_164 cx C X S0 n r S1 _ hk26 a0 x2 x3 z0 S_62 _ _ _ hw hE Ta0 (lv_sub hl [1, 2, 3, 0] rfl) hm
def b_X12_coast_99 (n : Nat) (k26 : Nat → Int32 → pq_S → Option (Int32 × pq_S)) (a0 : Nat) (x2 : Int32) (x3 : Int32) (S : pq_S) : Option (Int32 × pq_S) := b_X12_coast_104 n k26 a0 x2 x3 1 S
set_option maxHeartbeats 4000000 in
set_option maxRecDepth 100000 in
theorem wb_X12_coast_99 {p : Program} {l : Launch} {e : Env} {s : State} {m : MethodId} {args : Array Value} {below : List Frame} {meth : Method} {c : Code} (cx : Cx p s m args meth c cX12_coast 5 RX12 (some .int)) (C : pq_C) (X : va_W) (S0 : pq_S) (n : Nat) (r : Int32) (S1 : pq_S) (k26 : Nat → Int32 → pq_S → Option (Int32 × pq_S)) (hk26 : ∀ (a0 : Nat) (x2 : Int32) (S : pq_S) (H : Heap) (locs : List Loc) (ls : Array Slot), PW C X S (pq_F C X S0 s.heap.size) H locs s → Ext S0 S → TY S a0 12 → lv_has ls 5 [(0, .ref a0), (2, .int x2)] → k26 a0 x2 S = some (r, S1) → W p l e rm_X12_coast s m args below meth c H locs 0 0 (MQ below (QcI C X S0 s.heap.size r S1) args s 0 0 (pq_F C X S0 s.heap.size)) (F0 m 44 ls [])) : ∀ (a0 : Nat) (x2 : Int32) (x3 : Int32) (S : pq_S) (H : Heap) (locs : List Loc) (ls : Array Slot), PW C X S (pq_F C X S0 s.heap.size) H locs s → Ext S0 S → TY S a0 12 → lv_has ls 5 [(0, .ref a0), (2, .int x2), (3, .int x3)] → b_X12_coast_99 n k26 a0 x2 x3 S = some (r, S1) → W p l e rm_X12_coast s m args below meth c H locs 0 0 (MQ below (QcI C X S0 s.heap.size r S1) args s 0 0 (pq_F C X S0 s.heap.size)) (F0 m 99 ls []) := by
  obtain ⟨hx, hb, hml, hown, hU, hr, hlk⟩ := id cx
  intro a0 x2 x3 S H locs ls hw hE Ta0 hl hm
  rw [b_X12_coast_99] at hm
  refine lv_iconst (v := 1) hx hb dX12_coast_99 (by decide) ?_
  refine lv_goto (tgt := 104) hx hb dX12_coast_100 (by decide) ?_
  exact wb_X12_coast_104 cx C X S0 n r S1 _ hk26 a0 x2 x3 1 S _ _ _ hw hE Ta0 (lv_sub hl [0, 1, 2] rfl) hm
def b_X12_coast_44 (n : Nat) : Nat → Nat → Int32 → pq_S → Option (Int32 × pq_S)
  | 0, _, _, _ => none
  | f + 1, a0, x2, S => cb (m_X12_fine n a0 S) fun r17 S_15 => if r17 = 0 then b_X12_coast_237 n a0 S_15 else cb (m_X12_isMore n a0 S_15) fun r23 S_21 => if r23 = 0 then b_X12_coast_237 n a0 S_21 else cb (m_X12_word n a0 S_21) fun r29 S_27 => cb (m_X12_of n 0 S_27) fun r33 S_31 => if r29 = r33 then b_X12_coast_99 n (b_X12_coast_44 n f) a0 x2 r29 S_31 else cb (m_X12_of n 1 S_31) fun r38 S_36 => if r29 = r38 then b_X12_coast_99 n (b_X12_coast_44 n f) a0 x2 r29 S_36 else cb (m_X12_of n 2 S_36) fun r43 S_41 => if r29 = r43 then b_X12_coast_99 n (b_X12_coast_44 n f) a0 x2 r29 S_41 else cb (m_X12_of n 3 S_41) fun r48 S_46 => if r29 = r48 then b_X12_coast_99 n (b_X12_coast_44 n f) a0 x2 r29 S_46 else b_X12_coast_104 n (b_X12_coast_44 n f) a0 x2 r29 0 S_46
set_option maxHeartbeats 4000000 in
set_option maxRecDepth 100000 in
theorem wb_X12_coast_44 {p : Program} {l : Launch} {e : Env} {s : State} {m : MethodId} {args : Array Value} {below : List Frame} {meth : Method} {c : Code} (cx : Cx p s m args meth c cX12_coast 5 RX12 (some .int)) (C : pq_C) (X : va_W) (S0 : pq_S) (n : Nat) (r : Int32) (S1 : pq_S) : ∀ (f : Nat) (a0 : Nat) (x2 : Int32) (S : pq_S) (H : Heap) (locs : List Loc) (ls : Array Slot), PW C X S (pq_F C X S0 s.heap.size) H locs s → Ext S0 S → TY S a0 12 → lv_has ls 5 [(0, .ref a0), (2, .int x2)] → b_X12_coast_44 n f a0 x2 S = some (r, S1) → W p l e rm_X12_coast s m args below meth c H locs 0 0 (MQ below (QcI C X S0 s.heap.size r S1) args s 0 0 (pq_F C X S0 s.heap.size)) (F0 m 44 ls []) := by
  obtain ⟨hx, hb, hml, hown, hU, hr, hlk⟩ := id cx
  intro f
  induction f with
  | zero =>
    intro a0 x2 S H locs ls hw hE Ta0 hl hm
    cases hm
  | succ f ih =>
    intro a0 x2 S H locs ls hw hE Ta0 hl hm
    rw [b_X12_coast_44] at hm
    refine lv_aload_n hx hb dX12_coast_44 rfl (lv_at hl 0 rfl) ?_
    obtain ⟨r17, S_15, hq16, hm⟩ := cb_some hm
    refine pw_cz (va_runV (As := []) (rest := []) ⟨hx, hb, hml, hown, hU⟩ (c_X12_fine l C X n S hw.wf _ a0 (Ta0) r17 S_15 hq16) (cwV 0 hU (pq_gV tw1711 tw1713 ts125 tw14 tc_X12_fine) rfl rfl rfl cd_X12_fine ⟨Nat.le_of_ble_eq_true rfl, Nat.le_of_ble_eq_true rfl⟩) (pw_preV hw Ta0 (by decide) rfl) rfl rfl hl.1 rfl (lv_room (Nat.le_of_ble_eq_true rfl)) dX12_coast_45 ⟨Nat.zero_le _, Nat.zero_le _⟩) hw (fun H locs hw hx18 hz19 => ?_)
    have Ta0 : TY S_15 a0 12 := ty_ext hx18 Ta0
    have hE : Ext S0 S_15 := Ext.tr hE hx18
    refine lv_if_eq (tgt := 237) hx hb dX12_coast_48 (by decide) (fun h20 => ?_) (fun h20 => ?_)
    · rw [if_pos h20] at hm
      exact wb_X12_coast_237 cx C X S0 n r S1 a0 S_15 _ _ _ hw hE Ta0 (lv_sub hl [0] rfl) hm
    · rw [if_neg h20] at hm
      refine lv_aload_n hx hb dX12_coast_51 rfl (lv_at hl 0 rfl) ?_
      obtain ⟨r23, S_21, hq22, hm⟩ := cb_some hm
      refine pw_cz (va_runV (As := []) (rest := []) ⟨hx, hb, hml, hown, hU⟩ (c_X12_isMore l C X n S_15 hw.wf _ a0 (Ta0) r23 S_21 hq22) (cwV 0 hU (pq_gV tw1715 tw1717 ts126 tw14 tc_X12_isMore) rfl rfl rfl cd_X12_isMore ⟨Nat.le_of_ble_eq_true rfl, Nat.le_of_ble_eq_true rfl⟩) (pw_preV hw Ta0 (by decide) rfl) rfl rfl hl.1 rfl (lv_room (Nat.le_of_ble_eq_true rfl)) dX12_coast_52 ⟨Nat.zero_le _, Nat.zero_le _⟩) hw (fun H locs hw hx24 hz25 => ?_)
      have Ta0 : TY S_21 a0 12 := ty_ext hx24 Ta0
      have hE : Ext S0 S_21 := Ext.tr hE hx24
      refine lv_if_eq (tgt := 237) hx hb dX12_coast_55 (by decide) (fun h26 => ?_) (fun h26 => ?_)
      · rw [if_pos h26] at hm
        exact wb_X12_coast_237 cx C X S0 n r S1 a0 S_21 _ _ _ hw hE Ta0 (lv_sub hl [0] rfl) hm
      · rw [if_neg h26] at hm
        refine lv_aload_n hx hb dX12_coast_58 rfl (lv_at hl 0 rfl) ?_
        obtain ⟨r29, S_27, hq28, hm⟩ := cb_some hm
        refine pw_ci (va_runV (As := []) (rest := []) ⟨hx, hb, hml, hown, hU⟩ (c_X12_word l C X n S_21 hw.wf _ a0 (Ta0) r29 S_27 hq28) (cwV 0 hU (pq_gV tw1723 tw1725 ts128 tw14 tc_X12_word) rfl rfl rfl cd_X12_word ⟨Nat.le_of_ble_eq_true rfl, Nat.le_of_ble_eq_true rfl⟩) (pw_preV hw Ta0 (by decide) rfl) rfl rfl hl.1 rfl (lv_room (Nat.le_of_ble_eq_true rfl)) dX12_coast_59 ⟨Nat.zero_le _, Nat.zero_le _⟩) hw (fun H locs hw hx30 => ?_)
        have Ta0 : TY S_27 a0 12 := ty_ext hx30 Ta0
        have hE : Ext S0 S_27 := Ext.tr hE hx30
        refine lv_istore_n (lv' := [(3, .int r29), (0, .ref a0), (2, .int x2)]) hx hb dX12_coast_62 rfl hl (by decide) rfl (fun ls hl => ?_)
        refine lv_iload_n hx hb dX12_coast_63 rfl (lv_at hl 0 rfl) ?_
        refine va_ldcS hx hb hown (hw.str 21 rfl) dX12_coast_64 ?_
        obtain ⟨r33, S_31, hq32, hm⟩ := cb_some hm
        refine pw_ci (va_runS (As := [.ref (C.2.2.2.2.2.2.1 0)]) (rest := [.int r29]) ⟨hx, hb, hml, hown, hU⟩ (c_X12_of l C X n S_27 hw.wf _ 0 ((by decide)) r33 S_31 hq32) ⟨callB_of 1 hU (pq_g1 tc_X12_of) rfl rfl rfl (hU _ tw14) (hU _ tw1731) cd_X12_of.2 ⟨Nat.le_of_ble_eq_true rfl, Nat.le_of_ble_eq_true rfl⟩, hU _ tw1732⟩ (pw_preS hw) rfl rfl hl.1 rfl (lv_room (Nat.le_of_ble_eq_true rfl)) dX12_coast_66 ⟨Nat.zero_le _, Nat.zero_le _⟩) hw (fun H locs hw hx34 => ?_)
        have Ta0 : TY S_31 a0 12 := ty_ext hx34 Ta0
        have hE : Ext S0 S_31 := Ext.tr hE hx34
        refine lv_icmp_eq (tgt := 99) hx hb dX12_coast_69 (by decide) (fun h35 => ?_) (fun h35 => ?_)
        · rw [if_pos h35] at hm
          exact wb_X12_coast_99 cx C X S0 n r S1 _ ih a0 x2 r29 S_31 _ _ _ hw hE Ta0 (lv_sub hl [1, 2, 0] rfl) hm
        · rw [if_neg h35] at hm
          refine lv_iload_n hx hb dX12_coast_72 rfl (lv_at hl 0 rfl) ?_
          refine va_ldcS hx hb hown (hw.str 22 rfl) dX12_coast_73 ?_
          obtain ⟨r38, S_36, hq37, hm⟩ := cb_some hm
          refine pw_ci (va_runS (As := [.ref (C.2.2.2.2.2.2.1 1)]) (rest := [.int r29]) ⟨hx, hb, hml, hown, hU⟩ (c_X12_of l C X n S_31 hw.wf _ 1 ((by decide)) r38 S_36 hq37) ⟨callB_of 1 hU (pq_g1 tc_X12_of) rfl rfl rfl (hU _ tw14) (hU _ tw1731) cd_X12_of.2 ⟨Nat.le_of_ble_eq_true rfl, Nat.le_of_ble_eq_true rfl⟩, hU _ tw1732⟩ (pw_preS hw) rfl rfl hl.1 rfl (lv_room (Nat.le_of_ble_eq_true rfl)) dX12_coast_75 ⟨Nat.zero_le _, Nat.zero_le _⟩) hw (fun H locs hw hx39 => ?_)
          have Ta0 : TY S_36 a0 12 := ty_ext hx39 Ta0
          have hE : Ext S0 S_36 := Ext.tr hE hx39
          refine lv_icmp_eq (tgt := 99) hx hb dX12_coast_78 (by decide) (fun h40 => ?_) (fun h40 => ?_)
          · rw [if_pos h40] at hm
            exact wb_X12_coast_99 cx C X S0 n r S1 _ ih a0 x2 r29 S_36 _ _ _ hw hE Ta0 (lv_sub hl [1, 2, 0] rfl) hm
          · rw [if_neg h40] at hm
            refine lv_iload_n hx hb dX12_coast_81 rfl (lv_at hl 0 rfl) ?_
            refine va_ldcS hx hb hown (hw.str 23 rfl) dX12_coast_82 ?_
            obtain ⟨r43, S_41, hq42, hm⟩ := cb_some hm
            refine pw_ci (va_runS (As := [.ref (C.2.2.2.2.2.2.1 2)]) (rest := [.int r29]) ⟨hx, hb, hml, hown, hU⟩ (c_X12_of l C X n S_36 hw.wf _ 2 ((by decide)) r43 S_41 hq42) ⟨callB_of 1 hU (pq_g1 tc_X12_of) rfl rfl rfl (hU _ tw14) (hU _ tw1731) cd_X12_of.2 ⟨Nat.le_of_ble_eq_true rfl, Nat.le_of_ble_eq_true rfl⟩, hU _ tw1732⟩ (pw_preS hw) rfl rfl hl.1 rfl (lv_room (Nat.le_of_ble_eq_true rfl)) dX12_coast_84 ⟨Nat.zero_le _, Nat.zero_le _⟩) hw (fun H locs hw hx44 => ?_)
            have Ta0 : TY S_41 a0 12 := ty_ext hx44 Ta0
            have hE : Ext S0 S_41 := Ext.tr hE hx44
            refine lv_icmp_eq (tgt := 99) hx hb dX12_coast_87 (by decide) (fun h45 => ?_) (fun h45 => ?_)
            · rw [if_pos h45] at hm
              exact wb_X12_coast_99 cx C X S0 n r S1 _ ih a0 x2 r29 S_41 _ _ _ hw hE Ta0 (lv_sub hl [1, 2, 0] rfl) hm
            · rw [if_neg h45] at hm
              refine lv_iload_n hx hb dX12_coast_90 rfl (lv_at hl 0 rfl) ?_
              refine va_ldcS hx hb hown (hw.str 24 rfl) dX12_coast_91 ?_
              obtain ⟨r48, S_46, hq47, hm⟩ := cb_some hm
              refine pw_ci (va_runS (As := [.ref (C.2.2.2.2.2.2.1 3)]) (rest := [.int r29]) ⟨hx, hb, hml, hown, hU⟩ (c_X12_of l C X n S_41 hw.wf _ 3 ((by decide)) r48 S_46 hq47) ⟨callB_of 1 hU (pq_g1 tc_X12_of) rfl rfl rfl (hU _ tw14) (hU _ tw1731) cd_X12_of.2 ⟨Nat.le_of_ble_eq_true rfl, Nat.le_of_ble_eq_true rfl⟩, hU _ tw1732⟩ (pw_preS hw) rfl rfl hl.1 rfl (lv_room (Nat.le_of_ble_eq_true rfl)) dX12_coast_93 ⟨Nat.zero_le _, Nat.zero_le _⟩) hw (fun H locs hw hx49 => ?_)
              have Ta0 : TY S_46 a0 12 := ty_ext hx49 Ta0
              have hE : Ext S0 S_46 := Ext.tr hE hx49
              refine lv_icmp_ne (tgt := 103) hx hb dX12_coast_96 (by decide) (fun h50 => ?_) (fun h50 => ?_)
              · rw [if_neg h50] at hm
                refine lv_iconst (v := 0) hx hb dX12_coast_103 (by decide) ?_
                exact wb_X12_coast_104 cx C X S0 n r S1 _ ih a0 x2 r29 0 S_46 _ _ _ hw hE Ta0 (lv_sub hl [1, 2, 0] rfl) hm
              · rw [if_pos h50] at hm
                exact wb_X12_coast_99 cx C X S0 n r S1 _ ih a0 x2 r29 S_46 _ _ _ hw hE Ta0 (lv_sub hl [1, 2, 0] rfl) hm
def b_X12_coast_23 (n : Nat) (a0 : Nat) (x1 : Int32) (b0 : Nat) (z1 : Int32) (S : pq_S) : Option (Int32 × pq_S) := cb (m_X12_may n b0 z1 1 1 S) fun r5 S_3 => if r5 = 0 then some (0, S_3) else Option.bind (m_X12_begins n a0 x1 S_3) fun S_9 => Option.bind (m_X12_clears n a0 S_9) fun S_12 => b_X12_coast_44 n n a0 0 S_12
set_option maxHeartbeats 4000000 in
set_option maxRecDepth 100000 in
theorem wb_X12_coast_23 {p : Program} {l : Launch} {e : Env} {s : State} {m : MethodId} {args : Array Value} {below : List Frame} {meth : Method} {c : Code} (cx : Cx p s m args meth c cX12_coast 5 RX12 (some .int)) (C : pq_C) (X : va_W) (S0 : pq_S) (n : Nat) (r : Int32) (S1 : pq_S) : ∀ (a0 : Nat) (x1 : Int32) (b0 : Nat) (z1 : Int32) (S : pq_S) (H : Heap) (locs : List Loc) (ls : Array Slot), PW C X S (pq_F C X S0 s.heap.size) H locs s → Ext S0 S → TY S a0 12 → TY S b0 12 → lv_has ls 5 [(0, .ref a0), (1, .int x1)] → b_X12_coast_23 n a0 x1 b0 z1 S = some (r, S1) → W p l e rm_X12_coast s m args below meth c H locs 0 0 (MQ below (QcI C X S0 s.heap.size r S1) args s 0 0 (pq_F C X S0 s.heap.size)) (F0 m 23 ls [.int z1, .ref b0]) := by
  obtain ⟨hx, hb, hml, hown, hU, hr, hlk⟩ := id cx
  intro a0 x1 b0 z1 S H locs ls hw hE Ta0 Tb0 hl hm
  rw [b_X12_coast_23] at hm
  refine lv_iconst (v := 1) hx hb dX12_coast_23 (by decide) ?_
  refine lv_iconst (v := 1) hx hb dX12_coast_24 (by decide) ?_
  obtain ⟨r5, S_3, hq4, hm⟩ := cb_some hm
  refine pw_cz (va_runV (As := [.int z1, .int 1, .int 1]) (rest := []) ⟨hx, hb, hml, hown, hU⟩ (c_X12_may l C X n S hw.wf _ b0 z1 1 1 (Tb0) r5 S_3 hq4) (cwV 3 hU (pq_gV tw1703 tw1705 ts123 tw14 tc_X12_may) rfl rfl rfl cd_X12_may ⟨Nat.le_of_ble_eq_true rfl, Nat.le_of_ble_eq_true rfl⟩) (pw_preV hw Tb0 (by decide) rfl) rfl rfl hl.1 rfl (lv_room (Nat.le_of_ble_eq_true rfl)) dX12_coast_25 ⟨Nat.zero_le _, Nat.zero_le _⟩) hw (fun H locs hw hx6 hz7 => ?_)
  have Ta0 : TY S_3 a0 12 := ty_ext hx6 Ta0
  have hE : Ext S0 S_3 := Ext.tr hE hx6
  refine lv_if_ne (tgt := 33) hx hb dX12_coast_28 (by decide) (fun h8 => ?_) (fun h8 => ?_)
  · rw [if_neg h8] at hm
    refine lv_aload_n hx hb dX12_coast_33 rfl (lv_at hl 0 rfl) ?_
    refine lv_iload_n hx hb dX12_coast_34 rfl (lv_at hl 1 rfl) ?_
    obtain ⟨S_9, hq10, hm⟩ := bd_some hm
    refine pw_cv (va_runV (As := [.int x1]) (rest := []) ⟨hx, hb, hml, hown, hU⟩ (c_X12_begins l C X n S_3 hw.wf _ a0 x1 (Ta0) S_9 hq10) (cwV 1 hU (pq_gV tw1707 tw1709 ts124 tw14 tc_X12_begins) rfl rfl rfl cd_X12_begins ⟨Nat.le_of_ble_eq_true rfl, Nat.le_of_ble_eq_true rfl⟩) (pw_preV hw Ta0 (by decide) rfl) rfl rfl hl.1 rfl (lv_room (Nat.le_of_ble_eq_true rfl)) dX12_coast_35 ⟨Nat.zero_le _, Nat.zero_le _⟩) hw (fun H locs hw hx11 => ?_)
    have Ta0 : TY S_9 a0 12 := ty_ext hx11 Ta0
    have hE : Ext S0 S_9 := Ext.tr hE hx11
    refine lv_aload_n hx hb dX12_coast_38 rfl (lv_at hl 0 rfl) ?_
    obtain ⟨S_12, hq13, hm⟩ := bd_some hm
    refine pw_cv (va_runV (As := []) (rest := []) ⟨hx, hb, hml, hown, hU⟩ (c_X12_clears l C X n S_9 hw.wf _ a0 (Ta0) S_12 hq13) (cwV 0 hU (pq_gV tw1459 tw1461 ts120 tw14 tc_X12_clears) rfl rfl rfl cd_X12_clears ⟨Nat.le_of_ble_eq_true rfl, Nat.le_of_ble_eq_true rfl⟩) (pw_preV hw Ta0 (by decide) rfl) rfl rfl hl.1 rfl (lv_room (Nat.le_of_ble_eq_true rfl)) dX12_coast_39 ⟨Nat.zero_le _, Nat.zero_le _⟩) hw (fun H locs hw hx14 => ?_)
    have Ta0 : TY S_12 a0 12 := ty_ext hx14 Ta0
    have hE : Ext S0 S_12 := Ext.tr hE hx14
    refine lv_iconst (v := 0) hx hb dX12_coast_42 (by decide) ?_
    refine lv_istore_n (lv' := [(2, .int 0), (0, .ref a0), (1, .int x1)]) hx hb dX12_coast_43 rfl hl (by decide) rfl (fun ls hl => ?_)
    exact wb_X12_coast_44 cx C X S0 n r S1 n a0 0 S_12 _ _ _ hw hE Ta0 (lv_sub hl [1, 0] rfl) hm
  · rw [if_pos h8] at hm
    refine lv_iconst (v := 0) hx hb dX12_coast_31 (by decide) ?_
    cases hm
    exact pw_iret hx hb hr rfl hlk hw hE dX12_coast_32
def b_X12_coast_22 (n : Nat) (a0 : Nat) (x1 : Int32) (b0 : Nat) (S : pq_S) : Option (Int32 × pq_S) := b_X12_coast_23 n a0 x1 b0 0 S
set_option maxHeartbeats 4000000 in
set_option maxRecDepth 100000 in
theorem wb_X12_coast_22 {p : Program} {l : Launch} {e : Env} {s : State} {m : MethodId} {args : Array Value} {below : List Frame} {meth : Method} {c : Code} (cx : Cx p s m args meth c cX12_coast 5 RX12 (some .int)) (C : pq_C) (X : va_W) (S0 : pq_S) (n : Nat) (r : Int32) (S1 : pq_S) : ∀ (a0 : Nat) (x1 : Int32) (b0 : Nat) (S : pq_S) (H : Heap) (locs : List Loc) (ls : Array Slot), PW C X S (pq_F C X S0 s.heap.size) H locs s → Ext S0 S → TY S a0 12 → TY S b0 12 → lv_has ls 5 [(0, .ref a0), (1, .int x1)] → b_X12_coast_22 n a0 x1 b0 S = some (r, S1) → W p l e rm_X12_coast s m args below meth c H locs 0 0 (MQ below (QcI C X S0 s.heap.size r S1) args s 0 0 (pq_F C X S0 s.heap.size)) (F0 m 22 ls [.ref b0]) := by
  obtain ⟨hx, hb, hml, hown, hU, hr, hlk⟩ := id cx
  intro a0 x1 b0 S H locs ls hw hE Ta0 Tb0 hl hm
  rw [b_X12_coast_22] at hm
  refine lv_iconst (v := 0) hx hb dX12_coast_22 (by decide) ?_
  exact wb_X12_coast_23 cx C X S0 n r S1 a0 x1 b0 0 S _ _ _ hw hE Ta0 Tb0 (lv_sub hl [0, 1] rfl) hm
def m_X12_coast (n : Nat) (a0 : Nat) (x1 : Int32) (S0 : pq_S) : Option (Int32 × pq_S) := if x1 < 0 then b_X12_coast_22 n a0 x1 a0 (sI S0 1200 a0 0) else if (pI (sI S0 1200 a0 0) 1202 a0) < x1 then b_X12_coast_22 n a0 x1 a0 (sI S0 1200 a0 0) else b_X12_coast_23 n a0 x1 a0 1 (sI S0 1200 a0 0)
theorem tc_X12_coast : Cond.code yX12_coast cX12_coast 5 (some .int) ∈ pq_U := tw1702
theorem cd_X12_coast : yX12_coast.cls = RX12 ∧ yX12_coast.cls ≠ "java/lang/invoke/MethodHandle" ∧ yX12_coast.cls ≠ "java/lang/invoke/VarHandle" ∧ (parseMethodDescriptor yX12_coast.desc).map (fun d => d.parameters.length) = some 1 := by decide +kernel
set_option maxHeartbeats 4000000 in
set_option maxRecDepth 100000 in
theorem c_X12_coast (l : Launch) (C : pq_C) (X : va_W) (n : Nat) (S0 : pq_S) (hF : WF S0) (sz : Nat) (a0 : Nat) (x1 : Int32) (Ta0 : TY S0 a0 12) (r : Int32) (S1 : pq_S) (hm : m_X12_coast n a0 x1 S0 = some (r, S1)) : MI l yX12_coast (.code yX12_coast cX12_coast 5 (some .int) :: pq_U) rm_X12_coast C X S0 sz [.ref a0, .int x1] r S1 0 0 := by
  refine Met.ofW (cc := cX12_coast) (maxL := 5) (ret := (some .int)) (by decide) rfl ?_
  intro p e s m args below meth c s₁ B hml hv
  obtain ⟨rfl, hv⟩ := hv
  have hsz := hv.1
  subst hsz
  have hw := pw_entry hF hv
  have hts := atoms_spec (ws := .code yX12_coast cX12_coast 5 (some .int) :: pq_U) B.pre
  have hU : ∀ w ∈ pq_U, w.before _ s = true := fun w h => hts w (List.mem_cons_of_mem _ h)
  have hx := B.exec
  have hb := B.bytes
  have hr := B.returns
  have hown : s.vm.findClass RX12 = some m.cls := findClass_of_methodNamed B.named
  have hlk := B.notSynchronized
  have hl := lv_entry ([.ref a0, .int x1]) (n := 5) (Nat.le_of_ble_eq_true rfl)
  rw [lg_entry_eq]
  generalize (lg_sl ([.ref a0, .int x1]) ++ List.replicate (5 - (lg_sl ([.ref a0, .int x1])).length) Slot.unset).toArray = ls at hl ⊢
  have hl : lv_has ls 5 [(0, .ref a0), (1, .int x1)] := hl
  have hE : Ext S0 S0 := Ext.rf _
  have cx : Cx p s m _ meth c cX12_coast 5 RX12 (some .int) := ⟨hx, hb, hml, hown, hU, hr, hlk⟩
  rw [m_X12_coast] at hm
  refine lv_aload_n hx hb dX12_coast_0 rfl (lv_at hl 0 rfl) ?_
  refine lv_iconst (v := 0) hx hb dX12_coast_1 (by decide) ?_
  refine pp_i (k := 12) (j := 0) (f := 1200) hx hb hown hU iu12 tyX12_ok nmX12 hw Ta0 (by decide) rfl (hU _ tw1471) rfl rfl rfl dX12_coast_2 (fun H locs hw => ?_)
  refine lv_aload_n hx hb dX12_coast_5 rfl (lv_at hl 0 rfl) ?_
  refine lv_iload_n hx hb dX12_coast_6 rfl (lv_at hl 1 rfl) ?_
  refine lv_if_lt (tgt := 22) hx hb dX12_coast_7 (by decide) (fun h1 => ?_) (fun h1 => ?_)
  · rw [if_pos h1] at hm
    exact wb_X12_coast_22 cx C X S0 n r S1 a0 x1 a0 (sI S0 1200 a0 0) _ _ _ hw hE Ta0 Ta0 (lv_sub hl [0, 1] rfl) hm
  · rw [if_neg h1] at hm
    refine lv_iload_n hx hb dX12_coast_10 rfl (lv_at hl 1 rfl) ?_
    refine lv_aload_n hx hb dX12_coast_11 rfl (lv_at hl 0 rfl) ?_
    refine pg_i (k := 12) (j := 2) (f := 1202) hx hb hown hU iu12 hw Ta0 (by decide) rfl (hU _ tw1473) rfl dX12_coast_12 ?_
    refine lv_icmp_gt (tgt := 22) hx hb dX12_coast_15 (by decide) (fun h2 => ?_) (fun h2 => ?_)
    · rw [if_pos h2] at hm
      exact wb_X12_coast_22 cx C X S0 n r S1 a0 x1 a0 (sI S0 1200 a0 0) _ _ _ hw hE Ta0 Ta0 (lv_sub hl [0, 1] rfl) hm
    · rw [if_neg h2] at hm
      refine lv_iconst (v := 1) hx hb dX12_coast_18 (by decide) ?_
      refine lv_goto (tgt := 23) hx hb dX12_coast_19 (by decide) ?_
      exact wb_X12_coast_23 cx C X S0 n r S1 a0 x1 a0 1 (sI S0 1200 a0 0) _ _ _ hw hE Ta0 Ta0 (lv_sub hl [0, 1] rfl) hm
abbrev rm_X12_emit : Room := { frames := 1, cells := 0, slots := 0, locals := 20 }
def m_X12_emit (n : Nat) (a0 : Nat) (x1 : Int32) (x2 : Int32) (S0 : pq_S) : Option pq_S := cb (m_X12_fine n a0 S0) fun r3 S_1 => if r3 = 0 then some S_1 else Option.bind (pR S_1 1230 a0) fun q7 => ck (ix (pI S_1 1236 a0) (pN S_1 q7)) (dix _ _) (Option.bind (pR (sA S_1 q7 (Int32.toNatClampNeg (pI S_1 1236 a0)) x1) 1231 a0) fun q9 => ck (ix (pI (sA S_1 q7 (Int32.toNatClampNeg (pI S_1 1236 a0)) x1) 1236 a0) (pN (sA S_1 q7 (Int32.toNatClampNeg (pI S_1 1236 a0)) x1) q9)) (dix _ _) (lt_ (sA (sA S_1 q7 (Int32.toNatClampNeg (pI S_1 1236 a0)) x1) q9 (Int32.toNatClampNeg (pI (sA S_1 q7 (Int32.toNatClampNeg (pI S_1 1236 a0)) x1) 1236 a0)) x2) fun S_11 => some (sI S_11 1236 a0 ((pI S_11 1236 a0) + (1 : Int32)))))
theorem tc_X12_emit : Cond.code yX12_emit cX12_emit 3 none ∈ pq_U := tw1798
theorem cd_X12_emit : yX12_emit.cls = RX12 ∧ yX12_emit.cls ≠ "java/lang/invoke/MethodHandle" ∧ yX12_emit.cls ≠ "java/lang/invoke/VarHandle" ∧ (parseMethodDescriptor yX12_emit.desc).map (fun d => d.parameters.length) = some 2 := by decide +kernel
set_option maxHeartbeats 4000000 in
set_option maxRecDepth 100000 in
theorem c_X12_emit (l : Launch) (C : pq_C) (X : va_W) (n : Nat) (S0 : pq_S) (hF : WF S0) (sz : Nat) (a0 : Nat) (x1 : Int32) (x2 : Int32) (Ta0 : TY S0 a0 12) (S1 : pq_S) (hm : m_X12_emit n a0 x1 x2 S0 = some S1) : MV l yX12_emit (.code yX12_emit cX12_emit 3 none :: pq_U) rm_X12_emit C X S0 sz [.ref a0, .int x1, .int x2] S1 0 0 := by
  refine Met.ofW (cc := cX12_emit) (maxL := 3) (ret := none) (by decide) rfl ?_
  intro p e s m args below meth c s₁ B hml hv
  obtain ⟨rfl, hv⟩ := hv
  have hsz := hv.1
  subst hsz
  have hw := pw_entry hF hv
  have hts := atoms_spec (ws := .code yX12_emit cX12_emit 3 none :: pq_U) B.pre
  have hU : ∀ w ∈ pq_U, w.before _ s = true := fun w h => hts w (List.mem_cons_of_mem _ h)
  have hx := B.exec
  have hb := B.bytes
  have hr := B.returns
  have hown : s.vm.findClass RX12 = some m.cls := findClass_of_methodNamed B.named
  have hlk := B.notSynchronized
  have hl := lv_entry ([.ref a0, .int x1, .int x2]) (n := 3) (Nat.le_of_ble_eq_true rfl)
  rw [lg_entry_eq]
  generalize (lg_sl ([.ref a0, .int x1, .int x2]) ++ List.replicate (3 - (lg_sl ([.ref a0, .int x1, .int x2])).length) Slot.unset).toArray = ls at hl ⊢
  have hl : lv_has ls 3 [(0, .ref a0), (1, .int x1), (2, .int x2)] := hl
  have hE : Ext S0 S0 := Ext.rf _
  have cx : Cx p s m _ meth c cX12_emit 3 RX12 none := ⟨hx, hb, hml, hown, hU, hr, hlk⟩
  rw [m_X12_emit] at hm
  refine lv_aload_n hx hb dX12_emit_0 rfl (lv_at hl 0 rfl) ?_
  obtain ⟨r3, S_1, hq2, hm⟩ := cb_some hm
  refine pw_cz (va_runV (As := []) (rest := []) ⟨hx, hb, hml, hown, hU⟩ (c_X12_fine l C X n S0 hw.wf _ a0 (Ta0) r3 S_1 hq2) (cwV 0 hU (pq_gV tw1711 tw1713 ts125 tw14 tc_X12_fine) rfl rfl rfl cd_X12_fine ⟨Nat.le_of_ble_eq_true rfl, Nat.le_of_ble_eq_true rfl⟩) (pw_preV hw Ta0 (by decide) rfl) rfl rfl hl.1 rfl (lv_room (Nat.le_of_ble_eq_true rfl)) dX12_emit_1 ⟨Nat.zero_le _, Nat.zero_le _⟩) hw (fun H locs hw hx4 hz5 => ?_)
  have Ta0 : TY S_1 a0 12 := ty_ext hx4 Ta0
  have hE : Ext S0 S_1 := Ext.tr hE hx4
  refine lv_if_ne (tgt := 8) hx hb dX12_emit_4 (by decide) (fun h6 => ?_) (fun h6 => ?_)
  · rw [if_neg h6] at hm
    refine lv_aload_n hx hb dX12_emit_8 rfl (lv_at hl 0 rfl) ?_
    obtain ⟨q7, hq7, hm⟩ := bd_some hm
    have Tq7 : TY S_1 q7 14 := hw.wf.ref (k := 12) (j := 30) Ta0 (by decide) (by decide) hq7
    refine pg_rb (k := 12) (j := 30) (f := 1230) hx hb hown hU iu12 hw Ta0 (by decide) rfl (hU _ tw1501) rfl hq7 dX12_emit_9 ?_
    refine lv_aload_n hx hb dX12_emit_12 rfl (lv_at hl 0 rfl) ?_
    refine pg_i (k := 12) (j := 36) (f := 1236) hx hb hown hU iu12 hw Ta0 (by decide) rfl (hU _ tw1507) rfl dX12_emit_13 ?_
    refine lv_iload_n hx hb dX12_emit_16 rfl (lv_at hl 1 rfl) ?_
    obtain ⟨hi8, hm⟩ := ck_some hm
    refine pw_iast hx hb hw Tq7 hi8 dX12_emit_17 (fun H locs hw => ?_)
    refine lv_aload_n hx hb dX12_emit_18 rfl (lv_at hl 0 rfl) ?_
    obtain ⟨q9, hq9, hm⟩ := bd_some hm
    have Tq9 : TY (sA S_1 q7 (Int32.toNatClampNeg (pI S_1 1236 a0)) x1) q9 14 := hw.wf.ref (k := 12) (j := 31) Ta0 (by decide) (by decide) hq9
    refine pg_rb (k := 12) (j := 31) (f := 1231) hx hb hown hU iu12 hw Ta0 (by decide) rfl (hU _ tw1502) rfl hq9 dX12_emit_19 ?_
    refine lv_aload_n hx hb dX12_emit_22 rfl (lv_at hl 0 rfl) ?_
    refine pg_i (k := 12) (j := 36) (f := 1236) hx hb hown hU iu12 hw Ta0 (by decide) rfl (hU _ tw1507) rfl dX12_emit_23 ?_
    refine lv_iload_n hx hb dX12_emit_26 rfl (lv_at hl 2 rfl) ?_
    obtain ⟨hi10, hm⟩ := ck_some hm
    refine pw_iast hx hb hw Tq9 hi10 dX12_emit_27 (fun H locs hw => ?_)
    obtain ⟨S_11, eS_11, hm⟩ := lt_some hm
    rw [← eS_11] at hw
    have Ta0 : TY S_11 a0 12 := by rw [eS_11]; exact Ta0
    have hE : Ext S0 S_11 := by rw [eS_11]; exact hE
    refine lv_aload_n hx hb dX12_emit_28 rfl (lv_at hl 0 rfl) ?_
    refine lv_dup hx hb dX12_emit_29 rfl ?_
    refine pg_i (k := 12) (j := 36) (f := 1236) hx hb hown hU iu12 hw Ta0 (by decide) rfl (hU _ tw1507) rfl dX12_emit_30 ?_
    refine lv_iconst (v := 1) hx hb dX12_emit_33 (by decide) ?_
    refine lv_iadd hx hb dX12_emit_34 ?_
    refine pp_i (k := 12) (j := 36) (f := 1236) hx hb hown hU iu12 tyX12_ok nmX12 hw Ta0 (by decide) rfl (hU _ tw1507) rfl rfl rfl dX12_emit_35 (fun H locs hw => ?_)
    cases hm
    exact pw_vret hx hb hr hlk hw hE dX12_emit_38
  · rw [if_pos h6] at hm
    cases hm
    exact pw_vret hx hb hr hlk hw hE dX12_emit_7
abbrev rm_X12_opensOne : Room := { frames := 1, cells := 0, slots := 0, locals := 22 }
def b_X12_opensOne_42 (n : Nat) (a0 : Nat) (S : pq_S) : Option pq_S := some (sI S 1207 a0 ((pI S 1207 a0) + (1 : Int32)))
set_option maxHeartbeats 4000000 in
set_option maxRecDepth 100000 in
theorem wb_X12_opensOne_42 {p : Program} {l : Launch} {e : Env} {s : State} {m : MethodId} {args : Array Value} {below : List Frame} {meth : Method} {c : Code} (cx : Cx p s m args meth c cX12_opensOne 2 RX12 none) (C : pq_C) (X : va_W) (S0 : pq_S) (n : Nat) (S1 : pq_S) : ∀ (a0 : Nat) (S : pq_S) (H : Heap) (locs : List Loc) (ls : Array Slot), PW C X S (pq_F C X S0 s.heap.size) H locs s → Ext S0 S → TY S a0 12 → lv_has ls 2 [(0, .ref a0)] → b_X12_opensOne_42 n a0 S = some S1 → W p l e rm_X12_opensOne s m args below meth c H locs 0 0 (MQ below (QcV C X S0 s.heap.size S1) args s 0 0 (pq_F C X S0 s.heap.size)) (F0 m 42 ls []) := by
  obtain ⟨hx, hb, hml, hown, hU, hr, hlk⟩ := id cx
  intro a0 S H locs ls hw hE Ta0 hl hm
  rw [b_X12_opensOne_42] at hm
  refine lv_aload_n hx hb dX12_opensOne_42 rfl (lv_at hl 0 rfl) ?_
  refine lv_dup hx hb dX12_opensOne_43 rfl ?_
  refine pg_i (k := 12) (j := 7) (f := 1207) hx hb hown hU iu12 hw Ta0 (by decide) rfl (hU _ tw1478) rfl dX12_opensOne_44 ?_
  refine lv_iconst (v := 1) hx hb dX12_opensOne_47 (by decide) ?_
  refine lv_iadd hx hb dX12_opensOne_48 ?_
  refine pp_i (k := 12) (j := 7) (f := 1207) hx hb hown hU iu12 tyX12_ok nmX12 hw Ta0 (by decide) rfl (hU _ tw1478) rfl rfl rfl dX12_opensOne_49 (fun H locs hw => ?_)
  cases hm
  exact pw_vret hx hb hr hlk hw hE dX12_opensOne_52
def b_X12_opensOne_25 (n : Nat) (a0 : Nat) (x1 : Int32) (S : pq_S) : Option pq_S := cb (m_X12_fine n a0 S) fun r13 S_11 => if r13 = 0 then b_X12_opensOne_42 n a0 S_11 else b_X12_opensOne_42 n a0 (sI S_11 1204 a0 ((pI S_11 1204 a0) + x1))
set_option maxHeartbeats 4000000 in
set_option maxRecDepth 100000 in
theorem wb_X12_opensOne_25 {p : Program} {l : Launch} {e : Env} {s : State} {m : MethodId} {args : Array Value} {below : List Frame} {meth : Method} {c : Code} (cx : Cx p s m args meth c cX12_opensOne 2 RX12 none) (C : pq_C) (X : va_W) (S0 : pq_S) (n : Nat) (S1 : pq_S) : ∀ (a0 : Nat) (x1 : Int32) (S : pq_S) (H : Heap) (locs : List Loc) (ls : Array Slot), PW C X S (pq_F C X S0 s.heap.size) H locs s → Ext S0 S → TY S a0 12 → lv_has ls 2 [(0, .ref a0), (1, .int x1)] → b_X12_opensOne_25 n a0 x1 S = some S1 → W p l e rm_X12_opensOne s m args below meth c H locs 0 0 (MQ below (QcV C X S0 s.heap.size S1) args s 0 0 (pq_F C X S0 s.heap.size)) (F0 m 25 ls []) := by
  obtain ⟨hx, hb, hml, hown, hU, hr, hlk⟩ := id cx
  intro a0 x1 S H locs ls hw hE Ta0 hl hm
  rw [b_X12_opensOne_25] at hm
  refine lv_aload_n hx hb dX12_opensOne_25 rfl (lv_at hl 0 rfl) ?_
  obtain ⟨r13, S_11, hq12, hm⟩ := cb_some hm
  refine pw_cz (va_runV (As := []) (rest := []) ⟨hx, hb, hml, hown, hU⟩ (c_X12_fine l C X n S hw.wf _ a0 (Ta0) r13 S_11 hq12) (cwV 0 hU (pq_gV tw1711 tw1713 ts125 tw14 tc_X12_fine) rfl rfl rfl cd_X12_fine ⟨Nat.le_of_ble_eq_true rfl, Nat.le_of_ble_eq_true rfl⟩) (pw_preV hw Ta0 (by decide) rfl) rfl rfl hl.1 rfl (lv_room (Nat.le_of_ble_eq_true rfl)) dX12_opensOne_26 ⟨Nat.zero_le _, Nat.zero_le _⟩) hw (fun H locs hw hx14 hz15 => ?_)
  have Ta0 : TY S_11 a0 12 := ty_ext hx14 Ta0
  have hE : Ext S0 S_11 := Ext.tr hE hx14
  refine lv_if_eq (tgt := 42) hx hb dX12_opensOne_29 (by decide) (fun h16 => ?_) (fun h16 => ?_)
  · rw [if_pos h16] at hm
    exact wb_X12_opensOne_42 cx C X S0 n S1 a0 S_11 _ _ _ hw hE Ta0 (lv_sub hl [0] rfl) hm
  · rw [if_neg h16] at hm
    refine lv_aload_n hx hb dX12_opensOne_32 rfl (lv_at hl 0 rfl) ?_
    refine lv_dup hx hb dX12_opensOne_33 rfl ?_
    refine pg_i (k := 12) (j := 4) (f := 1204) hx hb hown hU iu12 hw Ta0 (by decide) rfl (hU _ tw1475) rfl dX12_opensOne_34 ?_
    refine lv_iload_n hx hb dX12_opensOne_37 rfl (lv_at hl 1 rfl) ?_
    refine lv_iadd hx hb dX12_opensOne_38 ?_
    refine pp_i (k := 12) (j := 4) (f := 1204) hx hb hown hU iu12 tyX12_ok nmX12 hw Ta0 (by decide) rfl (hU _ tw1475) rfl rfl rfl dX12_opensOne_39 (fun H locs hw => ?_)
    exact wb_X12_opensOne_42 cx C X S0 n S1 a0 (sI S_11 1204 a0 ((pI S_11 1204 a0) + x1)) _ _ _ hw hE Ta0 (lv_sub hl [0] rfl) hm
def m_X12_opensOne (n : Nat) (a0 : Nat) (x1 : Int32) (S0 : pq_S) : Option pq_S := cb (m_X12_fine n a0 S0) fun r3 S_1 => if r3 = 0 then b_X12_opensOne_25 n a0 x1 S_1 else if (pI S_1 1207 a0) = 6 then Option.bind (m_X12_wrong n a0 3 (pI S_1 1204 a0) S_1) fun S_8 => b_X12_opensOne_25 n a0 x1 S_8 else b_X12_opensOne_25 n a0 x1 S_1
theorem tc_X12_opensOne : Cond.code yX12_opensOne cX12_opensOne 2 none ∈ pq_U := tw1794
theorem cd_X12_opensOne : yX12_opensOne.cls = RX12 ∧ yX12_opensOne.cls ≠ "java/lang/invoke/MethodHandle" ∧ yX12_opensOne.cls ≠ "java/lang/invoke/VarHandle" ∧ (parseMethodDescriptor yX12_opensOne.desc).map (fun d => d.parameters.length) = some 1 := by decide +kernel
set_option maxHeartbeats 4000000 in
set_option maxRecDepth 100000 in
theorem c_X12_opensOne (l : Launch) (C : pq_C) (X : va_W) (n : Nat) (S0 : pq_S) (hF : WF S0) (sz : Nat) (a0 : Nat) (x1 : Int32) (Ta0 : TY S0 a0 12) (S1 : pq_S) (hm : m_X12_opensOne n a0 x1 S0 = some S1) : MV l yX12_opensOne (.code yX12_opensOne cX12_opensOne 2 none :: pq_U) rm_X12_opensOne C X S0 sz [.ref a0, .int x1] S1 0 0 := by
  refine Met.ofW (cc := cX12_opensOne) (maxL := 2) (ret := none) (by decide) rfl ?_
  intro p e s m args below meth c s₁ B hml hv
  obtain ⟨rfl, hv⟩ := hv
  have hsz := hv.1
  subst hsz
  have hw := pw_entry hF hv
  have hts := atoms_spec (ws := .code yX12_opensOne cX12_opensOne 2 none :: pq_U) B.pre
  have hU : ∀ w ∈ pq_U, w.before _ s = true := fun w h => hts w (List.mem_cons_of_mem _ h)
  have hx := B.exec
  have hb := B.bytes
  have hr := B.returns
  have hown : s.vm.findClass RX12 = some m.cls := findClass_of_methodNamed B.named
  have hlk := B.notSynchronized
  have hl := lv_entry ([.ref a0, .int x1]) (n := 2) (Nat.le_of_ble_eq_true rfl)
  rw [lg_entry_eq]
  generalize (lg_sl ([.ref a0, .int x1]) ++ List.replicate (2 - (lg_sl ([.ref a0, .int x1])).length) Slot.unset).toArray = ls at hl ⊢
  have hl : lv_has ls 2 [(0, .ref a0), (1, .int x1)] := hl
  have hE : Ext S0 S0 := Ext.rf _
  have cx : Cx p s m _ meth c cX12_opensOne 2 RX12 none := ⟨hx, hb, hml, hown, hU, hr, hlk⟩
  rw [m_X12_opensOne] at hm
  refine lv_aload_n hx hb dX12_opensOne_0 rfl (lv_at hl 0 rfl) ?_
  obtain ⟨r3, S_1, hq2, hm⟩ := cb_some hm
  refine pw_cz (va_runV (As := []) (rest := []) ⟨hx, hb, hml, hown, hU⟩ (c_X12_fine l C X n S0 hw.wf _ a0 (Ta0) r3 S_1 hq2) (cwV 0 hU (pq_gV tw1711 tw1713 ts125 tw14 tc_X12_fine) rfl rfl rfl cd_X12_fine ⟨Nat.le_of_ble_eq_true rfl, Nat.le_of_ble_eq_true rfl⟩) (pw_preV hw Ta0 (by decide) rfl) rfl rfl hl.1 rfl (lv_room (Nat.le_of_ble_eq_true rfl)) dX12_opensOne_1 ⟨Nat.zero_le _, Nat.zero_le _⟩) hw (fun H locs hw hx4 hz5 => ?_)
  have Ta0 : TY S_1 a0 12 := ty_ext hx4 Ta0
  have hE : Ext S0 S_1 := Ext.tr hE hx4
  refine lv_if_eq (tgt := 25) hx hb dX12_opensOne_4 (by decide) (fun h6 => ?_) (fun h6 => ?_)
  · rw [if_pos h6] at hm
    exact wb_X12_opensOne_25 cx C X S0 n S1 a0 x1 S_1 _ _ _ hw hE Ta0 (lv_sub hl [0, 1] rfl) hm
  · rw [if_neg h6] at hm
    refine lv_aload_n hx hb dX12_opensOne_7 rfl (lv_at hl 0 rfl) ?_
    refine pg_i (k := 12) (j := 7) (f := 1207) hx hb hown hU iu12 hw Ta0 (by decide) rfl (hU _ tw1478) rfl dX12_opensOne_8 ?_
    refine lv_bipush (v := 6) hx hb dX12_opensOne_11 (by decide) ?_
    refine lv_icmp_ne (tgt := 25) hx hb dX12_opensOne_13 (by decide) (fun h7 => ?_) (fun h7 => ?_)
    · rw [if_neg h7] at hm
      exact wb_X12_opensOne_25 cx C X S0 n S1 a0 x1 S_1 _ _ _ hw hE Ta0 (lv_sub hl [0, 1] rfl) hm
    · rw [if_pos h7] at hm
      refine lv_aload_n hx hb dX12_opensOne_16 rfl (lv_at hl 0 rfl) ?_
      refine lv_iconst (v := 3) hx hb dX12_opensOne_17 (by decide) ?_
      refine lv_aload_n hx hb dX12_opensOne_18 rfl (lv_at hl 0 rfl) ?_
      refine pg_i (k := 12) (j := 4) (f := 1204) hx hb hown hU iu12 hw Ta0 (by decide) rfl (hU _ tw1475) rfl dX12_opensOne_19 ?_
      obtain ⟨S_8, hq9, hm⟩ := bd_some hm
      refine pw_cv (va_runV (As := [.int 3, .int (pI S_1 1204 a0)]) (rest := []) ⟨hx, hb, hml, hown, hU⟩ (c_X12_wrong l C X n S_1 hw.wf _ a0 3 (pI S_1 1204 a0) (Ta0) S_8 hq9) (cwV 2 hU (pq_gV tw1741 tw1743 ts129 tw14 tc_X12_wrong) rfl rfl rfl cd_X12_wrong ⟨Nat.le_of_ble_eq_true rfl, Nat.le_of_ble_eq_true rfl⟩) (pw_preV hw Ta0 (by decide) rfl) rfl rfl hl.1 rfl (lv_room (Nat.le_of_ble_eq_true rfl)) dX12_opensOne_22 ⟨Nat.zero_le _, Nat.zero_le _⟩) hw (fun H locs hw hx10 => ?_)
      have Ta0 : TY S_8 a0 12 := ty_ext hx10 Ta0
      have hE : Ext S0 S_8 := Ext.tr hE hx10
      exact wb_X12_opensOne_25 cx C X S0 n S1 a0 x1 S_8 _ _ _ hw hE Ta0 (lv_sub hl [0, 1] rfl) hm
abbrev rm_X12_factHere : Room := { frames := 5, cells := 0, slots := 0, locals := 107 }
def m_X12_factHere (n : Nat) (a0 : Nat) (S0 : pq_S) : Option (Int32 × pq_S) := cb (m_X12_word n a0 S0) fun r3 S_1 => cb (m_X12_of n 8 S_1) fun r7 S_5 => if r3 = r7 then some (0, S_5) else cb (m_X12_of n 9 S_5) fun r12 S_10 => if r3 = r12 then some (1, S_10) else cb (m_X12_of n 10 S_10) fun r17 S_15 => if r3 = r17 then some (2, S_15) else cb (m_X12_of n 11 S_15) fun r22 S_20 => if r3 = r22 then some (3, S_20) else cb (m_X12_of n 12 S_20) fun r27 S_25 => if r3 = r27 then some (4, S_25) else cb (m_X12_of n 13 S_25) fun r32 S_30 => if r3 = r32 then some (5, S_30) else cb (m_X12_of n 14 S_30) fun r37 S_35 => if r3 = r37 then some (6, S_35) else some ((-1), S_35)
theorem tc_X12_factHere : Cond.code yX12_factHere cX12_factHere 2 (some .int) ∈ pq_U := tw1808
theorem cd_X12_factHere : yX12_factHere.cls = RX12 ∧ yX12_factHere.cls ≠ "java/lang/invoke/MethodHandle" ∧ yX12_factHere.cls ≠ "java/lang/invoke/VarHandle" ∧ (parseMethodDescriptor yX12_factHere.desc).map (fun d => d.parameters.length) = some 0 := by decide +kernel
set_option maxHeartbeats 4000000 in
set_option maxRecDepth 100000 in
theorem c_X12_factHere (l : Launch) (C : pq_C) (X : va_W) (n : Nat) (S0 : pq_S) (hF : WF S0) (sz : Nat) (a0 : Nat) (Ta0 : TY S0 a0 12) (r : Int32) (S1 : pq_S) (hm : m_X12_factHere n a0 S0 = some (r, S1)) : MI l yX12_factHere (.code yX12_factHere cX12_factHere 2 (some .int) :: pq_U) rm_X12_factHere C X S0 sz [.ref a0] r S1 0 0 := by
  refine Met.ofW (cc := cX12_factHere) (maxL := 2) (ret := (some .int)) (by decide) rfl ?_
  intro p e s m args below meth c s₁ B hml hv
  obtain ⟨rfl, hv⟩ := hv
  have hsz := hv.1
  subst hsz
  have hw := pw_entry hF hv
  have hts := atoms_spec (ws := .code yX12_factHere cX12_factHere 2 (some .int) :: pq_U) B.pre
  have hU : ∀ w ∈ pq_U, w.before _ s = true := fun w h => hts w (List.mem_cons_of_mem _ h)
  have hx := B.exec
  have hb := B.bytes
  have hr := B.returns
  have hown : s.vm.findClass RX12 = some m.cls := findClass_of_methodNamed B.named
  have hlk := B.notSynchronized
  have hl := lv_entry ([.ref a0]) (n := 2) (Nat.le_of_ble_eq_true rfl)
  rw [lg_entry_eq]
  generalize (lg_sl ([.ref a0]) ++ List.replicate (2 - (lg_sl ([.ref a0])).length) Slot.unset).toArray = ls at hl ⊢
  have hl : lv_has ls 2 [(0, .ref a0)] := hl
  have hE : Ext S0 S0 := Ext.rf _
  have cx : Cx p s m _ meth c cX12_factHere 2 RX12 (some .int) := ⟨hx, hb, hml, hown, hU, hr, hlk⟩
  rw [m_X12_factHere] at hm
  refine lv_aload_n hx hb dX12_factHere_0 rfl (lv_at hl 0 rfl) ?_
  obtain ⟨r3, S_1, hq2, hm⟩ := cb_some hm
  refine pw_ci (va_runV (As := []) (rest := []) ⟨hx, hb, hml, hown, hU⟩ (c_X12_word l C X n S0 hw.wf _ a0 (Ta0) r3 S_1 hq2) (cwV 0 hU (pq_gV tw1723 tw1725 ts128 tw14 tc_X12_word) rfl rfl rfl cd_X12_word ⟨Nat.le_of_ble_eq_true rfl, Nat.le_of_ble_eq_true rfl⟩) (pw_preV hw Ta0 (by decide) rfl) rfl rfl hl.1 rfl (lv_room (Nat.le_of_ble_eq_true rfl)) dX12_factHere_1 ⟨Nat.zero_le _, Nat.zero_le _⟩) hw (fun H locs hw hx4 => ?_)
  have Ta0 : TY S_1 a0 12 := ty_ext hx4 Ta0
  have hE : Ext S0 S_1 := Ext.tr hE hx4
  refine lv_istore_n (lv' := [(1, .int r3), (0, .ref a0)]) hx hb dX12_factHere_4 rfl hl (by decide) rfl (fun ls hl => ?_)
  refine lv_iload_n hx hb dX12_factHere_5 rfl (lv_at hl 0 rfl) ?_
  refine va_ldcwS hx hb hown (hw.str 29 rfl) dX12_factHere_6 ?_
  obtain ⟨r7, S_5, hq6, hm⟩ := cb_some hm
  refine pw_ci (va_runS (As := [.ref (C.2.2.2.2.2.2.1 8)]) (rest := [.int r3]) ⟨hx, hb, hml, hown, hU⟩ (c_X12_of l C X n S_1 hw.wf _ 8 ((by decide)) r7 S_5 hq6) ⟨callB_of 1 hU (pq_g1 tc_X12_of) rfl rfl rfl (hU _ tw14) (hU _ tw1731) cd_X12_of.2 ⟨Nat.le_of_ble_eq_true rfl, Nat.le_of_ble_eq_true rfl⟩, hU _ tw1732⟩ (pw_preS hw) rfl rfl hl.1 rfl (lv_room (Nat.le_of_ble_eq_true rfl)) dX12_factHere_9 ⟨Nat.zero_le _, Nat.zero_le _⟩) hw (fun H locs hw hx8 => ?_)
  have Ta0 : TY S_5 a0 12 := ty_ext hx8 Ta0
  have hE : Ext S0 S_5 := Ext.tr hE hx8
  refine lv_icmp_ne (tgt := 19) hx hb dX12_factHere_12 (by decide) (fun h9 => ?_) (fun h9 => ?_)
  · rw [if_neg h9] at hm
    refine lv_iload_n hx hb dX12_factHere_19 rfl (lv_at hl 0 rfl) ?_
    refine va_ldcwS hx hb hown (hw.str 30 rfl) dX12_factHere_20 ?_
    obtain ⟨r12, S_10, hq11, hm⟩ := cb_some hm
    refine pw_ci (va_runS (As := [.ref (C.2.2.2.2.2.2.1 9)]) (rest := [.int r3]) ⟨hx, hb, hml, hown, hU⟩ (c_X12_of l C X n S_5 hw.wf _ 9 ((by decide)) r12 S_10 hq11) ⟨callB_of 1 hU (pq_g1 tc_X12_of) rfl rfl rfl (hU _ tw14) (hU _ tw1731) cd_X12_of.2 ⟨Nat.le_of_ble_eq_true rfl, Nat.le_of_ble_eq_true rfl⟩, hU _ tw1732⟩ (pw_preS hw) rfl rfl hl.1 rfl (lv_room (Nat.le_of_ble_eq_true rfl)) dX12_factHere_23 ⟨Nat.zero_le _, Nat.zero_le _⟩) hw (fun H locs hw hx13 => ?_)
    have Ta0 : TY S_10 a0 12 := ty_ext hx13 Ta0
    have hE : Ext S0 S_10 := Ext.tr hE hx13
    refine lv_icmp_ne (tgt := 33) hx hb dX12_factHere_26 (by decide) (fun h14 => ?_) (fun h14 => ?_)
    · rw [if_neg h14] at hm
      refine lv_iload_n hx hb dX12_factHere_33 rfl (lv_at hl 0 rfl) ?_
      refine va_ldcwS hx hb hown (hw.str 31 rfl) dX12_factHere_34 ?_
      obtain ⟨r17, S_15, hq16, hm⟩ := cb_some hm
      refine pw_ci (va_runS (As := [.ref (C.2.2.2.2.2.2.1 10)]) (rest := [.int r3]) ⟨hx, hb, hml, hown, hU⟩ (c_X12_of l C X n S_10 hw.wf _ 10 ((by decide)) r17 S_15 hq16) ⟨callB_of 1 hU (pq_g1 tc_X12_of) rfl rfl rfl (hU _ tw14) (hU _ tw1731) cd_X12_of.2 ⟨Nat.le_of_ble_eq_true rfl, Nat.le_of_ble_eq_true rfl⟩, hU _ tw1732⟩ (pw_preS hw) rfl rfl hl.1 rfl (lv_room (Nat.le_of_ble_eq_true rfl)) dX12_factHere_37 ⟨Nat.zero_le _, Nat.zero_le _⟩) hw (fun H locs hw hx18 => ?_)
      have Ta0 : TY S_15 a0 12 := ty_ext hx18 Ta0
      have hE : Ext S0 S_15 := Ext.tr hE hx18
      refine lv_icmp_ne (tgt := 47) hx hb dX12_factHere_40 (by decide) (fun h19 => ?_) (fun h19 => ?_)
      · rw [if_neg h19] at hm
        refine lv_iload_n hx hb dX12_factHere_47 rfl (lv_at hl 0 rfl) ?_
        refine va_ldcwS hx hb hown (hw.str 32 rfl) dX12_factHere_48 ?_
        obtain ⟨r22, S_20, hq21, hm⟩ := cb_some hm
        refine pw_ci (va_runS (As := [.ref (C.2.2.2.2.2.2.1 11)]) (rest := [.int r3]) ⟨hx, hb, hml, hown, hU⟩ (c_X12_of l C X n S_15 hw.wf _ 11 ((by decide)) r22 S_20 hq21) ⟨callB_of 1 hU (pq_g1 tc_X12_of) rfl rfl rfl (hU _ tw14) (hU _ tw1731) cd_X12_of.2 ⟨Nat.le_of_ble_eq_true rfl, Nat.le_of_ble_eq_true rfl⟩, hU _ tw1732⟩ (pw_preS hw) rfl rfl hl.1 rfl (lv_room (Nat.le_of_ble_eq_true rfl)) dX12_factHere_51 ⟨Nat.zero_le _, Nat.zero_le _⟩) hw (fun H locs hw hx23 => ?_)
        have Ta0 : TY S_20 a0 12 := ty_ext hx23 Ta0
        have hE : Ext S0 S_20 := Ext.tr hE hx23
        refine lv_icmp_ne (tgt := 61) hx hb dX12_factHere_54 (by decide) (fun h24 => ?_) (fun h24 => ?_)
        · rw [if_neg h24] at hm
          refine lv_iload_n hx hb dX12_factHere_61 rfl (lv_at hl 0 rfl) ?_
          refine va_ldcwS hx hb hown (hw.str 33 rfl) dX12_factHere_62 ?_
          obtain ⟨r27, S_25, hq26, hm⟩ := cb_some hm
          refine pw_ci (va_runS (As := [.ref (C.2.2.2.2.2.2.1 12)]) (rest := [.int r3]) ⟨hx, hb, hml, hown, hU⟩ (c_X12_of l C X n S_20 hw.wf _ 12 ((by decide)) r27 S_25 hq26) ⟨callB_of 1 hU (pq_g1 tc_X12_of) rfl rfl rfl (hU _ tw14) (hU _ tw1731) cd_X12_of.2 ⟨Nat.le_of_ble_eq_true rfl, Nat.le_of_ble_eq_true rfl⟩, hU _ tw1732⟩ (pw_preS hw) rfl rfl hl.1 rfl (lv_room (Nat.le_of_ble_eq_true rfl)) dX12_factHere_65 ⟨Nat.zero_le _, Nat.zero_le _⟩) hw (fun H locs hw hx28 => ?_)
          have Ta0 : TY S_25 a0 12 := ty_ext hx28 Ta0
          have hE : Ext S0 S_25 := Ext.tr hE hx28
          refine lv_icmp_ne (tgt := 75) hx hb dX12_factHere_68 (by decide) (fun h29 => ?_) (fun h29 => ?_)
          · rw [if_neg h29] at hm
            refine lv_iload_n hx hb dX12_factHere_75 rfl (lv_at hl 0 rfl) ?_
            refine va_ldcwS hx hb hown (hw.str 34 rfl) dX12_factHere_76 ?_
            obtain ⟨r32, S_30, hq31, hm⟩ := cb_some hm
            refine pw_ci (va_runS (As := [.ref (C.2.2.2.2.2.2.1 13)]) (rest := [.int r3]) ⟨hx, hb, hml, hown, hU⟩ (c_X12_of l C X n S_25 hw.wf _ 13 ((by decide)) r32 S_30 hq31) ⟨callB_of 1 hU (pq_g1 tc_X12_of) rfl rfl rfl (hU _ tw14) (hU _ tw1731) cd_X12_of.2 ⟨Nat.le_of_ble_eq_true rfl, Nat.le_of_ble_eq_true rfl⟩, hU _ tw1732⟩ (pw_preS hw) rfl rfl hl.1 rfl (lv_room (Nat.le_of_ble_eq_true rfl)) dX12_factHere_79 ⟨Nat.zero_le _, Nat.zero_le _⟩) hw (fun H locs hw hx33 => ?_)
            have Ta0 : TY S_30 a0 12 := ty_ext hx33 Ta0
            have hE : Ext S0 S_30 := Ext.tr hE hx33
            refine lv_icmp_ne (tgt := 89) hx hb dX12_factHere_82 (by decide) (fun h34 => ?_) (fun h34 => ?_)
            · rw [if_neg h34] at hm
              refine lv_iload_n hx hb dX12_factHere_89 rfl (lv_at hl 0 rfl) ?_
              refine va_ldcwS hx hb hown (hw.str 35 rfl) dX12_factHere_90 ?_
              obtain ⟨r37, S_35, hq36, hm⟩ := cb_some hm
              refine pw_ci (va_runS (As := [.ref (C.2.2.2.2.2.2.1 14)]) (rest := [.int r3]) ⟨hx, hb, hml, hown, hU⟩ (c_X12_of l C X n S_30 hw.wf _ 14 ((by decide)) r37 S_35 hq36) ⟨callB_of 1 hU (pq_g1 tc_X12_of) rfl rfl rfl (hU _ tw14) (hU _ tw1731) cd_X12_of.2 ⟨Nat.le_of_ble_eq_true rfl, Nat.le_of_ble_eq_true rfl⟩, hU _ tw1732⟩ (pw_preS hw) rfl rfl hl.1 rfl (lv_room (Nat.le_of_ble_eq_true rfl)) dX12_factHere_93 ⟨Nat.zero_le _, Nat.zero_le _⟩) hw (fun H locs hw hx38 => ?_)
              have Ta0 : TY S_35 a0 12 := ty_ext hx38 Ta0
              have hE : Ext S0 S_35 := Ext.tr hE hx38
              refine lv_icmp_ne (tgt := 104) hx hb dX12_factHere_96 (by decide) (fun h39 => ?_) (fun h39 => ?_)
              · rw [if_neg h39] at hm
                refine lv_iconst (v := (-1)) hx hb dX12_factHere_104 (by decide) ?_
                cases hm
                exact pw_iret hx hb hr rfl hlk hw hE dX12_factHere_105
              · rw [if_pos h39] at hm
                refine lv_bipush (v := 6) hx hb dX12_factHere_99 (by decide) ?_
                refine lv_goto (tgt := 105) hx hb dX12_factHere_101 (by decide) ?_
                cases hm
                exact pw_iret hx hb hr rfl hlk hw hE dX12_factHere_105
            · rw [if_pos h34] at hm
              refine lv_iconst (v := 5) hx hb dX12_factHere_85 (by decide) ?_
              refine lv_goto (tgt := 105) hx hb dX12_factHere_86 (by decide) ?_
              cases hm
              exact pw_iret hx hb hr rfl hlk hw hE dX12_factHere_105
          · rw [if_pos h29] at hm
            refine lv_iconst (v := 4) hx hb dX12_factHere_71 (by decide) ?_
            refine lv_goto (tgt := 105) hx hb dX12_factHere_72 (by decide) ?_
            cases hm
            exact pw_iret hx hb hr rfl hlk hw hE dX12_factHere_105
        · rw [if_pos h24] at hm
          refine lv_iconst (v := 3) hx hb dX12_factHere_57 (by decide) ?_
          refine lv_goto (tgt := 105) hx hb dX12_factHere_58 (by decide) ?_
          cases hm
          exact pw_iret hx hb hr rfl hlk hw hE dX12_factHere_105
      · rw [if_pos h19] at hm
        refine lv_iconst (v := 2) hx hb dX12_factHere_43 (by decide) ?_
        refine lv_goto (tgt := 105) hx hb dX12_factHere_44 (by decide) ?_
        cases hm
        exact pw_iret hx hb hr rfl hlk hw hE dX12_factHere_105
    · rw [if_pos h14] at hm
      refine lv_iconst (v := 1) hx hb dX12_factHere_29 (by decide) ?_
      refine lv_goto (tgt := 105) hx hb dX12_factHere_30 (by decide) ?_
      cases hm
      exact pw_iret hx hb hr rfl hlk hw hE dX12_factHere_105
  · rw [if_pos h9] at hm
    refine lv_iconst (v := 0) hx hb dX12_factHere_15 (by decide) ?_
    refine lv_goto (tgt := 105) hx hb dX12_factHere_16 (by decide) ?_
    cases hm
    exact pw_iret hx hb hr rfl hlk hw hE dX12_factHere_105
