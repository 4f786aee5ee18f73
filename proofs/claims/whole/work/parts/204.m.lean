abbrev rm_X12_gets : Room := { frames := 2, cells := 0, slots := 0, locals := 45 }
def b_X12_gets_40 (n : Nat) (a0 : Nat) (x1 : Int32) (x2 : Int32) (x3 : Int32) (b0 : Nat) (z1 : Int32) (S : pq_S) : Option (Int32 × pq_S) := cb (m_X12_may n b0 z1 2 1 S) fun r21 S_19 => if r21 = 0 then some (0, S_19) else Option.bind (m_X12_take n a0 S_19) fun S_25 => cb (m_X12_getsOf n a0 x1 x2 x3 S_25) fun r30 S_28 => some (r30, S_28)
set_option maxHeartbeats 4000000 in
set_option maxRecDepth 100000 in
theorem wb_X12_gets_40 {p : Program} {l : Launch} {e : Env} {s : State} {m : MethodId} {args : Array Value} {below : List Frame} {meth : Method} {c : Code} (cx : Cx p s m args meth c cX12_gets 4 RX12 (some .int)) (C : pq_C) (X : va_W) (S0 : pq_S) (n : Nat) (r : Int32) (S1 : pq_S) : ∀ (a0 : Nat) (x1 : Int32) (x2 : Int32) (x3 : Int32) (b0 : Nat) (z1 : Int32) (S : pq_S) (H : Heap) (locs : List Loc) (ls : Array Slot), PW C X S (pq_F C X S0 s.heap.size) H locs s → Ext S0 S → TY S a0 12 → TY S b0 12 → lv_has ls 4 [(0, .ref a0), (1, .int x1), (2, .int x2), (3, .int x3)] → b_X12_gets_40 n a0 x1 x2 x3 b0 z1 S = some (r, S1) → W p l e rm_X12_gets s m args below meth c H locs 0 0 (MQ below (QcI C X S0 s.heap.size r S1) args s 0 0 (pq_F C X S0 s.heap.size)) (F0 m 40 ls [.int z1, .ref b0]) := by
  obtain ⟨hx, hb, hml, hown, hU, hr, hlk⟩ := id cx
  intro a0 x1 x2 x3 b0 z1 S H locs ls hw hE Ta0 Tb0 hl hm
  rw [b_X12_gets_40] at hm
  refine lv_iconst (v := 2) hx hb dX12_gets_40 (by decide) ?_
  refine lv_iconst (v := 1) hx hb dX12_gets_41 (by decide) ?_
  obtain ⟨r21, S_19, hq20, hm⟩ := cb_some hm
  refine pw_cz (va_runV (As := [.int z1, .int 2, .int 1]) (rest := []) ⟨hx, hb, hml, hown, hU⟩ (c_X12_may l C X n S hw.wf _ b0 z1 2 1 (Tb0) r21 S_19 hq20) (cwV 3 hU (pq_gV tw1703 tw1705 ts123 tw14 tc_X12_may) rfl rfl rfl cd_X12_may ⟨Nat.le_of_ble_eq_true rfl, Nat.le_of_ble_eq_true rfl⟩) (pw_preV hw Tb0 (by decide) rfl) rfl rfl hl.1 rfl (lv_room (Nat.le_of_ble_eq_true rfl)) dX12_gets_42 ⟨Nat.zero_le _, Nat.zero_le _⟩) hw (fun H locs hw hx22 hz23 => ?_)
  have Ta0 : TY S_19 a0 12 := ty_ext hx22 Ta0
  have hE : Ext S0 S_19 := Ext.tr hE hx22
  refine lv_if_ne (tgt := 50) hx hb dX12_gets_45 (by decide) (fun h24 => ?_) (fun h24 => ?_)
  · rw [if_neg h24] at hm
    refine lv_aload_n hx hb dX12_gets_50 rfl (lv_at hl 0 rfl) ?_
    obtain ⟨S_25, hq26, hm⟩ := bd_some hm
    refine pw_cv (va_runV (As := []) (rest := []) ⟨hx, hb, hml, hown, hU⟩ (c_X12_take l C X n S_19 hw.wf _ a0 (Ta0) S_25 hq26) (cwV 0 hU (pq_gV tw1922 tw1924 ts161 tw14 tc_X12_take) rfl rfl rfl cd_X12_take ⟨Nat.le_of_ble_eq_true rfl, Nat.le_of_ble_eq_true rfl⟩) (pw_preV hw Ta0 (by decide) rfl) rfl rfl hl.1 rfl (lv_room (Nat.le_of_ble_eq_true rfl)) dX12_gets_51 ⟨Nat.zero_le _, Nat.zero_le _⟩) hw (fun H locs hw hx27 => ?_)
    have Ta0 : TY S_25 a0 12 := ty_ext hx27 Ta0
    have hE : Ext S0 S_25 := Ext.tr hE hx27
    refine lv_aload_n hx hb dX12_gets_54 rfl (lv_at hl 0 rfl) ?_
    refine lv_iload_n hx hb dX12_gets_55 rfl (lv_at hl 1 rfl) ?_
    refine lv_iload_n hx hb dX12_gets_56 rfl (lv_at hl 2 rfl) ?_
    refine lv_iload_n hx hb dX12_gets_57 rfl (lv_at hl 3 rfl) ?_
    obtain ⟨r30, S_28, hq29, hm⟩ := cb_some hm
    refine pw_ci (va_runV (As := [.int x1, .int x2, .int x3]) (rest := []) ⟨hx, hb, hml, hown, hU⟩ (c_X12_getsOf l C X n S_25 hw.wf _ a0 x1 x2 x3 (Ta0) r30 S_28 hq29) (cwV 3 hU (pq_gV tw2062 tw2064 ts175 tw14 tc_X12_getsOf) rfl rfl rfl cd_X12_getsOf ⟨Nat.le_of_ble_eq_true rfl, Nat.le_of_ble_eq_true rfl⟩) (pw_preV hw Ta0 (by decide) rfl) rfl rfl hl.1 rfl (lv_room (Nat.le_of_ble_eq_true rfl)) dX12_gets_58 ⟨Nat.zero_le _, Nat.zero_le _⟩) hw (fun H locs hw hx31 => ?_)
    have Ta0 : TY S_28 a0 12 := ty_ext hx31 Ta0
    have hE : Ext S0 S_28 := Ext.tr hE hx31
    cases hm
    exact pw_iret hx hb hr rfl hlk hw hE dX12_gets_61
  · rw [if_pos h24] at hm
    refine lv_iconst (v := 0) hx hb dX12_gets_48 (by decide) ?_
    cases hm
    exact pw_iret hx hb hr rfl hlk hw hE dX12_gets_49
def b_X12_gets_39 (n : Nat) (a0 : Nat) (x1 : Int32) (x2 : Int32) (x3 : Int32) (b0 : Nat) (S : pq_S) : Option (Int32 × pq_S) := b_X12_gets_40 n a0 x1 x2 x3 b0 0 S
set_option maxHeartbeats 4000000 in
set_option maxRecDepth 100000 in
theorem wb_X12_gets_39 {p : Program} {l : Launch} {e : Env} {s : State} {m : MethodId} {args : Array Value} {below : List Frame} {meth : Method} {c : Code} (cx : Cx p s m args meth c cX12_gets 4 RX12 (some .int)) (C : pq_C) (X : va_W) (S0 : pq_S) (n : Nat) (r : Int32) (S1 : pq_S) : ∀ (a0 : Nat) (x1 : Int32) (x2 : Int32) (x3 : Int32) (b0 : Nat) (S : pq_S) (H : Heap) (locs : List Loc) (ls : Array Slot), PW C X S (pq_F C X S0 s.heap.size) H locs s → Ext S0 S → TY S a0 12 → TY S b0 12 → lv_has ls 4 [(0, .ref a0), (1, .int x1), (2, .int x2), (3, .int x3)] → b_X12_gets_39 n a0 x1 x2 x3 b0 S = some (r, S1) → W p l e rm_X12_gets s m args below meth c H locs 0 0 (MQ below (QcI C X S0 s.heap.size r S1) args s 0 0 (pq_F C X S0 s.heap.size)) (F0 m 39 ls [.ref b0]) := by
  obtain ⟨hx, hb, hml, hown, hU, hr, hlk⟩ := id cx
  intro a0 x1 x2 x3 b0 S H locs ls hw hE Ta0 Tb0 hl hm
  rw [b_X12_gets_39] at hm
  refine lv_iconst (v := 0) hx hb dX12_gets_39 (by decide) ?_
  exact wb_X12_gets_40 cx C X S0 n r S1 a0 x1 x2 x3 b0 0 S _ _ _ hw hE Ta0 Tb0 (lv_sub hl [0, 1, 2, 3] rfl) hm
def m_X12_gets (n : Nat) (a0 : Nat) (x1 : Int32) (x2 : Int32) (x3 : Int32) (S0 : pq_S) : Option (Int32 × pq_S) := cb (m_X12_isPlace n a0 x1 1 (sI S0 1200 a0 0)) fun r3 S_1 => if r3 = 0 then some (0, S_1) else cb (m_X12_within n x2 0 99 S_1) fun r9 S_7 => if r9 = 0 then b_X12_gets_39 n a0 x1 x2 x3 a0 S_7 else cb (m_X12_within n x3 0 99 S_7) fun r15 S_13 => if r15 = 0 then b_X12_gets_39 n a0 x1 x2 x3 a0 S_13 else b_X12_gets_40 n a0 x1 x2 x3 a0 1 S_13
theorem tc_X12_gets : Cond.code yX12_gets cX12_gets 4 (some .int) ∈ pq_U := tw2069
theorem cd_X12_gets : yX12_gets.cls = RX12 ∧ yX12_gets.cls ≠ "java/lang/invoke/MethodHandle" ∧ yX12_gets.cls ≠ "java/lang/invoke/VarHandle" ∧ (parseMethodDescriptor yX12_gets.desc).map (fun d => d.parameters.length) = some 3 := by decide +kernel
set_option maxHeartbeats 4000000 in
set_option maxRecDepth 100000 in
theorem c_X12_gets (l : Launch) (C : pq_C) (X : va_W) (n : Nat) (S0 : pq_S) (hF : WF S0) (sz : Nat) (a0 : Nat) (x1 : Int32) (x2 : Int32) (x3 : Int32) (Ta0 : TY S0 a0 12) (r : Int32) (S1 : pq_S) (hm : m_X12_gets n a0 x1 x2 x3 S0 = some (r, S1)) : MI l yX12_gets (.code yX12_gets cX12_gets 4 (some .int) :: pq_U) rm_X12_gets C X S0 sz [.ref a0, .int x1, .int x2, .int x3] r S1 0 0 := by
  refine Met.ofW (cc := cX12_gets) (maxL := 4) (ret := (some .int)) (by decide) rfl ?_
  intro p e s m args below meth c s₁ B hml hv
  obtain ⟨rfl, hv⟩ := hv
  have hsz := hv.1
  subst hsz
  have hw := pw_entry hF hv
  have hts := atoms_spec (ws := .code yX12_gets cX12_gets 4 (some .int) :: pq_U) B.pre
  have hU : ∀ w ∈ pq_U, w.before _ s = true := fun w h => hts w (List.mem_cons_of_mem _ h)
  have hx := B.exec
  have hb := B.bytes
  have hr := B.returns
  have hown : s.vm.findClass RX12 = some m.cls := findClass_of_methodNamed B.named
  have hlk := B.notSynchronized
  have hl := lv_entry ([.ref a0, .int x1, .int x2, .int x3]) (n := 4) (Nat.le_of_ble_eq_true rfl)
  rw [lg_entry_eq]
  generalize (lg_sl ([.ref a0, .int x1, .int x2, .int x3]) ++ List.replicate (4 - (lg_sl ([.ref a0, .int x1, .int x2, .int x3])).length) Slot.unset).toArray = ls at hl ⊢
  have hl : lv_has ls 4 [(0, .ref a0), (1, .int x1), (2, .int x2), (3, .int x3)] := hl
  have hE : Ext S0 S0 := Ext.rf _
  have cx : Cx p s m _ meth c cX12_gets 4 RX12 (some .int) := ⟨hx, hb, hml, hown, hU, hr, hlk⟩
  rw [m_X12_gets] at hm
  refine lv_aload_n hx hb dX12_gets_0 rfl (lv_at hl 0 rfl) ?_
  refine lv_iconst (v := 0) hx hb dX12_gets_1 (by decide) ?_
  refine pp_i (k := 12) (j := 0) (f := 1200) hx hb hown hU iu12 tyX12_ok nmX12 hw Ta0 (by decide) rfl (hU _ tw1471) rfl rfl rfl dX12_gets_2 (fun H locs hw => ?_)
  refine lv_aload_n hx hb dX12_gets_5 rfl (lv_at hl 0 rfl) ?_
  refine lv_iload_n hx hb dX12_gets_6 rfl (lv_at hl 1 rfl) ?_
  refine lv_iconst (v := 1) hx hb dX12_gets_7 (by decide) ?_
  obtain ⟨r3, S_1, hq2, hm⟩ := cb_some hm
  refine pw_cz (va_runV (As := [.int x1, .int 1]) (rest := []) ⟨hx, hb, hml, hown, hU⟩ (c_X12_isPlace l C X n (sI S0 1200 a0 0) hw.wf _ a0 x1 1 (Ta0) r3 S_1 hq2) (cwV 2 hU (pq_gV tw1918 tw1920 ts160 tw14 tc_X12_isPlace) rfl rfl rfl cd_X12_isPlace ⟨Nat.le_of_ble_eq_true rfl, Nat.le_of_ble_eq_true rfl⟩) (pw_preV hw Ta0 (by decide) rfl) rfl rfl hl.1 rfl (lv_room (Nat.le_of_ble_eq_true rfl)) dX12_gets_8 ⟨Nat.zero_le _, Nat.zero_le _⟩) hw (fun H locs hw hx4 hz5 => ?_)
  have Ta0 : TY S_1 a0 12 := ty_ext hx4 Ta0
  have hE : Ext S0 S_1 := Ext.tr hE hx4
  refine lv_if_eq (tgt := 48) hx hb dX12_gets_11 (by decide) (fun h6 => ?_) (fun h6 => ?_)
  · rw [if_pos h6] at hm
    refine lv_iconst (v := 0) hx hb dX12_gets_48 (by decide) ?_
    cases hm
    exact pw_iret hx hb hr rfl hlk hw hE dX12_gets_49
  · rw [if_neg h6] at hm
    refine lv_aload_n hx hb dX12_gets_14 rfl (lv_at hl 0 rfl) ?_
    refine lv_iload_n hx hb dX12_gets_15 rfl (lv_at hl 2 rfl) ?_
    refine lv_iconst (v := 0) hx hb dX12_gets_16 (by decide) ?_
    refine lv_bipush (v := 99) hx hb dX12_gets_17 (by decide) ?_
    obtain ⟨r9, S_7, hq8, hm⟩ := cb_some hm
    refine pw_cz (va_runS (As := [.int x2, .int 0, .int 99]) (rest := [.ref a0]) ⟨hx, hb, hml, hown, hU⟩ (c_X12_within l C X n S_1 hw.wf _ x2 0 99  r9 S_7 hq8) ⟨callB_of 3 hU (pq_g1 tc_X12_within) rfl rfl rfl (hU _ tw14) (hU _ tw1776) cd_X12_within.2 ⟨Nat.le_of_ble_eq_true rfl, Nat.le_of_ble_eq_true rfl⟩, hU _ tw1777⟩ (pw_preS hw) rfl rfl hl.1 rfl (lv_room (Nat.le_of_ble_eq_true rfl)) dX12_gets_19 ⟨Nat.zero_le _, Nat.zero_le _⟩) hw (fun H locs hw hx10 hz11 => ?_)
    have Ta0 : TY S_7 a0 12 := ty_ext hx10 Ta0
    have hE : Ext S0 S_7 := Ext.tr hE hx10
    refine lv_if_eq (tgt := 39) hx hb dX12_gets_22 (by decide) (fun h12 => ?_) (fun h12 => ?_)
    · rw [if_pos h12] at hm
      exact wb_X12_gets_39 cx C X S0 n r S1 a0 x1 x2 x3 a0 S_7 _ _ _ hw hE Ta0 Ta0 (lv_sub hl [0, 1, 2, 3] rfl) hm
    · rw [if_neg h12] at hm
      refine lv_iload_n hx hb dX12_gets_25 rfl (lv_at hl 3 rfl) ?_
      refine lv_iconst (v := 0) hx hb dX12_gets_26 (by decide) ?_
      refine lv_bipush (v := 99) hx hb dX12_gets_27 (by decide) ?_
      obtain ⟨r15, S_13, hq14, hm⟩ := cb_some hm
      refine pw_cz (va_runS (As := [.int x3, .int 0, .int 99]) (rest := [.ref a0]) ⟨hx, hb, hml, hown, hU⟩ (c_X12_within l C X n S_7 hw.wf _ x3 0 99  r15 S_13 hq14) ⟨callB_of 3 hU (pq_g1 tc_X12_within) rfl rfl rfl (hU _ tw14) (hU _ tw1776) cd_X12_within.2 ⟨Nat.le_of_ble_eq_true rfl, Nat.le_of_ble_eq_true rfl⟩, hU _ tw1777⟩ (pw_preS hw) rfl rfl hl.1 rfl (lv_room (Nat.le_of_ble_eq_true rfl)) dX12_gets_29 ⟨Nat.zero_le _, Nat.zero_le _⟩) hw (fun H locs hw hx16 hz17 => ?_)
      have Ta0 : TY S_13 a0 12 := ty_ext hx16 Ta0
      have hE : Ext S0 S_13 := Ext.tr hE hx16
      refine lv_if_eq (tgt := 39) hx hb dX12_gets_32 (by decide) (fun h18 => ?_) (fun h18 => ?_)
      · rw [if_pos h18] at hm
        exact wb_X12_gets_39 cx C X S0 n r S1 a0 x1 x2 x3 a0 S_13 _ _ _ hw hE Ta0 Ta0 (lv_sub hl [0, 1, 2, 3] rfl) hm
      · rw [if_neg h18] at hm
        refine lv_iconst (v := 1) hx hb dX12_gets_35 (by decide) ?_
        refine lv_goto (tgt := 40) hx hb dX12_gets_36 (by decide) ?_
        exact wb_X12_gets_40 cx C X S0 n r S1 a0 x1 x2 x3 a0 1 S_13 _ _ _ hw hE Ta0 Ta0 (lv_sub hl [0, 1, 2, 3] rfl) hm
abbrev rm_X12_moonsOn : Room := { frames := 0, cells := 0, slots := 0, locals := 0 }
def b_X12_moonsOn_43 (n : Nat) (k4 : Nat → Int32 → Int32 → Int32 → pq_S → Option (Int32 × pq_S)) (a0 : Nat) (x1 : Int32) (x3 : Int32) (z0 : Int32) (z1 : Int32) (S : pq_S) : Option (Int32 × pq_S) := k4 a0 x1 (z0 ||| z1) (x3 + 1) S
set_option maxHeartbeats 4000000 in
set_option maxRecDepth 100000 in
theorem wb_X12_moonsOn_43 {p : Program} {l : Launch} {e : Env} {s : State} {m : MethodId} {args : Array Value} {below : List Frame} {meth : Method} {c : Code} (cx : Cx p s m args meth c cX12_moonsOn 4 RX12 (some .int)) (C : pq_C) (X : va_W) (S0 : pq_S) (n : Nat) (r : Int32) (S1 : pq_S) (k4 : Nat → Int32 → Int32 → Int32 → pq_S → Option (Int32 × pq_S)) (hk4 : ∀ (a0 : Nat) (x1 : Int32) (x2 : Int32) (x3 : Int32) (S : pq_S) (H : Heap) (locs : List Loc) (ls : Array Slot), PW C X S (pq_F C X S0 s.heap.size) H locs s → Ext S0 S → TY S a0 12 → lv_has ls 4 [(0, .ref a0), (1, .int x1), (2, .int x2), (3, .int x3)] → k4 a0 x1 x2 x3 S = some (r, S1) → W p l e rm_X12_moonsOn s m args below meth c H locs 0 0 (MQ below (QcI C X S0 s.heap.size r S1) args s 0 0 (pq_F C X S0 s.heap.size)) (F0 m 4 ls [])) : ∀ (a0 : Nat) (x1 : Int32) (x3 : Int32) (z0 : Int32) (z1 : Int32) (S : pq_S) (H : Heap) (locs : List Loc) (ls : Array Slot), PW C X S (pq_F C X S0 s.heap.size) H locs s → Ext S0 S → TY S a0 12 → lv_has ls 4 [(0, .ref a0), (1, .int x1), (3, .int x3)] → b_X12_moonsOn_43 n k4 a0 x1 x3 z0 z1 S = some (r, S1) → W p l e rm_X12_moonsOn s m args below meth c H locs 0 0 (MQ below (QcI C X S0 s.heap.size r S1) args s 0 0 (pq_F C X S0 s.heap.size)) (F0 m 43 ls [.int z1, .int z0]) := by
  obtain ⟨hx, hb, hml, hown, hU, hr, hlk⟩ := id cx
  intro a0 x1 x3 z0 z1 S H locs ls hw hE Ta0 hl hm
  rw [b_X12_moonsOn_43] at hm
  refine lv_ior hx hb dX12_moonsOn_43 ?_
  refine lv_istore_n (lv' := [(2, .int (z0 ||| z1)), (0, .ref a0), (1, .int x1), (3, .int x3)]) hx hb dX12_moonsOn_44 rfl hl (by decide) rfl (fun ls hl => ?_)
  refine lv_iinc (v := (x3 + 1)) (lv' := [(3, .int (x3 + 1)), (2, .int (z0 ||| z1)), (0, .ref a0), (1, .int x1)]) hx hb dX12_moonsOn_45 hl (k := 3) rfl rfl (by decide) rfl (fun ls hl => ?_)
  refine lv_goto (tgt := 4) hx hb dX12_moonsOn_48 (by decide) ?_
  exact hk4 a0 x1 (z0 ||| z1) (x3 + 1) S _ _ _ hw hE Ta0 (lv_sub hl [2, 3, 1, 0] rfl) hm
def b_X12_moonsOn_4 (n : Nat) : Nat → Nat → Int32 → Int32 → Int32 → pq_S → Option (Int32 × pq_S)
  | 0, _, _, _, _, _ => none
  | f + 1, a0, x1, x2, x3, S => if (pI S 1227 a0) ≤ x3 then some (x2, S) else Option.bind (pR S 1217 a0) fun q2 => ck (ix ((2 : Int32) * x3) (pN S q2)) (dix _ _) (ck (¬ (pA S q2 (Int32.toNatClampNeg ((2 : Int32) * x3))) = 0) (dne _) (Option.bind (pR S 1217 a0) fun q5 => ck (ix (((2 : Int32) * x3) + (1 : Int32)) (pN S q5)) (dix _ _) (if (x1 - x1 / (pA S q2 (Int32.toNatClampNeg ((2 : Int32) * x3))) * (pA S q2 (Int32.toNatClampNeg ((2 : Int32) * x3)))) = (pA S q5 (Int32.toNatClampNeg (((2 : Int32) * x3) + (1 : Int32)))) then b_X12_moonsOn_43 n (b_X12_moonsOn_4 n f) a0 x1 x3 x2 ((1 : Int32) <<< (x3 &&& (31 : Int32))) S else b_X12_moonsOn_43 n (b_X12_moonsOn_4 n f) a0 x1 x3 x2 0 S)))
set_option maxHeartbeats 4000000 in
set_option maxRecDepth 100000 in
theorem wb_X12_moonsOn_4 {p : Program} {l : Launch} {e : Env} {s : State} {m : MethodId} {args : Array Value} {below : List Frame} {meth : Method} {c : Code} (cx : Cx p s m args meth c cX12_moonsOn 4 RX12 (some .int)) (C : pq_C) (X : va_W) (S0 : pq_S) (n : Nat) (r : Int32) (S1 : pq_S) : ∀ (f : Nat) (a0 : Nat) (x1 : Int32) (x2 : Int32) (x3 : Int32) (S : pq_S) (H : Heap) (locs : List Loc) (ls : Array Slot), PW C X S (pq_F C X S0 s.heap.size) H locs s → Ext S0 S → TY S a0 12 → lv_has ls 4 [(0, .ref a0), (1, .int x1), (2, .int x2), (3, .int x3)] → b_X12_moonsOn_4 n f a0 x1 x2 x3 S = some (r, S1) → W p l e rm_X12_moonsOn s m args below meth c H locs 0 0 (MQ below (QcI C X S0 s.heap.size r S1) args s 0 0 (pq_F C X S0 s.heap.size)) (F0 m 4 ls []) := by
  obtain ⟨hx, hb, hml, hown, hU, hr, hlk⟩ := id cx
  intro f
  induction f with
  | zero =>
    intro a0 x1 x2 x3 S H locs ls hw hE Ta0 hl hm
    cases hm
  | succ f ih =>
    intro a0 x1 x2 x3 S H locs ls hw hE Ta0 hl hm
    rw [b_X12_moonsOn_4] at hm
    refine lv_iload_n hx hb dX12_moonsOn_4 rfl (lv_at hl 3 rfl) ?_
    refine lv_aload_n hx hb dX12_moonsOn_5 rfl (lv_at hl 0 rfl) ?_
    refine pg_i (k := 12) (j := 27) (f := 1227) hx hb hown hU iu12 hw Ta0 (by decide) rfl (hU _ tw1498) rfl dX12_moonsOn_6 ?_
    refine lv_icmp_ge (tgt := 51) hx hb dX12_moonsOn_9 (by decide) (fun h1 => ?_) (fun h1 => ?_)
    · rw [if_pos h1] at hm
      refine lv_iload_n hx hb dX12_moonsOn_51 rfl (lv_at hl 2 rfl) ?_
      cases hm
      exact pw_iret hx hb hr rfl hlk hw hE dX12_moonsOn_52
    · rw [if_neg h1] at hm
      refine lv_iload_n hx hb dX12_moonsOn_12 rfl (lv_at hl 2 rfl) ?_
      refine lv_iload_n hx hb dX12_moonsOn_13 rfl (lv_at hl 1 rfl) ?_
      refine lv_aload_n hx hb dX12_moonsOn_14 rfl (lv_at hl 0 rfl) ?_
      obtain ⟨q2, hq2, hm⟩ := bd_some hm
      have Tq2 : TY S q2 14 := hw.wf.ref (k := 12) (j := 17) Ta0 (by decide) (by decide) hq2
      refine pg_rb (k := 12) (j := 17) (f := 1217) hx hb hown hU iu12 hw Ta0 (by decide) rfl (hU _ tw1488) rfl hq2 dX12_moonsOn_15 ?_
      refine lv_iconst (v := 2) hx hb dX12_moonsOn_18 (by decide) ?_
      refine lv_iload_n hx hb dX12_moonsOn_19 rfl (lv_at hl 3 rfl) ?_
      refine lv_imul hx hb dX12_moonsOn_20 ?_
      obtain ⟨hi3, hm⟩ := ck_some hm
      refine pw_iald hx hb hw Tq2 hi3 dX12_moonsOn_21 ?_
      obtain ⟨hn4, hm⟩ := ck_some hm
      refine lv_irem hx hb dX12_moonsOn_22 hn4 ?_
      refine lv_aload_n hx hb dX12_moonsOn_23 rfl (lv_at hl 0 rfl) ?_
      obtain ⟨q5, hq5, hm⟩ := bd_some hm
      have Tq5 : TY S q5 14 := hw.wf.ref (k := 12) (j := 17) Ta0 (by decide) (by decide) hq5
      refine pg_rb (k := 12) (j := 17) (f := 1217) hx hb hown hU iu12 hw Ta0 (by decide) rfl (hU _ tw1488) rfl hq5 dX12_moonsOn_24 ?_
      refine lv_iconst (v := 2) hx hb dX12_moonsOn_27 (by decide) ?_
      refine lv_iload_n hx hb dX12_moonsOn_28 rfl (lv_at hl 3 rfl) ?_
      refine lv_imul hx hb dX12_moonsOn_29 ?_
      refine lv_iconst (v := 1) hx hb dX12_moonsOn_30 (by decide) ?_
      refine lv_iadd hx hb dX12_moonsOn_31 ?_
      obtain ⟨hi6, hm⟩ := ck_some hm
      refine pw_iald hx hb hw Tq5 hi6 dX12_moonsOn_32 ?_
      refine lv_icmp_ne (tgt := 42) hx hb dX12_moonsOn_33 (by decide) (fun h7 => ?_) (fun h7 => ?_)
      · rw [if_neg h7] at hm
        refine lv_iconst (v := 0) hx hb dX12_moonsOn_42 (by decide) ?_
        exact wb_X12_moonsOn_43 cx C X S0 n r S1 _ ih a0 x1 x3 x2 0 S _ _ _ hw hE Ta0 (lv_sub hl [0, 1, 3] rfl) hm
      · rw [if_pos h7] at hm
        refine lv_iconst (v := 1) hx hb dX12_moonsOn_36 (by decide) ?_
        refine lv_iload_n hx hb dX12_moonsOn_37 rfl (lv_at hl 3 rfl) ?_
        refine lv_ishl hx hb dX12_moonsOn_38 ?_
        refine lv_goto (tgt := 43) hx hb dX12_moonsOn_39 (by decide) ?_
        exact wb_X12_moonsOn_43 cx C X S0 n r S1 _ ih a0 x1 x3 x2 ((1 : Int32) <<< (x3 &&& (31 : Int32))) S _ _ _ hw hE Ta0 (lv_sub hl [0, 1, 3] rfl) hm
def m_X12_moonsOn (n : Nat) (a0 : Nat) (x1 : Int32) (S0 : pq_S) : Option (Int32 × pq_S) := b_X12_moonsOn_4 n n a0 x1 0 0 S0
theorem tc_X12_moonsOn : Cond.code yX12_moonsOn cX12_moonsOn 4 (some .int) ∈ pq_U := tw2080
theorem cd_X12_moonsOn : yX12_moonsOn.cls = RX12 ∧ yX12_moonsOn.cls ≠ "java/lang/invoke/MethodHandle" ∧ yX12_moonsOn.cls ≠ "java/lang/invoke/VarHandle" ∧ (parseMethodDescriptor yX12_moonsOn.desc).map (fun d => d.parameters.length) = some 1 := by decide +kernel
set_option maxHeartbeats 4000000 in
set_option maxRecDepth 100000 in
theorem c_X12_moonsOn (l : Launch) (C : pq_C) (X : va_W) (n : Nat) (S0 : pq_S) (hF : WF S0) (sz : Nat) (a0 : Nat) (x1 : Int32) (Ta0 : TY S0 a0 12) (r : Int32) (S1 : pq_S) (hm : m_X12_moonsOn n a0 x1 S0 = some (r, S1)) : MI l yX12_moonsOn (.code yX12_moonsOn cX12_moonsOn 4 (some .int) :: pq_U) rm_X12_moonsOn C X S0 sz [.ref a0, .int x1] r S1 0 0 := by
  refine Met.ofW (cc := cX12_moonsOn) (maxL := 4) (ret := (some .int)) (by decide) rfl ?_
  intro p e s m args below meth c s₁ B hml hv
  obtain ⟨rfl, hv⟩ := hv
  have hsz := hv.1
  subst hsz
  have hw := pw_entry hF hv
  have hts := atoms_spec (ws := .code yX12_moonsOn cX12_moonsOn 4 (some .int) :: pq_U) B.pre
  have hU : ∀ w ∈ pq_U, w.before _ s = true := fun w h => hts w (List.mem_cons_of_mem _ h)
  have hx := B.exec
  have hb := B.bytes
  have hr := B.returns
  have hown : s.vm.findClass RX12 = some m.cls := findClass_of_methodNamed B.named
  have hlk := B.notSynchronized
  have hl := lv_entry ([.ref a0, .int x1]) (n := 4) (Nat.le_of_ble_eq_true rfl)
  rw [lg_entry_eq]
  generalize (lg_sl ([.ref a0, .int x1]) ++ List.replicate (4 - (lg_sl ([.ref a0, .int x1])).length) Slot.unset).toArray = ls at hl ⊢
  have hl : lv_has ls 4 [(0, .ref a0), (1, .int x1)] := hl
  have hE : Ext S0 S0 := Ext.rf _
  have cx : Cx p s m _ meth c cX12_moonsOn 4 RX12 (some .int) := ⟨hx, hb, hml, hown, hU, hr, hlk⟩
  rw [m_X12_moonsOn] at hm
  refine lv_iconst (v := 0) hx hb dX12_moonsOn_0 (by decide) ?_
  refine lv_istore_n (lv' := [(2, .int 0), (0, .ref a0), (1, .int x1)]) hx hb dX12_moonsOn_1 rfl hl (by decide) rfl (fun ls hl => ?_)
  refine lv_iconst (v := 0) hx hb dX12_moonsOn_2 (by decide) ?_
  refine lv_istore_n (lv' := [(3, .int 0), (2, .int 0), (0, .ref a0), (1, .int x1)]) hx hb dX12_moonsOn_3 rfl hl (by decide) rfl (fun ls hl => ?_)
  exact wb_X12_moonsOn_4 cx C X S0 n r S1 n a0 x1 0 0 S0 _ _ _ hw hE Ta0 (lv_sub hl [2, 3, 1, 0] rfl) hm
abbrev rm_X12_isDay : Room := { frames := 0, cells := 0, slots := 0, locals := 0 }
def m_X12_isDay (n : Nat) (x0 : Int32) (S0 : pq_S) : Option (Int32 × pq_S) := if x0 < 0 then some (0, S0) else if 9999 < x0 then some (0, S0) else some (1, S0)
theorem tc_X12_isDay : Cond.code yX12_isDay cX12_isDay 1 (some .boolean) ∈ pq_U := tw2076
theorem cd_X12_isDay : yX12_isDay.cls = RX12 ∧ yX12_isDay.cls ≠ "java/lang/invoke/MethodHandle" ∧ yX12_isDay.cls ≠ "java/lang/invoke/VarHandle" ∧ (parseMethodDescriptor yX12_isDay.desc).map (fun d => d.parameters.length) = some 1 := by decide +kernel
set_option maxHeartbeats 4000000 in
set_option maxRecDepth 100000 in
theorem c_X12_isDay (l : Launch) (C : pq_C) (X : va_W) (n : Nat) (S0 : pq_S) (hF : WF S0) (sz : Nat) (x0 : Int32)  (r : Int32) (S1 : pq_S) (hm : m_X12_isDay n x0 S0 = some (r, S1)) : MZ l yX12_isDay (.code yX12_isDay cX12_isDay 1 (some .boolean) :: pq_U) rm_X12_isDay C X S0 sz [.int x0] r S1 0 0 := by
  refine Met.ofW (cc := cX12_isDay) (maxL := 1) (ret := (some .boolean)) (by decide) rfl ?_
  intro p e s m args below meth c s₁ B hml hv
  obtain ⟨rfl, hv⟩ := hv
  have hsz := hv.1
  subst hsz
  have hw := pw_entry hF hv
  have hts := atoms_spec (ws := .code yX12_isDay cX12_isDay 1 (some .boolean) :: pq_U) B.pre
  have hU : ∀ w ∈ pq_U, w.before _ s = true := fun w h => hts w (List.mem_cons_of_mem _ h)
  have hx := B.exec
  have hb := B.bytes
  have hr := B.returns
  have hown : s.vm.findClass RX12 = some m.cls := findClass_of_methodNamed B.named
  have hlk := B.notSynchronized
  have hl := lv_entry ([.int x0]) (n := 1) (Nat.le_of_ble_eq_true rfl)
  rw [lg_entry_eq]
  generalize (lg_sl ([.int x0]) ++ List.replicate (1 - (lg_sl ([.int x0])).length) Slot.unset).toArray = ls at hl ⊢
  have hl : lv_has ls 1 [(0, .int x0)] := hl
  have hE : Ext S0 S0 := Ext.rf _
  have cx : Cx p s m _ meth c cX12_isDay 1 RX12 (some .boolean) := ⟨hx, hb, hml, hown, hU, hr, hlk⟩
  rw [m_X12_isDay] at hm
  refine lv_iload_n hx hb dX12_isDay_0 rfl (lv_at hl 0 rfl) ?_
  refine lv_if_lt (tgt := 15) hx hb dX12_isDay_1 (by decide) (fun h1 => ?_) (fun h1 => ?_)
  · rw [if_pos h1] at hm
    refine lv_iconst (v := 0) hx hb dX12_isDay_15 (by decide) ?_
    cases hm
    exact pw_zret hx hb hr bz_0 hlk hw hE dX12_isDay_16
  · rw [if_neg h1] at hm
    refine lv_iload_n hx hb dX12_isDay_4 rfl (lv_at hl 0 rfl) ?_
    refine lv_sipush (v := 9999) hx hb dX12_isDay_5 (by decide) ?_
    refine lv_icmp_gt (tgt := 15) hx hb dX12_isDay_8 (by decide) (fun h2 => ?_) (fun h2 => ?_)
    · rw [if_pos h2] at hm
      refine lv_iconst (v := 0) hx hb dX12_isDay_15 (by decide) ?_
      cases hm
      exact pw_zret hx hb hr bz_0 hlk hw hE dX12_isDay_16
    · rw [if_neg h2] at hm
      refine lv_iconst (v := 1) hx hb dX12_isDay_11 (by decide) ?_
      refine lv_goto (tgt := 16) hx hb dX12_isDay_12 (by decide) ?_
      cases hm
      exact pw_zret hx hb hr bz_1 hlk hw hE dX12_isDay_16
abbrev rm_X12_moons : Room := { frames := 1, cells := 0, slots := 0, locals := 23 }
def m_X12_moons (n : Nat) (a0 : Nat) (x1 : Int32) (S0 : pq_S) : Option (Int32 × pq_S) := cb (m_X12_isDay n x1 (sI S0 1200 a0 0)) fun r3 S_1 => cb (m_X12_may n a0 r3 1 1 S_1) fun r8 S_6 => if r8 = 0 then some (0, S_6) else cb (m_X12_moonsOn n a0 x1 S_6) fun r14 S_12 => some (r14, S_12)
theorem tc_X12_moons : Cond.code yX12_moons cX12_moons 2 (some .int) ∈ pq_U := tw2073
theorem cd_X12_moons : yX12_moons.cls = RX12 ∧ yX12_moons.cls ≠ "java/lang/invoke/MethodHandle" ∧ yX12_moons.cls ≠ "java/lang/invoke/VarHandle" ∧ (parseMethodDescriptor yX12_moons.desc).map (fun d => d.parameters.length) = some 1 := by decide +kernel
set_option maxHeartbeats 4000000 in
set_option maxRecDepth 100000 in
theorem c_X12_moons (l : Launch) (C : pq_C) (X : va_W) (n : Nat) (S0 : pq_S) (hF : WF S0) (sz : Nat) (a0 : Nat) (x1 : Int32) (Ta0 : TY S0 a0 12) (r : Int32) (S1 : pq_S) (hm : m_X12_moons n a0 x1 S0 = some (r, S1)) : MI l yX12_moons (.code yX12_moons cX12_moons 2 (some .int) :: pq_U) rm_X12_moons C X S0 sz [.ref a0, .int x1] r S1 0 0 := by
  refine Met.ofW (cc := cX12_moons) (maxL := 2) (ret := (some .int)) (by decide) rfl ?_
  intro p e s m args below meth c s₁ B hml hv
  obtain ⟨rfl, hv⟩ := hv
  have hsz := hv.1
  subst hsz
  have hw := pw_entry hF hv
  have hts := atoms_spec (ws := .code yX12_moons cX12_moons 2 (some .int) :: pq_U) B.pre
  have hU : ∀ w ∈ pq_U, w.before _ s = true := fun w h => hts w (List.mem_cons_of_mem _ h)
  have hx := B.exec
  have hb := B.bytes
  have hr := B.returns
  have hown : s.vm.findClass RX12 = some m.cls := findClass_of_methodNamed B.named
  have hlk := B.notSynchronized
  have hl := lv_entry ([.ref a0, .int x1]) (n := 2) (Nat.le_of_ble_eq_true rfl)
  rw [lg_entry_eq]
  generalize (lg_sl ([.ref a0, .int x1]) ++ List.replicate (2 - (lg_sl ([.ref a0, .int x1])).length) Slot.unset).toArray = ls at hl ⊢
  have hl : lv_has ls 2 [(0, .ref a0), (1, .int x1)] := hl
  have hE : Ext S0 S0 := Ext.rf _
  have cx : Cx p s m _ meth c cX12_moons 2 RX12 (some .int) := ⟨hx, hb, hml, hown, hU, hr, hlk⟩
  rw [m_X12_moons] at hm
  refine lv_aload_n hx hb dX12_moons_0 rfl (lv_at hl 0 rfl) ?_
  refine lv_iconst (v := 0) hx hb dX12_moons_1 (by decide) ?_
  refine pp_i (k := 12) (j := 0) (f := 1200) hx hb hown hU iu12 tyX12_ok nmX12 hw Ta0 (by decide) rfl (hU _ tw1471) rfl rfl rfl dX12_moons_2 (fun H locs hw => ?_)
  refine lv_aload_n hx hb dX12_moons_5 rfl (lv_at hl 0 rfl) ?_
  refine lv_iload_n hx hb dX12_moons_6 rfl (lv_at hl 1 rfl) ?_
  obtain ⟨r3, S_1, hq2, hm⟩ := cb_some hm
  refine pw_cz (va_runS (As := [.int x1]) (rest := [.ref a0]) ⟨hx, hb, hml, hown, hU⟩ (c_X12_isDay l C X n (sI S0 1200 a0 0) hw.wf _ x1  r3 S_1 hq2) ⟨callB_of 1 hU (pq_g1 tc_X12_isDay) rfl rfl rfl (hU _ tw14) (hU _ tw2074) cd_X12_isDay.2 ⟨Nat.le_of_ble_eq_true rfl, Nat.le_of_ble_eq_true rfl⟩, hU _ tw2075⟩ (pw_preS hw) rfl rfl hl.1 rfl (lv_room (Nat.le_of_ble_eq_true rfl)) dX12_moons_7 ⟨Nat.zero_le _, Nat.zero_le _⟩) hw (fun H locs hw hx4 hz5 => ?_)
  have Ta0 : TY S_1 a0 12 := ty_ext hx4 Ta0
  have hE : Ext S0 S_1 := Ext.tr hE hx4
  refine lv_iconst (v := 1) hx hb dX12_moons_10 (by decide) ?_
  refine lv_iconst (v := 1) hx hb dX12_moons_11 (by decide) ?_
  obtain ⟨r8, S_6, hq7, hm⟩ := cb_some hm
  refine pw_cz (va_runV (As := [.int r3, .int 1, .int 1]) (rest := []) ⟨hx, hb, hml, hown, hU⟩ (c_X12_may l C X n S_1 hw.wf _ a0 r3 1 1 (Ta0) r8 S_6 hq7) (cwV 3 hU (pq_gV tw1703 tw1705 ts123 tw14 tc_X12_may) rfl rfl rfl cd_X12_may ⟨Nat.le_of_ble_eq_true rfl, Nat.le_of_ble_eq_true rfl⟩) (pw_preV hw Ta0 (by decide) rfl) rfl rfl hl.1 rfl (lv_room (Nat.le_of_ble_eq_true rfl)) dX12_moons_12 ⟨Nat.zero_le _, Nat.zero_le _⟩) hw (fun H locs hw hx9 hz10 => ?_)
  have Ta0 : TY S_6 a0 12 := ty_ext hx9 Ta0
  have hE : Ext S0 S_6 := Ext.tr hE hx9
  refine lv_if_ne (tgt := 20) hx hb dX12_moons_15 (by decide) (fun h11 => ?_) (fun h11 => ?_)
  · rw [if_neg h11] at hm
    refine lv_aload_n hx hb dX12_moons_20 rfl (lv_at hl 0 rfl) ?_
    refine lv_iload_n hx hb dX12_moons_21 rfl (lv_at hl 1 rfl) ?_
    obtain ⟨r14, S_12, hq13, hm⟩ := cb_some hm
    refine pw_ci (va_runV (As := [.int x1]) (rest := []) ⟨hx, hb, hml, hown, hU⟩ (c_X12_moonsOn l C X n S_6 hw.wf _ a0 x1 (Ta0) r14 S_12 hq13) (cwV 1 hU (pq_gV tw2077 tw2079 ts176 tw14 tc_X12_moonsOn) rfl rfl rfl cd_X12_moonsOn ⟨Nat.le_of_ble_eq_true rfl, Nat.le_of_ble_eq_true rfl⟩) (pw_preV hw Ta0 (by decide) rfl) rfl rfl hl.1 rfl (lv_room (Nat.le_of_ble_eq_true rfl)) dX12_moons_22 ⟨Nat.zero_le _, Nat.zero_le _⟩) hw (fun H locs hw hx15 => ?_)
    have Ta0 : TY S_12 a0 12 := ty_ext hx15 Ta0
    have hE : Ext S0 S_12 := Ext.tr hE hx15
    cases hm
    exact pw_iret hx hb hr rfl hlk hw hE dX12_moons_25
  · rw [if_pos h11] at hm
    refine lv_iconst (v := 0) hx hb dX12_moons_18 (by decide) ?_
    cases hm
    exact pw_iret hx hb hr rfl hlk hw hE dX12_moons_19
abbrev rm_X12_firstWith : Room := { frames := 1, cells := 0, slots := 0, locals := 23 }
def b_X12_firstWith_2 (n : Nat) : Nat → Nat → Int32 → Int32 → pq_S → Option (Int32 × pq_S)
  | 0, _, _, _, _ => none
  | f + 1, a0, x2, x3, S => if 9999 < x3 then some ((-1), S) else cb (m_X12_moonsOn n a0 x3 S) fun r4 S_2 => if r4 = x2 then some (x3, S_2) else b_X12_firstWith_2 n f a0 x2 (x3 + 1) S_2
set_option maxHeartbeats 4000000 in
set_option maxRecDepth 100000 in
theorem wb_X12_firstWith_2 {p : Program} {l : Launch} {e : Env} {s : State} {m : MethodId} {args : Array Value} {below : List Frame} {meth : Method} {c : Code} (cx : Cx p s m args meth c cX12_firstWith 4 RX12 (some .int)) (C : pq_C) (X : va_W) (S0 : pq_S) (n : Nat) (r : Int32) (S1 : pq_S) : ∀ (f : Nat) (a0 : Nat) (x2 : Int32) (x3 : Int32) (S : pq_S) (H : Heap) (locs : List Loc) (ls : Array Slot), PW C X S (pq_F C X S0 s.heap.size) H locs s → Ext S0 S → TY S a0 12 → lv_has ls 4 [(0, .ref a0), (2, .int x2), (3, .int x3)] → b_X12_firstWith_2 n f a0 x2 x3 S = some (r, S1) → W p l e rm_X12_firstWith s m args below meth c H locs 0 0 (MQ below (QcI C X S0 s.heap.size r S1) args s 0 0 (pq_F C X S0 s.heap.size)) (F0 m 2 ls []) := by
  obtain ⟨hx, hb, hml, hown, hU, hr, hlk⟩ := id cx
  intro f
  induction f with
  | zero =>
    intro a0 x2 x3 S H locs ls hw hE Ta0 hl hm
    cases hm
  | succ f ih =>
    intro a0 x2 x3 S H locs ls hw hE Ta0 hl hm
    rw [b_X12_firstWith_2] at hm
    refine lv_iload_n hx hb dX12_firstWith_2 rfl (lv_at hl 2 rfl) ?_
    refine lv_sipush (v := 9999) hx hb dX12_firstWith_3 (by decide) ?_
    refine lv_icmp_gt (tgt := 26) hx hb dX12_firstWith_6 (by decide) (fun h1 => ?_) (fun h1 => ?_)
    · rw [if_pos h1] at hm
      refine lv_iconst (v := (-1)) hx hb dX12_firstWith_26 (by decide) ?_
      cases hm
      exact pw_iret hx hb hr rfl hlk hw hE dX12_firstWith_27
    · rw [if_neg h1] at hm
      refine lv_aload_n hx hb dX12_firstWith_9 rfl (lv_at hl 0 rfl) ?_
      refine lv_iload_n hx hb dX12_firstWith_10 rfl (lv_at hl 2 rfl) ?_
      obtain ⟨r4, S_2, hq3, hm⟩ := cb_some hm
      refine pw_ci (va_runV (As := [.int x3]) (rest := []) ⟨hx, hb, hml, hown, hU⟩ (c_X12_moonsOn l C X n S hw.wf _ a0 x3 (Ta0) r4 S_2 hq3) (cwV 1 hU (pq_gV tw2077 tw2079 ts176 tw14 tc_X12_moonsOn) rfl rfl rfl cd_X12_moonsOn ⟨Nat.le_of_ble_eq_true rfl, Nat.le_of_ble_eq_true rfl⟩) (pw_preV hw Ta0 (by decide) rfl) rfl rfl hl.1 rfl (lv_room (Nat.le_of_ble_eq_true rfl)) dX12_firstWith_11 ⟨Nat.zero_le _, Nat.zero_le _⟩) hw (fun H locs hw hx5 => ?_)
      have Ta0 : TY S_2 a0 12 := ty_ext hx5 Ta0
      have hE : Ext S0 S_2 := Ext.tr hE hx5
      refine lv_iload_n hx hb dX12_firstWith_14 rfl (lv_at hl 1 rfl) ?_
      refine lv_icmp_ne (tgt := 20) hx hb dX12_firstWith_15 (by decide) (fun h6 => ?_) (fun h6 => ?_)
      · rw [if_neg h6] at hm
        refine lv_iinc (v := (x3 + 1)) (lv' := [(3, .int (x3 + 1)), (0, .ref a0), (2, .int x2)]) hx hb dX12_firstWith_20 hl (k := 2) rfl rfl (by decide) rfl (fun ls hl => ?_)
        refine lv_goto (tgt := 2) hx hb dX12_firstWith_23 (by decide) ?_
        exact ih a0 x2 (x3 + 1) S_2 _ _ _ hw hE Ta0 (lv_sub hl [1, 2, 0] rfl) hm
      · rw [if_pos h6] at hm
        refine lv_iload_n hx hb dX12_firstWith_18 rfl (lv_at hl 2 rfl) ?_
        cases hm
        exact pw_iret hx hb hr rfl hlk hw hE dX12_firstWith_19
def m_X12_firstWith (n : Nat) (a0 : Nat) (x1 : Int32) (x2 : Int32) (S0 : pq_S) : Option (Int32 × pq_S) := b_X12_firstWith_2 n n a0 x2 x1 S0
theorem tc_X12_firstWith : Cond.code yX12_firstWith cX12_firstWith 4 (some .int) ∈ pq_U := tw2088
theorem cd_X12_firstWith : yX12_firstWith.cls = RX12 ∧ yX12_firstWith.cls ≠ "java/lang/invoke/MethodHandle" ∧ yX12_firstWith.cls ≠ "java/lang/invoke/VarHandle" ∧ (parseMethodDescriptor yX12_firstWith.desc).map (fun d => d.parameters.length) = some 2 := by decide +kernel
set_option maxHeartbeats 4000000 in
set_option maxRecDepth 100000 in
theorem c_X12_firstWith (l : Launch) (C : pq_C) (X : va_W) (n : Nat) (S0 : pq_S) (hF : WF S0) (sz : Nat) (a0 : Nat) (x1 : Int32) (x2 : Int32) (Ta0 : TY S0 a0 12) (r : Int32) (S1 : pq_S) (hm : m_X12_firstWith n a0 x1 x2 S0 = some (r, S1)) : MI l yX12_firstWith (.code yX12_firstWith cX12_firstWith 4 (some .int) :: pq_U) rm_X12_firstWith C X S0 sz [.ref a0, .int x1, .int x2] r S1 0 0 := by
  refine Met.ofW (cc := cX12_firstWith) (maxL := 4) (ret := (some .int)) (by decide) rfl ?_
  intro p e s m args below meth c s₁ B hml hv
  obtain ⟨rfl, hv⟩ := hv
  have hsz := hv.1
  subst hsz
  have hw := pw_entry hF hv
  have hts := atoms_spec (ws := .code yX12_firstWith cX12_firstWith 4 (some .int) :: pq_U) B.pre
  have hU : ∀ w ∈ pq_U, w.before _ s = true := fun w h => hts w (List.mem_cons_of_mem _ h)
  have hx := B.exec
  have hb := B.bytes
  have hr := B.returns
  have hown : s.vm.findClass RX12 = some m.cls := findClass_of_methodNamed B.named
  have hlk := B.notSynchronized
  have hl := lv_entry ([.ref a0, .int x1, .int x2]) (n := 4) (Nat.le_of_ble_eq_true rfl)
  rw [lg_entry_eq]
  generalize (lg_sl ([.ref a0, .int x1, .int x2]) ++ List.replicate (4 - (lg_sl ([.ref a0, .int x1, .int x2])).length) Slot.unset).toArray = ls at hl ⊢
  have hl : lv_has ls 4 [(0, .ref a0), (1, .int x1), (2, .int x2)] := hl
  have hE : Ext S0 S0 := Ext.rf _
  have cx : Cx p s m _ meth c cX12_firstWith 4 RX12 (some .int) := ⟨hx, hb, hml, hown, hU, hr, hlk⟩
  rw [m_X12_firstWith] at hm
  refine lv_iload_n hx hb dX12_firstWith_0 rfl (lv_at hl 1 rfl) ?_
  refine lv_istore_n (lv' := [(3, .int x1), (0, .ref a0), (1, .int x1), (2, .int x2)]) hx hb dX12_firstWith_1 rfl hl (by decide) rfl (fun ls hl => ?_)
  exact wb_X12_firstWith_2 cx C X S0 n r S1 n a0 x2 x1 S0 _ _ _ hw hE Ta0 (lv_sub hl [1, 3, 0] rfl) hm
abbrev rm_X12_dark : Room := { frames := 2, cells := 0, slots := 0, locals := 46 }
def m_X12_dark (n : Nat) (a0 : Nat) (x1 : Int32) (S0 : pq_S) : Option (Int32 × pq_S) := cb (m_X12_isDay n x1 (sI S0 1200 a0 0)) fun r3 S_1 => cb (m_X12_may n a0 r3 1 1 S_1) fun r8 S_6 => if r8 = 0 then some (0, S_6) else cb (m_X12_firstWith n a0 x1 0 S_6) fun r14 S_12 => some (r14, S_12)
theorem tc_X12_dark : Cond.code yX12_dark cX12_dark 2 (some .int) ∈ pq_U := tw2084
theorem cd_X12_dark : yX12_dark.cls = RX12 ∧ yX12_dark.cls ≠ "java/lang/invoke/MethodHandle" ∧ yX12_dark.cls ≠ "java/lang/invoke/VarHandle" ∧ (parseMethodDescriptor yX12_dark.desc).map (fun d => d.parameters.length) = some 1 := by decide +kernel
set_option maxHeartbeats 4000000 in
set_option maxRecDepth 100000 in
theorem c_X12_dark (l : Launch) (C : pq_C) (X : va_W) (n : Nat) (S0 : pq_S) (hF : WF S0) (sz : Nat) (a0 : Nat) (x1 : Int32) (Ta0 : TY S0 a0 12) (r : Int32) (S1 : pq_S) (hm : m_X12_dark n a0 x1 S0 = some (r, S1)) : MI l yX12_dark (.code yX12_dark cX12_dark 2 (some .int) :: pq_U) rm_X12_dark C X S0 sz [.ref a0, .int x1] r S1 0 0 := by
  refine Met.ofW (cc := cX12_dark) (maxL := 2) (ret := (some .int)) (by decide) rfl ?_
  intro p e s m args below meth c s₁ B hml hv
  obtain ⟨rfl, hv⟩ := hv
  have hsz := hv.1
  subst hsz
  have hw := pw_entry hF hv
  have hts := atoms_spec (ws := .code yX12_dark cX12_dark 2 (some .int) :: pq_U) B.pre
  have hU : ∀ w ∈ pq_U, w.before _ s = true := fun w h => hts w (List.mem_cons_of_mem _ h)
  have hx := B.exec
  have hb := B.bytes
  have hr := B.returns
  have hown : s.vm.findClass RX12 = some m.cls := findClass_of_methodNamed B.named
  have hlk := B.notSynchronized
  have hl := lv_entry ([.ref a0, .int x1]) (n := 2) (Nat.le_of_ble_eq_true rfl)
  rw [lg_entry_eq]
  generalize (lg_sl ([.ref a0, .int x1]) ++ List.replicate (2 - (lg_sl ([.ref a0, .int x1])).length) Slot.unset).toArray = ls at hl ⊢
  have hl : lv_has ls 2 [(0, .ref a0), (1, .int x1)] := hl
  have hE : Ext S0 S0 := Ext.rf _
  have cx : Cx p s m _ meth c cX12_dark 2 RX12 (some .int) := ⟨hx, hb, hml, hown, hU, hr, hlk⟩
  rw [m_X12_dark] at hm
  refine lv_aload_n hx hb dX12_dark_0 rfl (lv_at hl 0 rfl) ?_
  refine lv_iconst (v := 0) hx hb dX12_dark_1 (by decide) ?_
  refine pp_i (k := 12) (j := 0) (f := 1200) hx hb hown hU iu12 tyX12_ok nmX12 hw Ta0 (by decide) rfl (hU _ tw1471) rfl rfl rfl dX12_dark_2 (fun H locs hw => ?_)
  refine lv_aload_n hx hb dX12_dark_5 rfl (lv_at hl 0 rfl) ?_
  refine lv_iload_n hx hb dX12_dark_6 rfl (lv_at hl 1 rfl) ?_
  obtain ⟨r3, S_1, hq2, hm⟩ := cb_some hm
  refine pw_cz (va_runS (As := [.int x1]) (rest := [.ref a0]) ⟨hx, hb, hml, hown, hU⟩ (c_X12_isDay l C X n (sI S0 1200 a0 0) hw.wf _ x1  r3 S_1 hq2) ⟨callB_of 1 hU (pq_g1 tc_X12_isDay) rfl rfl rfl (hU _ tw14) (hU _ tw2074) cd_X12_isDay.2 ⟨Nat.le_of_ble_eq_true rfl, Nat.le_of_ble_eq_true rfl⟩, hU _ tw2075⟩ (pw_preS hw) rfl rfl hl.1 rfl (lv_room (Nat.le_of_ble_eq_true rfl)) dX12_dark_7 ⟨Nat.zero_le _, Nat.zero_le _⟩) hw (fun H locs hw hx4 hz5 => ?_)
  have Ta0 : TY S_1 a0 12 := ty_ext hx4 Ta0
  have hE : Ext S0 S_1 := Ext.tr hE hx4
  refine lv_iconst (v := 1) hx hb dX12_dark_10 (by decide) ?_
  refine lv_iconst (v := 1) hx hb dX12_dark_11 (by decide) ?_
  obtain ⟨r8, S_6, hq7, hm⟩ := cb_some hm
  refine pw_cz (va_runV (As := [.int r3, .int 1, .int 1]) (rest := []) ⟨hx, hb, hml, hown, hU⟩ (c_X12_may l C X n S_1 hw.wf _ a0 r3 1 1 (Ta0) r8 S_6 hq7) (cwV 3 hU (pq_gV tw1703 tw1705 ts123 tw14 tc_X12_may) rfl rfl rfl cd_X12_may ⟨Nat.le_of_ble_eq_true rfl, Nat.le_of_ble_eq_true rfl⟩) (pw_preV hw Ta0 (by decide) rfl) rfl rfl hl.1 rfl (lv_room (Nat.le_of_ble_eq_true rfl)) dX12_dark_12 ⟨Nat.zero_le _, Nat.zero_le _⟩) hw (fun H locs hw hx9 hz10 => ?_)
  have Ta0 : TY S_6 a0 12 := ty_ext hx9 Ta0
  have hE : Ext S0 S_6 := Ext.tr hE hx9
  refine lv_if_ne (tgt := 20) hx hb dX12_dark_15 (by decide) (fun h11 => ?_) (fun h11 => ?_)
  · rw [if_neg h11] at hm
    refine lv_aload_n hx hb dX12_dark_20 rfl (lv_at hl 0 rfl) ?_
    refine lv_iload_n hx hb dX12_dark_21 rfl (lv_at hl 1 rfl) ?_
    refine lv_iconst (v := 0) hx hb dX12_dark_22 (by decide) ?_
    obtain ⟨r14, S_12, hq13, hm⟩ := cb_some hm
    refine pw_ci (va_runV (As := [.int x1, .int 0]) (rest := []) ⟨hx, hb, hml, hown, hU⟩ (c_X12_firstWith l C X n S_6 hw.wf _ a0 x1 0 (Ta0) r14 S_12 hq13) (cwV 2 hU (pq_gV tw2085 tw2087 ts177 tw14 tc_X12_firstWith) rfl rfl rfl cd_X12_firstWith ⟨Nat.le_of_ble_eq_true rfl, Nat.le_of_ble_eq_true rfl⟩) (pw_preV hw Ta0 (by decide) rfl) rfl rfl hl.1 rfl (lv_room (Nat.le_of_ble_eq_true rfl)) dX12_dark_23 ⟨Nat.zero_le _, Nat.zero_le _⟩) hw (fun H locs hw hx15 => ?_)
    have Ta0 : TY S_12 a0 12 := ty_ext hx15 Ta0
    have hE : Ext S0 S_12 := Ext.tr hE hx15
    cases hm
    exact pw_iret hx hb hr rfl hlk hw hE dX12_dark_26
  · rw [if_pos h11] at hm
    refine lv_iconst (v := 0) hx hb dX12_dark_18 (by decide) ?_
    cases hm
    exact pw_iret hx hb hr rfl hlk hw hE dX12_dark_19
abbrev rm_X12_bright : Room := { frames := 2, cells := 0, slots := 0, locals := 46 }
def m_X12_bright (n : Nat) (a0 : Nat) (x1 : Int32) (S0 : pq_S) : Option (Int32 × pq_S) := cb (m_X12_isDay n x1 (sI S0 1200 a0 0)) fun r3 S_1 => cb (m_X12_may n a0 r3 1 1 S_1) fun r8 S_6 => if r8 = 0 then some (0, S_6) else cb (m_X12_firstWith n a0 x1 (((1 : Int32) <<< ((pI S_6 1227 a0) &&& (31 : Int32))) - (1 : Int32)) S_6) fun r14 S_12 => some (r14, S_12)
theorem tc_X12_bright : Cond.code yX12_bright cX12_bright 2 (some .int) ∈ pq_U := tw2092
theorem cd_X12_bright : yX12_bright.cls = RX12 ∧ yX12_bright.cls ≠ "java/lang/invoke/MethodHandle" ∧ yX12_bright.cls ≠ "java/lang/invoke/VarHandle" ∧ (parseMethodDescriptor yX12_bright.desc).map (fun d => d.parameters.length) = some 1 := by decide +kernel
set_option maxHeartbeats 4000000 in
set_option maxRecDepth 100000 in
theorem c_X12_bright (l : Launch) (C : pq_C) (X : va_W) (n : Nat) (S0 : pq_S) (hF : WF S0) (sz : Nat) (a0 : Nat) (x1 : Int32) (Ta0 : TY S0 a0 12) (r : Int32) (S1 : pq_S) (hm : m_X12_bright n a0 x1 S0 = some (r, S1)) : MI l yX12_bright (.code yX12_bright cX12_bright 2 (some .int) :: pq_U) rm_X12_bright C X S0 sz [.ref a0, .int x1] r S1 0 0 := by
  refine Met.ofW (cc := cX12_bright) (maxL := 2) (ret := (some .int)) (by decide) rfl ?_
  intro p e s m args below meth c s₁ B hml hv
  obtain ⟨rfl, hv⟩ := hv
  have hsz := hv.1
  subst hsz
  have hw := pw_entry hF hv
  have hts := atoms_spec (ws := .code yX12_bright cX12_bright 2 (some .int) :: pq_U) B.pre
  have hU : ∀ w ∈ pq_U, w.before _ s = true := fun w h => hts w (List.mem_cons_of_mem _ h)
  have hx := B.exec
  have hb := B.bytes
  have hr := B.returns
  have hown : s.vm.findClass RX12 = some m.cls := findClass_of_methodNamed B.named
  have hlk := B.notSynchronized
  have hl := lv_entry ([.ref a0, .int x1]) (n := 2) (Nat.le_of_ble_eq_true rfl)
  rw [lg_entry_eq]
  generalize (lg_sl ([.ref a0, .int x1]) ++ List.replicate (2 - (lg_sl ([.ref a0, .int x1])).length) Slot.unset).toArray = ls at hl ⊢
  have hl : lv_has ls 2 [(0, .ref a0), (1, .int x1)] := hl
  have hE : Ext S0 S0 := Ext.rf _
  have cx : Cx p s m _ meth c cX12_bright 2 RX12 (some .int) := ⟨hx, hb, hml, hown, hU, hr, hlk⟩
  rw [m_X12_bright] at hm
  refine lv_aload_n hx hb dX12_bright_0 rfl (lv_at hl 0 rfl) ?_
  refine lv_iconst (v := 0) hx hb dX12_bright_1 (by decide) ?_
  refine pp_i (k := 12) (j := 0) (f := 1200) hx hb hown hU iu12 tyX12_ok nmX12 hw Ta0 (by decide) rfl (hU _ tw1471) rfl rfl rfl dX12_bright_2 (fun H locs hw => ?_)
  refine lv_aload_n hx hb dX12_bright_5 rfl (lv_at hl 0 rfl) ?_
  refine lv_iload_n hx hb dX12_bright_6 rfl (lv_at hl 1 rfl) ?_
  obtain ⟨r3, S_1, hq2, hm⟩ := cb_some hm
  refine pw_cz (va_runS (As := [.int x1]) (rest := [.ref a0]) ⟨hx, hb, hml, hown, hU⟩ (c_X12_isDay l C X n (sI S0 1200 a0 0) hw.wf _ x1  r3 S_1 hq2) ⟨callB_of 1 hU (pq_g1 tc_X12_isDay) rfl rfl rfl (hU _ tw14) (hU _ tw2074) cd_X12_isDay.2 ⟨Nat.le_of_ble_eq_true rfl, Nat.le_of_ble_eq_true rfl⟩, hU _ tw2075⟩ (pw_preS hw) rfl rfl hl.1 rfl (lv_room (Nat.le_of_ble_eq_true rfl)) dX12_bright_7 ⟨Nat.zero_le _, Nat.zero_le _⟩) hw (fun H locs hw hx4 hz5 => ?_)
  have Ta0 : TY S_1 a0 12 := ty_ext hx4 Ta0
  have hE : Ext S0 S_1 := Ext.tr hE hx4
  refine lv_iconst (v := 1) hx hb dX12_bright_10 (by decide) ?_
  refine lv_iconst (v := 1) hx hb dX12_bright_11 (by decide) ?_
  obtain ⟨r8, S_6, hq7, hm⟩ := cb_some hm
  refine pw_cz (va_runV (As := [.int r3, .int 1, .int 1]) (rest := []) ⟨hx, hb, hml, hown, hU⟩ (c_X12_may l C X n S_1 hw.wf _ a0 r3 1 1 (Ta0) r8 S_6 hq7) (cwV 3 hU (pq_gV tw1703 tw1705 ts123 tw14 tc_X12_may) rfl rfl rfl cd_X12_may ⟨Nat.le_of_ble_eq_true rfl, Nat.le_of_ble_eq_true rfl⟩) (pw_preV hw Ta0 (by decide) rfl) rfl rfl hl.1 rfl (lv_room (Nat.le_of_ble_eq_true rfl)) dX12_bright_12 ⟨Nat.zero_le _, Nat.zero_le _⟩) hw (fun H locs hw hx9 hz10 => ?_)
  have Ta0 : TY S_6 a0 12 := ty_ext hx9 Ta0
  have hE : Ext S0 S_6 := Ext.tr hE hx9
  refine lv_if_ne (tgt := 20) hx hb dX12_bright_15 (by decide) (fun h11 => ?_) (fun h11 => ?_)
  · rw [if_neg h11] at hm
    refine lv_aload_n hx hb dX12_bright_20 rfl (lv_at hl 0 rfl) ?_
    refine lv_iload_n hx hb dX12_bright_21 rfl (lv_at hl 1 rfl) ?_
    refine lv_iconst (v := 1) hx hb dX12_bright_22 (by decide) ?_
    refine lv_aload_n hx hb dX12_bright_23 rfl (lv_at hl 0 rfl) ?_
    refine pg_i (k := 12) (j := 27) (f := 1227) hx hb hown hU iu12 hw Ta0 (by decide) rfl (hU _ tw1498) rfl dX12_bright_24 ?_
    refine lv_ishl hx hb dX12_bright_27 ?_
    refine lv_iconst (v := 1) hx hb dX12_bright_28 (by decide) ?_
    refine lv_isub hx hb dX12_bright_29 ?_
    obtain ⟨r14, S_12, hq13, hm⟩ := cb_some hm
    refine pw_ci (va_runV (As := [.int x1, .int (((1 : Int32) <<< ((pI S_6 1227 a0) &&& (31 : Int32))) - (1 : Int32))]) (rest := []) ⟨hx, hb, hml, hown, hU⟩ (c_X12_firstWith l C X n S_6 hw.wf _ a0 x1 (((1 : Int32) <<< ((pI S_6 1227 a0) &&& (31 : Int32))) - (1 : Int32)) (Ta0) r14 S_12 hq13) (cwV 2 hU (pq_gV tw2085 tw2087 ts177 tw14 tc_X12_firstWith) rfl rfl rfl cd_X12_firstWith ⟨Nat.le_of_ble_eq_true rfl, Nat.le_of_ble_eq_true rfl⟩) (pw_preV hw Ta0 (by decide) rfl) rfl rfl hl.1 rfl (lv_room (Nat.le_of_ble_eq_true rfl)) dX12_bright_30 ⟨Nat.zero_le _, Nat.zero_le _⟩) hw (fun H locs hw hx15 => ?_)
    have Ta0 : TY S_12 a0 12 := ty_ext hx15 Ta0
    have hE : Ext S0 S_12 := Ext.tr hE hx15
    cases hm
    exact pw_iret hx hb hr rfl hlk hw hE dX12_bright_33
  · rw [if_pos h11] at hm
    refine lv_iconst (v := 0) hx hb dX12_bright_18 (by decide) ?_
    cases hm
    exact pw_iret hx hb hr rfl hlk hw hE dX12_bright_19
abbrev rm_X12_darks : Room := { frames := 1, cells := 0, slots := 0, locals := 23 }
def b_X12_darks_66 (n : Nat) (k26 : Nat → Int32 → Int32 → Int32 → pq_S → Option (Int32 × pq_S)) (a0 : Nat) (x2 : Int32) (x4 : Int32) (z0 : Int32) (z1 : Int32) (S : pq_S) : Option (Int32 × pq_S) := k26 a0 x2 (z0 + z1) (x4 + 1) S
set_option maxHeartbeats 4000000 in
set_option maxRecDepth 100000 in
theorem wb_X12_darks_66 {p : Program} {l : Launch} {e : Env} {s : State} {m : MethodId} {args : Array Value} {below : List Frame} {meth : Method} {c : Code} (cx : Cx p s m args meth c cX12_darks 5 RX12 (some .int)) (C : pq_C) (X : va_W) (S0 : pq_S) (n : Nat) (r : Int32) (S1 : pq_S) (k26 : Nat → Int32 → Int32 → Int32 → pq_S → Option (Int32 × pq_S)) (hk26 : ∀ (a0 : Nat) (x2 : Int32) (x3 : Int32) (x4 : Int32) (S : pq_S) (H : Heap) (locs : List Loc) (ls : Array Slot), PW C X S (pq_F C X S0 s.heap.size) H locs s → Ext S0 S → TY S a0 12 → lv_has ls 5 [(0, .ref a0), (2, .int x2), (3, .int x3), (4, .int x4)] → k26 a0 x2 x3 x4 S = some (r, S1) → W p l e rm_X12_darks s m args below meth c H locs 0 0 (MQ below (QcI C X S0 s.heap.size r S1) args s 0 0 (pq_F C X S0 s.heap.size)) (F0 m 45 ls [])) : ∀ (a0 : Nat) (x2 : Int32) (x4 : Int32) (z0 : Int32) (z1 : Int32) (S : pq_S) (H : Heap) (locs : List Loc) (ls : Array Slot), PW C X S (pq_F C X S0 s.heap.size) H locs s → Ext S0 S → TY S a0 12 → lv_has ls 5 [(0, .ref a0), (2, .int x2), (4, .int x4)] → b_X12_darks_66 n k26 a0 x2 x4 z0 z1 S = some (r, S1) → W p l e rm_X12_darks s m args below meth c H locs 0 0 (MQ below (QcI C X S0 s.heap.size r S1) args s 0 0 (pq_F C X S0 s.heap.size)) (F0 m 66 ls [.int z1, .int z0]) := by
  obtain ⟨hx, hb, hml, hown, hU, hr, hlk⟩ := id cx
  intro a0 x2 x4 z0 z1 S H locs ls hw hE Ta0 hl hm
  rw [b_X12_darks_66] at hm
  refine lv_iadd hx hb dX12_darks_66 ?_
  refine lv_istore_n (lv' := [(3, .int (z0 + z1)), (0, .ref a0), (2, .int x2), (4, .int x4)]) hx hb dX12_darks_67 rfl hl (by decide) rfl (fun ls hl => ?_)
  refine lv_iinc (v := (x4 + 1)) (lv' := [(4, .int (x4 + 1)), (3, .int (z0 + z1)), (0, .ref a0), (2, .int x2)]) hx hb dX12_darks_68 hl (k := 3) rfl rfl (by decide) rfl (fun ls hl => ?_)
  refine lv_goto (tgt := 45) hx hb dX12_darks_71 (by decide) ?_
  exact hk26 a0 x2 (z0 + z1) (x4 + 1) S _ _ _ hw hE Ta0 (lv_sub hl [2, 3, 1, 0] rfl) hm
def b_X12_darks_45 (n : Nat) : Nat → Nat → Int32 → Int32 → Int32 → pq_S → Option (Int32 × pq_S)
  | 0, _, _, _, _, _ => none
  | f + 1, a0, x2, x3, x4, S => if x2 < x4 then some (x3, S) else cb (m_X12_moonsOn n a0 x4 S) fun r23 S_21 => if r23 = 0 then b_X12_darks_66 n (b_X12_darks_45 n f) a0 x2 x4 x3 1 S_21 else b_X12_darks_66 n (b_X12_darks_45 n f) a0 x2 x4 x3 0 S_21
set_option maxHeartbeats 4000000 in
set_option maxRecDepth 100000 in
theorem wb_X12_darks_45 {p : Program} {l : Launch} {e : Env} {s : State} {m : MethodId} {args : Array Value} {below : List Frame} {meth : Method} {c : Code} (cx : Cx p s m args meth c cX12_darks 5 RX12 (some .int)) (C : pq_C) (X : va_W) (S0 : pq_S) (n : Nat) (r : Int32) (S1 : pq_S) : ∀ (f : Nat) (a0 : Nat) (x2 : Int32) (x3 : Int32) (x4 : Int32) (S : pq_S) (H : Heap) (locs : List Loc) (ls : Array Slot), PW C X S (pq_F C X S0 s.heap.size) H locs s → Ext S0 S → TY S a0 12 → lv_has ls 5 [(0, .ref a0), (2, .int x2), (3, .int x3), (4, .int x4)] → b_X12_darks_45 n f a0 x2 x3 x4 S = some (r, S1) → W p l e rm_X12_darks s m args below meth c H locs 0 0 (MQ below (QcI C X S0 s.heap.size r S1) args s 0 0 (pq_F C X S0 s.heap.size)) (F0 m 45 ls []) := by
  obtain ⟨hx, hb, hml, hown, hU, hr, hlk⟩ := id cx
  intro f
  induction f with
  | zero =>
    intro a0 x2 x3 x4 S H locs ls hw hE Ta0 hl hm
    cases hm
  | succ f ih =>
    intro a0 x2 x3 x4 S H locs ls hw hE Ta0 hl hm
    rw [b_X12_darks_45] at hm
    refine lv_iload hx hb dX12_darks_45 (lv_at hl 3 rfl) ?_
    refine lv_iload_n hx hb dX12_darks_47 rfl (lv_at hl 1 rfl) ?_
    refine lv_icmp_gt (tgt := 74) hx hb dX12_darks_48 (by decide) (fun h20 => ?_) (fun h20 => ?_)
    · rw [if_pos h20] at hm
      refine lv_iload_n hx hb dX12_darks_74 rfl (lv_at hl 2 rfl) ?_
      cases hm
      exact pw_iret hx hb hr rfl hlk hw hE dX12_darks_75
    · rw [if_neg h20] at hm
      refine lv_iload_n hx hb dX12_darks_51 rfl (lv_at hl 2 rfl) ?_
      refine lv_aload_n hx hb dX12_darks_52 rfl (lv_at hl 0 rfl) ?_
      refine lv_iload hx hb dX12_darks_53 (lv_at hl 3 rfl) ?_
      obtain ⟨r23, S_21, hq22, hm⟩ := cb_some hm
      refine pw_ci (va_runV (As := [.int x4]) (rest := [.int x3]) ⟨hx, hb, hml, hown, hU⟩ (c_X12_moonsOn l C X n S hw.wf _ a0 x4 (Ta0) r23 S_21 hq22) (cwV 1 hU (pq_gV tw2077 tw2079 ts176 tw14 tc_X12_moonsOn) rfl rfl rfl cd_X12_moonsOn ⟨Nat.le_of_ble_eq_true rfl, Nat.le_of_ble_eq_true rfl⟩) (pw_preV hw Ta0 (by decide) rfl) rfl rfl hl.1 rfl (lv_room (Nat.le_of_ble_eq_true rfl)) dX12_darks_55 ⟨Nat.zero_le _, Nat.zero_le _⟩) hw (fun H locs hw hx24 => ?_)
      have Ta0 : TY S_21 a0 12 := ty_ext hx24 Ta0
      have hE : Ext S0 S_21 := Ext.tr hE hx24
      refine lv_if_ne (tgt := 65) hx hb dX12_darks_58 (by decide) (fun h25 => ?_) (fun h25 => ?_)
      · rw [if_neg h25] at hm
        refine lv_iconst (v := 0) hx hb dX12_darks_65 (by decide) ?_
        exact wb_X12_darks_66 cx C X S0 n r S1 _ ih a0 x2 x4 x3 0 S_21 _ _ _ hw hE Ta0 (lv_sub hl [0, 1, 3] rfl) hm
      · rw [if_pos h25] at hm
        refine lv_iconst (v := 1) hx hb dX12_darks_61 (by decide) ?_
        refine lv_goto (tgt := 66) hx hb dX12_darks_62 (by decide) ?_
        exact wb_X12_darks_66 cx C X S0 n r S1 _ ih a0 x2 x4 x3 1 S_21 _ _ _ hw hE Ta0 (lv_sub hl [0, 1, 3] rfl) hm
def b_X12_darks_30 (n : Nat) (a0 : Nat) (x1 : Int32) (x2 : Int32) (b0 : Nat) (z1 : Int32) (S : pq_S) : Option (Int32 × pq_S) := cb (m_X12_may n b0 z1 1 1 S) fun r16 S_14 => if r16 = 0 then some (0, S_14) else b_X12_darks_45 n n a0 x2 0 x1 S_14
set_option maxHeartbeats 4000000 in
set_option maxRecDepth 100000 in
theorem wb_X12_darks_30 {p : Program} {l : Launch} {e : Env} {s : State} {m : MethodId} {args : Array Value} {below : List Frame} {meth : Method} {c : Code} (cx : Cx p s m args meth c cX12_darks 5 RX12 (some .int)) (C : pq_C) (X : va_W) (S0 : pq_S) (n : Nat) (r : Int32) (S1 : pq_S) : ∀ (a0 : Nat) (x1 : Int32) (x2 : Int32) (b0 : Nat) (z1 : Int32) (S : pq_S) (H : Heap) (locs : List Loc) (ls : Array Slot), PW C X S (pq_F C X S0 s.heap.size) H locs s → Ext S0 S → TY S a0 12 → TY S b0 12 → lv_has ls 5 [(0, .ref a0), (1, .int x1), (2, .int x2)] → b_X12_darks_30 n a0 x1 x2 b0 z1 S = some (r, S1) → W p l e rm_X12_darks s m args below meth c H locs 0 0 (MQ below (QcI C X S0 s.heap.size r S1) args s 0 0 (pq_F C X S0 s.heap.size)) (F0 m 30 ls [.int z1, .ref b0]) := by
  obtain ⟨hx, hb, hml, hown, hU, hr, hlk⟩ := id cx
  intro a0 x1 x2 b0 z1 S H locs ls hw hE Ta0 Tb0 hl hm
  rw [b_X12_darks_30] at hm
  refine lv_iconst (v := 1) hx hb dX12_darks_30 (by decide) ?_
  refine lv_iconst (v := 1) hx hb dX12_darks_31 (by decide) ?_
  obtain ⟨r16, S_14, hq15, hm⟩ := cb_some hm
  refine pw_cz (va_runV (As := [.int z1, .int 1, .int 1]) (rest := []) ⟨hx, hb, hml, hown, hU⟩ (c_X12_may l C X n S hw.wf _ b0 z1 1 1 (Tb0) r16 S_14 hq15) (cwV 3 hU (pq_gV tw1703 tw1705 ts123 tw14 tc_X12_may) rfl rfl rfl cd_X12_may ⟨Nat.le_of_ble_eq_true rfl, Nat.le_of_ble_eq_true rfl⟩) (pw_preV hw Tb0 (by decide) rfl) rfl rfl hl.1 rfl (lv_room (Nat.le_of_ble_eq_true rfl)) dX12_darks_32 ⟨Nat.zero_le _, Nat.zero_le _⟩) hw (fun H locs hw hx17 hz18 => ?_)
  have Ta0 : TY S_14 a0 12 := ty_ext hx17 Ta0
  have hE : Ext S0 S_14 := Ext.tr hE hx17
  refine lv_if_ne (tgt := 40) hx hb dX12_darks_35 (by decide) (fun h19 => ?_) (fun h19 => ?_)
  · rw [if_neg h19] at hm
    refine lv_iconst (v := 0) hx hb dX12_darks_40 (by decide) ?_
    refine lv_istore_n (lv' := [(3, .int 0), (0, .ref a0), (1, .int x1), (2, .int x2)]) hx hb dX12_darks_41 rfl hl (by decide) rfl (fun ls hl => ?_)
    refine lv_iload_n hx hb dX12_darks_42 rfl (lv_at hl 2 rfl) ?_
    refine lv_istore (lv' := [(4, .int x1), (3, .int 0), (0, .ref a0), (1, .int x1), (2, .int x2)]) hx hb dX12_darks_43 hl (by decide) rfl (fun ls hl => ?_)
    exact wb_X12_darks_45 cx C X S0 n r S1 n a0 x2 0 x1 S_14 _ _ _ hw hE Ta0 (lv_sub hl [2, 4, 1, 0] rfl) hm
  · rw [if_pos h19] at hm
    refine lv_iconst (v := 0) hx hb dX12_darks_38 (by decide) ?_
    cases hm
    exact pw_iret hx hb hr rfl hlk hw hE dX12_darks_39
def b_X12_darks_29 (n : Nat) (a0 : Nat) (x1 : Int32) (x2 : Int32) (b0 : Nat) (S : pq_S) : Option (Int32 × pq_S) := b_X12_darks_30 n a0 x1 x2 b0 0 S
set_option maxHeartbeats 4000000 in
set_option maxRecDepth 100000 in
theorem wb_X12_darks_29 {p : Program} {l : Launch} {e : Env} {s : State} {m : MethodId} {args : Array Value} {below : List Frame} {meth : Method} {c : Code} (cx : Cx p s m args meth c cX12_darks 5 RX12 (some .int)) (C : pq_C) (X : va_W) (S0 : pq_S) (n : Nat) (r : Int32) (S1 : pq_S) : ∀ (a0 : Nat) (x1 : Int32) (x2 : Int32) (b0 : Nat) (S : pq_S) (H : Heap) (locs : List Loc) (ls : Array Slot), PW C X S (pq_F C X S0 s.heap.size) H locs s → Ext S0 S → TY S a0 12 → TY S b0 12 → lv_has ls 5 [(0, .ref a0), (1, .int x1), (2, .int x2)] → b_X12_darks_29 n a0 x1 x2 b0 S = some (r, S1) → W p l e rm_X12_darks s m args below meth c H locs 0 0 (MQ below (QcI C X S0 s.heap.size r S1) args s 0 0 (pq_F C X S0 s.heap.size)) (F0 m 29 ls [.ref b0]) := by
  obtain ⟨hx, hb, hml, hown, hU, hr, hlk⟩ := id cx
  intro a0 x1 x2 b0 S H locs ls hw hE Ta0 Tb0 hl hm
  rw [b_X12_darks_29] at hm
  refine lv_iconst (v := 0) hx hb dX12_darks_29 (by decide) ?_
  exact wb_X12_darks_30 cx C X S0 n r S1 a0 x1 x2 b0 0 S _ _ _ hw hE Ta0 Tb0 (lv_sub hl [0, 1, 2] rfl) hm
def m_X12_darks (n : Nat) (a0 : Nat) (x1 : Int32) (x2 : Int32) (S0 : pq_S) : Option (Int32 × pq_S) := cb (m_X12_isDay n x1 (sI S0 1200 a0 0)) fun r3 S_1 => if r3 = 0 then b_X12_darks_29 n a0 x1 x2 a0 S_1 else cb (m_X12_isDay n x2 S_1) fun r9 S_7 => if r9 = 0 then b_X12_darks_29 n a0 x1 x2 a0 S_7 else if x2 < x1 then b_X12_darks_29 n a0 x1 x2 a0 S_7 else b_X12_darks_30 n a0 x1 x2 a0 1 S_7
theorem tc_X12_darks : Cond.code yX12_darks cX12_darks 5 (some .int) ∈ pq_U := tw2096
theorem cd_X12_darks : yX12_darks.cls = RX12 ∧ yX12_darks.cls ≠ "java/lang/invoke/MethodHandle" ∧ yX12_darks.cls ≠ "java/lang/invoke/VarHandle" ∧ (parseMethodDescriptor yX12_darks.desc).map (fun d => d.parameters.length) = some 2 := by decide +kernel
set_option maxHeartbeats 4000000 in
set_option maxRecDepth 100000 in
theorem c_X12_darks (l : Launch) (C : pq_C) (X : va_W) (n : Nat) (S0 : pq_S) (hF : WF S0) (sz : Nat) (a0 : Nat) (x1 : Int32) (x2 : Int32) (Ta0 : TY S0 a0 12) (r : Int32) (S1 : pq_S) (hm : m_X12_darks n a0 x1 x2 S0 = some (r, S1)) : MI l yX12_darks (.code yX12_darks cX12_darks 5 (some .int) :: pq_U) rm_X12_darks C X S0 sz [.ref a0, .int x1, .int x2] r S1 0 0 := by
  refine Met.ofW (cc := cX12_darks) (maxL := 5) (ret := (some .int)) (by decide) rfl ?_
  intro p e s m args below meth c s₁ B hml hv
  obtain ⟨rfl, hv⟩ := hv
  have hsz := hv.1
  subst hsz
  have hw := pw_entry hF hv
  have hts := atoms_spec (ws := .code yX12_darks cX12_darks 5 (some .int) :: pq_U) B.pre
  have hU : ∀ w ∈ pq_U, w.before _ s = true := fun w h => hts w (List.mem_cons_of_mem _ h)
  have hx := B.exec
  have hb := B.bytes
  have hr := B.returns
  have hown : s.vm.findClass RX12 = some m.cls := findClass_of_methodNamed B.named
  have hlk := B.notSynchronized
  have hl := lv_entry ([.ref a0, .int x1, .int x2]) (n := 5) (Nat.le_of_ble_eq_true rfl)
  rw [lg_entry_eq]
  generalize (lg_sl ([.ref a0, .int x1, .int x2]) ++ List.replicate (5 - (lg_sl ([.ref a0, .int x1, .int x2])).length) Slot.unset).toArray = ls at hl ⊢
  have hl : lv_has ls 5 [(0, .ref a0), (1, .int x1), (2, .int x2)] := hl
  have hE : Ext S0 S0 := Ext.rf _
  have cx : Cx p s m _ meth c cX12_darks 5 RX12 (some .int) := ⟨hx, hb, hml, hown, hU, hr, hlk⟩
  rw [m_X12_darks] at hm
  refine lv_aload_n hx hb dX12_darks_0 rfl (lv_at hl 0 rfl) ?_
  refine lv_iconst (v := 0) hx hb dX12_darks_1 (by decide) ?_
  refine pp_i (k := 12) (j := 0) (f := 1200) hx hb hown hU iu12 tyX12_ok nmX12 hw Ta0 (by decide) rfl (hU _ tw1471) rfl rfl rfl dX12_darks_2 (fun H locs hw => ?_)
  refine lv_aload_n hx hb dX12_darks_5 rfl (lv_at hl 0 rfl) ?_
  refine lv_iload_n hx hb dX12_darks_6 rfl (lv_at hl 1 rfl) ?_
  obtain ⟨r3, S_1, hq2, hm⟩ := cb_some hm
  refine pw_cz (va_runS (As := [.int x1]) (rest := [.ref a0]) ⟨hx, hb, hml, hown, hU⟩ (c_X12_isDay l C X n (sI S0 1200 a0 0) hw.wf _ x1  r3 S_1 hq2) ⟨callB_of 1 hU (pq_g1 tc_X12_isDay) rfl rfl rfl (hU _ tw14) (hU _ tw2074) cd_X12_isDay.2 ⟨Nat.le_of_ble_eq_true rfl, Nat.le_of_ble_eq_true rfl⟩, hU _ tw2075⟩ (pw_preS hw) rfl rfl hl.1 rfl (lv_room (Nat.le_of_ble_eq_true rfl)) dX12_darks_7 ⟨Nat.zero_le _, Nat.zero_le _⟩) hw (fun H locs hw hx4 hz5 => ?_)
  have Ta0 : TY S_1 a0 12 := ty_ext hx4 Ta0
  have hE : Ext S0 S_1 := Ext.tr hE hx4
  refine lv_if_eq (tgt := 29) hx hb dX12_darks_10 (by decide) (fun h6 => ?_) (fun h6 => ?_)
  · rw [if_pos h6] at hm
    exact wb_X12_darks_29 cx C X S0 n r S1 a0 x1 x2 a0 S_1 _ _ _ hw hE Ta0 Ta0 (lv_sub hl [0, 1, 2] rfl) hm
  · rw [if_neg h6] at hm
    refine lv_iload_n hx hb dX12_darks_13 rfl (lv_at hl 2 rfl) ?_
    obtain ⟨r9, S_7, hq8, hm⟩ := cb_some hm
    refine pw_cz (va_runS (As := [.int x2]) (rest := [.ref a0]) ⟨hx, hb, hml, hown, hU⟩ (c_X12_isDay l C X n S_1 hw.wf _ x2  r9 S_7 hq8) ⟨callB_of 1 hU (pq_g1 tc_X12_isDay) rfl rfl rfl (hU _ tw14) (hU _ tw2074) cd_X12_isDay.2 ⟨Nat.le_of_ble_eq_true rfl, Nat.le_of_ble_eq_true rfl⟩, hU _ tw2075⟩ (pw_preS hw) rfl rfl hl.1 rfl (lv_room (Nat.le_of_ble_eq_true rfl)) dX12_darks_14 ⟨Nat.zero_le _, Nat.zero_le _⟩) hw (fun H locs hw hx10 hz11 => ?_)
    have Ta0 : TY S_7 a0 12 := ty_ext hx10 Ta0
    have hE : Ext S0 S_7 := Ext.tr hE hx10
    refine lv_if_eq (tgt := 29) hx hb dX12_darks_17 (by decide) (fun h12 => ?_) (fun h12 => ?_)
    · rw [if_pos h12] at hm
      exact wb_X12_darks_29 cx C X S0 n r S1 a0 x1 x2 a0 S_7 _ _ _ hw hE Ta0 Ta0 (lv_sub hl [0, 1, 2] rfl) hm
    · rw [if_neg h12] at hm
      refine lv_iload_n hx hb dX12_darks_20 rfl (lv_at hl 1 rfl) ?_
      refine lv_iload_n hx hb dX12_darks_21 rfl (lv_at hl 2 rfl) ?_
      refine lv_icmp_gt (tgt := 29) hx hb dX12_darks_22 (by decide) (fun h13 => ?_) (fun h13 => ?_)
      · rw [if_pos h13] at hm
        exact wb_X12_darks_29 cx C X S0 n r S1 a0 x1 x2 a0 S_7 _ _ _ hw hE Ta0 Ta0 (lv_sub hl [0, 1, 2] rfl) hm
      · rw [if_neg h13] at hm
        refine lv_iconst (v := 1) hx hb dX12_darks_25 (by decide) ?_
        refine lv_goto (tgt := 30) hx hb dX12_darks_26 (by decide) ?_
        exact wb_X12_darks_30 cx C X S0 n r S1 a0 x1 x2 a0 1 S_7 _ _ _ hw hE Ta0 Ta0 (lv_sub hl [0, 1, 2] rfl) hm
abbrev rm_X12_findClouds : Room := { frames := 1, cells := 0, slots := 0, locals := 23 }
def b_X12_findClouds_178 (n : Nat) (k16 : Nat → Int32 → Int32 → Int32 → Int32 → Int32 → pq_S → Option pq_S) (a0 : Nat) (x2 : Int32) (x3 : Int32) (x4 : Int32) (x5 : Int32) (x6 : Int32) (b0 : Nat) (z1 : Int32) (z2 : Int32) (S : pq_S) : Option pq_S := k16 a0 x2 x3 x4 x5 (x6 + 1) (sI S 1270 b0 (z1 + z2))
set_option maxHeartbeats 4000000 in
set_option maxRecDepth 100000 in
theorem wb_X12_findClouds_178 {p : Program} {l : Launch} {e : Env} {s : State} {m : MethodId} {args : Array Value} {below : List Frame} {meth : Method} {c : Code} (cx : Cx p s m args meth c cX12_findClouds 9 RX12 none) (C : pq_C) (X : va_W) (S0 : pq_S) (n : Nat) (S1 : pq_S) (k16 : Nat → Int32 → Int32 → Int32 → Int32 → Int32 → pq_S → Option pq_S) (hk16 : ∀ (a0 : Nat) (x2 : Int32) (x3 : Int32) (x4 : Int32) (x5 : Int32) (x6 : Int32) (S : pq_S) (H : Heap) (locs : List Loc) (ls : Array Slot), PW C X S (pq_F C X S0 s.heap.size) H locs s → Ext S0 S → TY S a0 12 → lv_has ls 9 [(0, .ref a0), (2, .int x2), (3, .int x3), (4, .int x4), (5, .int x5), (6, .int x6)] → k16 a0 x2 x3 x4 x5 x6 S = some S1 → W p l e rm_X12_findClouds s m args below meth c H locs 0 0 (MQ below (QcV C X S0 s.heap.size S1) args s 0 0 (pq_F C X S0 s.heap.size)) (F0 m 26 ls [])) : ∀ (a0 : Nat) (x2 : Int32) (x3 : Int32) (x4 : Int32) (x5 : Int32) (x6 : Int32) (b0 : Nat) (z1 : Int32) (z2 : Int32) (S : pq_S) (H : Heap) (locs : List Loc) (ls : Array Slot), PW C X S (pq_F C X S0 s.heap.size) H locs s → Ext S0 S → TY S a0 12 → TY S b0 12 → lv_has ls 9 [(0, .ref a0), (2, .int x2), (3, .int x3), (4, .int x4), (5, .int x5), (6, .int x6)] → b_X12_findClouds_178 n k16 a0 x2 x3 x4 x5 x6 b0 z1 z2 S = some S1 → W p l e rm_X12_findClouds s m args below meth c H locs 0 0 (MQ below (QcV C X S0 s.heap.size S1) args s 0 0 (pq_F C X S0 s.heap.size)) (F0 m 178 ls [.int z2, .int z1, .ref b0]) := by
  obtain ⟨hx, hb, hml, hown, hU, hr, hlk⟩ := id cx
  intro a0 x2 x3 x4 x5 x6 b0 z1 z2 S H locs ls hw hE Ta0 Tb0 hl hm
  rw [b_X12_findClouds_178] at hm
  refine lv_iadd hx hb dX12_findClouds_178 ?_
  refine pp_i (k := 12) (j := 70) (f := 1270) hx hb hown hU iu12 tyX12_ok nmX12 hw Tb0 (by decide) rfl (hU _ tw1541) rfl rfl rfl dX12_findClouds_179 (fun H locs hw => ?_)
  refine lv_iinc (v := (x6 + 1)) (lv' := [(6, .int (x6 + 1)), (0, .ref a0), (2, .int x2), (3, .int x3), (4, .int x4), (5, .int x5)]) hx hb dX12_findClouds_182 hl (k := 5) rfl rfl (by decide) rfl (fun ls hl => ?_)
  refine lv_goto (tgt := 26) hx hb dX12_findClouds_185 (by decide) ?_
  exact hk16 a0 x2 x3 x4 x5 (x6 + 1) (sI S 1270 b0 (z1 + z2)) _ _ _ hw hE Ta0 (lv_sub hl [1, 2, 3, 4, 5, 0] rfl) hm
def b_X12_findClouds_177 (n : Nat) (k16 : Nat → Int32 → Int32 → Int32 → Int32 → Int32 → pq_S → Option pq_S) (a0 : Nat) (x2 : Int32) (x3 : Int32) (x4 : Int32) (x5 : Int32) (x6 : Int32) (b0 : Nat) (z1 : Int32) (S : pq_S) : Option pq_S := b_X12_findClouds_178 n k16 a0 x2 x3 x4 x5 x6 b0 z1 0 S
set_option maxHeartbeats 4000000 in
set_option maxRecDepth 100000 in
theorem wb_X12_findClouds_177 {p : Program} {l : Launch} {e : Env} {s : State} {m : MethodId} {args : Array Value} {below : List Frame} {meth : Method} {c : Code} (cx : Cx p s m args meth c cX12_findClouds 9 RX12 none) (C : pq_C) (X : va_W) (S0 : pq_S) (n : Nat) (S1 : pq_S) (k16 : Nat → Int32 → Int32 → Int32 → Int32 → Int32 → pq_S → Option pq_S) (hk16 : ∀ (a0 : Nat) (x2 : Int32) (x3 : Int32) (x4 : Int32) (x5 : Int32) (x6 : Int32) (S : pq_S) (H : Heap) (locs : List Loc) (ls : Array Slot), PW C X S (pq_F C X S0 s.heap.size) H locs s → Ext S0 S → TY S a0 12 → lv_has ls 9 [(0, .ref a0), (2, .int x2), (3, .int x3), (4, .int x4), (5, .int x5), (6, .int x6)] → k16 a0 x2 x3 x4 x5 x6 S = some S1 → W p l e rm_X12_findClouds s m args below meth c H locs 0 0 (MQ below (QcV C X S0 s.heap.size S1) args s 0 0 (pq_F C X S0 s.heap.size)) (F0 m 26 ls [])) : ∀ (a0 : Nat) (x2 : Int32) (x3 : Int32) (x4 : Int32) (x5 : Int32) (x6 : Int32) (b0 : Nat) (z1 : Int32) (S : pq_S) (H : Heap) (locs : List Loc) (ls : Array Slot), PW C X S (pq_F C X S0 s.heap.size) H locs s → Ext S0 S → TY S a0 12 → TY S b0 12 → lv_has ls 9 [(0, .ref a0), (2, .int x2), (3, .int x3), (4, .int x4), (5, .int x5), (6, .int x6)] → b_X12_findClouds_177 n k16 a0 x2 x3 x4 x5 x6 b0 z1 S = some S1 → W p l e rm_X12_findClouds s m args below meth c H locs 0 0 (MQ below (QcV C X S0 s.heap.size S1) args s 0 0 (pq_F C X S0 s.heap.size)) (F0 m 177 ls [.int z1, .ref b0]) := by
  obtain ⟨hx, hb, hml, hown, hU, hr, hlk⟩ := id cx
  intro a0 x2 x3 x4 x5 x6 b0 z1 S H locs ls hw hE Ta0 Tb0 hl hm
  rw [b_X12_findClouds_177] at hm
  refine lv_iconst (v := 0) hx hb dX12_findClouds_177 (by decide) ?_
  exact wb_X12_findClouds_178 cx C X S0 n S1 _ hk16 a0 x2 x3 x4 x5 x6 b0 z1 0 S _ _ _ hw hE Ta0 Tb0 (lv_sub hl [0, 1, 2, 3, 4, 5] rfl) hm
def b_X12_findClouds_155 (n : Nat) (k16 : Nat → Int32 → Int32 → Int32 → Int32 → Int32 → pq_S → Option pq_S) (a0 : Nat) (x2 : Int32) (x3 : Int32) (x4 : Int32) (x5 : Int32) (x6 : Int32) (x7 : Int32) (x8 : Int32) (b0 : Nat) (z1 : Int32) (S : pq_S) : Option pq_S := if x8 = 0 then b_X12_findClouds_177 n k16 a0 x2 x3 x4 x5 x6 a0 (pI (sI S 1269 b0 z1) 1270 a0) (sI S 1269 b0 z1) else if x7 = 0 then b_X12_findClouds_177 n k16 a0 x2 x3 x4 x5 x6 a0 (pI (sI S 1269 b0 z1) 1270 a0) (sI S 1269 b0 z1) else b_X12_findClouds_178 n k16 a0 x2 x3 x4 x5 x6 a0 (pI (sI S 1269 b0 z1) 1270 a0) 1 (sI S 1269 b0 z1)
set_option maxHeartbeats 4000000 in
set_option maxRecDepth 100000 in
theorem wb_X12_findClouds_155 {p : Program} {l : Launch} {e : Env} {s : State} {m : MethodId} {args : Array Value} {below : List Frame} {meth : Method} {c : Code} (cx : Cx p s m args meth c cX12_findClouds 9 RX12 none) (C : pq_C) (X : va_W) (S0 : pq_S) (n : Nat) (S1 : pq_S) (k16 : Nat → Int32 → Int32 → Int32 → Int32 → Int32 → pq_S → Option pq_S) (hk16 : ∀ (a0 : Nat) (x2 : Int32) (x3 : Int32) (x4 : Int32) (x5 : Int32) (x6 : Int32) (S : pq_S) (H : Heap) (locs : List Loc) (ls : Array Slot), PW C X S (pq_F C X S0 s.heap.size) H locs s → Ext S0 S → TY S a0 12 → lv_has ls 9 [(0, .ref a0), (2, .int x2), (3, .int x3), (4, .int x4), (5, .int x5), (6, .int x6)] → k16 a0 x2 x3 x4 x5 x6 S = some S1 → W p l e rm_X12_findClouds s m args below meth c H locs 0 0 (MQ below (QcV C X S0 s.heap.size S1) args s 0 0 (pq_F C X S0 s.heap.size)) (F0 m 26 ls [])) : ∀ (a0 : Nat) (x2 : Int32) (x3 : Int32) (x4 : Int32) (x5 : Int32) (x6 : Int32) (x7 : Int32) (x8 : Int32) (b0 : Nat) (z1 : Int32) (S : pq_S) (H : Heap) (locs : List Loc) (ls : Array Slot), PW C X S (pq_F C X S0 s.heap.size) H locs s → Ext S0 S → TY S a0 12 → TY S b0 12 → lv_has ls 9 [(0, .ref a0), (2, .int x2), (3, .int x3), (4, .int x4), (5, .int x5), (6, .int x6), (7, .int x7), (8, .int x8)] → b_X12_findClouds_155 n k16 a0 x2 x3 x4 x5 x6 x7 x8 b0 z1 S = some S1 → W p l e rm_X12_findClouds s m args below meth c H locs 0 0 (MQ below (QcV C X S0 s.heap.size S1) args s 0 0 (pq_F C X S0 s.heap.size)) (F0 m 155 ls [.int z1, .ref b0]) := by
  obtain ⟨hx, hb, hml, hown, hU, hr, hlk⟩ := id cx
  intro a0 x2 x3 x4 x5 x6 x7 x8 b0 z1 S H locs ls hw hE Ta0 Tb0 hl hm
  rw [b_X12_findClouds_155] at hm
  refine pp_i (k := 12) (j := 69) (f := 1269) hx hb hown hU iu12 tyX12_ok nmX12 hw Tb0 (by decide) rfl (hU _ tw1540) rfl rfl rfl dX12_findClouds_155 (fun H locs hw => ?_)
  refine lv_aload_n hx hb dX12_findClouds_158 rfl (lv_at hl 0 rfl) ?_
  refine lv_dup hx hb dX12_findClouds_159 rfl ?_
  refine pg_i (k := 12) (j := 70) (f := 1270) hx hb hown hU iu12 hw Ta0 (by decide) rfl (hU _ tw1541) rfl dX12_findClouds_160 ?_
  refine lv_iload hx hb dX12_findClouds_163 (lv_at hl 7 rfl) ?_
  refine lv_if_eq (tgt := 177) hx hb dX12_findClouds_165 (by decide) (fun h14 => ?_) (fun h14 => ?_)
  · rw [if_pos h14] at hm
    exact wb_X12_findClouds_177 cx C X S0 n S1 _ hk16 a0 x2 x3 x4 x5 x6 a0 (pI (sI S 1269 b0 z1) 1270 a0) (sI S 1269 b0 z1) _ _ _ hw hE Ta0 Ta0 (lv_sub hl [0, 1, 2, 3, 4, 5] rfl) hm
  · rw [if_neg h14] at hm
    refine lv_iload hx hb dX12_findClouds_168 (lv_at hl 6 rfl) ?_
    refine lv_if_eq (tgt := 177) hx hb dX12_findClouds_170 (by decide) (fun h15 => ?_) (fun h15 => ?_)
    · rw [if_pos h15] at hm
      exact wb_X12_findClouds_177 cx C X S0 n S1 _ hk16 a0 x2 x3 x4 x5 x6 a0 (pI (sI S 1269 b0 z1) 1270 a0) (sI S 1269 b0 z1) _ _ _ hw hE Ta0 Ta0 (lv_sub hl [0, 1, 2, 3, 4, 5] rfl) hm
    · rw [if_neg h15] at hm
      refine lv_iconst (v := 1) hx hb dX12_findClouds_173 (by decide) ?_
      refine lv_goto (tgt := 178) hx hb dX12_findClouds_174 (by decide) ?_
      exact wb_X12_findClouds_178 cx C X S0 n S1 _ hk16 a0 x2 x3 x4 x5 x6 a0 (pI (sI S 1269 b0 z1) 1270 a0) 1 (sI S 1269 b0 z1) _ _ _ hw hE Ta0 Ta0 (lv_sub hl [0, 1, 2, 3, 4, 5] rfl) hm
def b_X12_findClouds_134 (n : Nat) (k16 : Nat → Int32 → Int32 → Int32 → Int32 → Int32 → pq_S → Option pq_S) (a0 : Nat) (x2 : Int32) (x3 : Int32) (x4 : Int32) (x6 : Int32) (x7 : Int32) (x8 : Int32) (z0 : Int32) (S : pq_S) : Option pq_S := if z0 ≤ (pI S 1269 a0) then b_X12_findClouds_155 n k16 a0 x2 x3 x4 z0 x6 x7 x8 a0 (pI S 1269 a0) S else b_X12_findClouds_155 n k16 a0 x2 x3 x4 z0 x6 x7 x8 a0 z0 S
set_option maxHeartbeats 4000000 in
set_option maxRecDepth 100000 in
theorem wb_X12_findClouds_134 {p : Program} {l : Launch} {e : Env} {s : State} {m : MethodId} {args : Array Value} {below : List Frame} {meth : Method} {c : Code} (cx : Cx p s m args meth c cX12_findClouds 9 RX12 none) (C : pq_C) (X : va_W) (S0 : pq_S) (n : Nat) (S1 : pq_S) (k16 : Nat → Int32 → Int32 → Int32 → Int32 → Int32 → pq_S → Option pq_S) (hk16 : ∀ (a0 : Nat) (x2 : Int32) (x3 : Int32) (x4 : Int32) (x5 : Int32) (x6 : Int32) (S : pq_S) (H : Heap) (locs : List Loc) (ls : Array Slot), PW C X S (pq_F C X S0 s.heap.size) H locs s → Ext S0 S → TY S a0 12 → lv_has ls 9 [(0, .ref a0), (2, .int x2), (3, .int x3), (4, .int x4), (5, .int x5), (6, .int x6)] → k16 a0 x2 x3 x4 x5 x6 S = some S1 → W p l e rm_X12_findClouds s m args below meth c H locs 0 0 (MQ below (QcV C X S0 s.heap.size S1) args s 0 0 (pq_F C X S0 s.heap.size)) (F0 m 26 ls [])) : ∀ (a0 : Nat) (x2 : Int32) (x3 : Int32) (x4 : Int32) (x6 : Int32) (x7 : Int32) (x8 : Int32) (z0 : Int32) (S : pq_S) (H : Heap) (locs : List Loc) (ls : Array Slot), PW C X S (pq_F C X S0 s.heap.size) H locs s → Ext S0 S → TY S a0 12 → lv_has ls 9 [(0, .ref a0), (2, .int x2), (3, .int x3), (4, .int x4), (6, .int x6), (7, .int x7), (8, .int x8)] → b_X12_findClouds_134 n k16 a0 x2 x3 x4 x6 x7 x8 z0 S = some S1 → W p l e rm_X12_findClouds s m args below meth c H locs 0 0 (MQ below (QcV C X S0 s.heap.size S1) args s 0 0 (pq_F C X S0 s.heap.size)) (F0 m 134 ls [.int z0]) := by
  obtain ⟨hx, hb, hml, hown, hU, hr, hlk⟩ := id cx
  intro a0 x2 x3 x4 x6 x7 x8 z0 S H locs ls hw hE Ta0 hl hm
  rw [b_X12_findClouds_134] at hm
  refine lv_istore (lv' := [(5, .int z0), (0, .ref a0), (2, .int x2), (3, .int x3), (4, .int x4), (6, .int x6), (7, .int x7), (8, .int x8)]) hx hb dX12_findClouds_134 hl (by decide) rfl (fun ls hl => ?_)
  refine lv_aload_n hx hb dX12_findClouds_136 rfl (lv_at hl 1 rfl) ?_
  refine lv_iload hx hb dX12_findClouds_137 (lv_at hl 0 rfl) ?_
  refine lv_aload_n hx hb dX12_findClouds_139 rfl (lv_at hl 1 rfl) ?_
  refine pg_i (k := 12) (j := 69) (f := 1269) hx hb hown hU iu12 hw Ta0 (by decide) rfl (hU _ tw1540) rfl dX12_findClouds_140 ?_
  refine lv_icmp_le (tgt := 151) hx hb dX12_findClouds_143 (by decide) (fun h13 => ?_) (fun h13 => ?_)
  · rw [if_pos h13] at hm
    refine lv_aload_n hx hb dX12_findClouds_151 rfl (lv_at hl 1 rfl) ?_
    refine pg_i (k := 12) (j := 69) (f := 1269) hx hb hown hU iu12 hw Ta0 (by decide) rfl (hU _ tw1540) rfl dX12_findClouds_152 ?_
    exact wb_X12_findClouds_155 cx C X S0 n S1 _ hk16 a0 x2 x3 x4 z0 x6 x7 x8 a0 (pI S 1269 a0) S _ _ _ hw hE Ta0 Ta0 (lv_sub hl [1, 2, 3, 4, 0, 5, 6, 7] rfl) hm
  · rw [if_neg h13] at hm
    refine lv_iload hx hb dX12_findClouds_146 (lv_at hl 0 rfl) ?_
    refine lv_goto (tgt := 155) hx hb dX12_findClouds_148 (by decide) ?_
    exact wb_X12_findClouds_155 cx C X S0 n S1 _ hk16 a0 x2 x3 x4 z0 x6 x7 x8 a0 z0 S _ _ _ hw hE Ta0 Ta0 (lv_sub hl [1, 2, 3, 4, 0, 5, 6, 7] rfl) hm
def b_X12_findClouds_126 (n : Nat) (k16 : Nat → Int32 → Int32 → Int32 → Int32 → Int32 → pq_S → Option pq_S) (a0 : Nat) (x2 : Int32) (x3 : Int32) (x4 : Int32) (x5 : Int32) (x6 : Int32) (x7 : Int32) (x8 : Int32) (S : pq_S) : Option pq_S := b_X12_findClouds_134 n k16 a0 x2 x3 x4 x6 x7 x8 (x5 + (1 : Int32)) S
set_option maxHeartbeats 4000000 in
set_option maxRecDepth 100000 in
theorem wb_X12_findClouds_126 {p : Program} {l : Launch} {e : Env} {s : State} {m : MethodId} {args : Array Value} {below : List Frame} {meth : Method} {c : Code} (cx : Cx p s m args meth c cX12_findClouds 9 RX12 none) (C : pq_C) (X : va_W) (S0 : pq_S) (n : Nat) (S1 : pq_S) (k16 : Nat → Int32 → Int32 → Int32 → Int32 → Int32 → pq_S → Option pq_S) (hk16 : ∀ (a0 : Nat) (x2 : Int32) (x3 : Int32) (x4 : Int32) (x5 : Int32) (x6 : Int32) (S : pq_S) (H : Heap) (locs : List Loc) (ls : Array Slot), PW C X S (pq_F C X S0 s.heap.size) H locs s → Ext S0 S → TY S a0 12 → lv_has ls 9 [(0, .ref a0), (2, .int x2), (3, .int x3), (4, .int x4), (5, .int x5), (6, .int x6)] → k16 a0 x2 x3 x4 x5 x6 S = some S1 → W p l e rm_X12_findClouds s m args below meth c H locs 0 0 (MQ below (QcV C X S0 s.heap.size S1) args s 0 0 (pq_F C X S0 s.heap.size)) (F0 m 26 ls [])) : ∀ (a0 : Nat) (x2 : Int32) (x3 : Int32) (x4 : Int32) (x5 : Int32) (x6 : Int32) (x7 : Int32) (x8 : Int32) (S : pq_S) (H : Heap) (locs : List Loc) (ls : Array Slot), PW C X S (pq_F C X S0 s.heap.size) H locs s → Ext S0 S → TY S a0 12 → lv_has ls 9 [(0, .ref a0), (2, .int x2), (3, .int x3), (4, .int x4), (5, .int x5), (6, .int x6), (7, .int x7), (8, .int x8)] → b_X12_findClouds_126 n k16 a0 x2 x3 x4 x5 x6 x7 x8 S = some S1 → W p l e rm_X12_findClouds s m args below meth c H locs 0 0 (MQ below (QcV C X S0 s.heap.size S1) args s 0 0 (pq_F C X S0 s.heap.size)) (F0 m 126 ls []) := by
  obtain ⟨hx, hb, hml, hown, hU, hr, hlk⟩ := id cx
  intro a0 x2 x3 x4 x5 x6 x7 x8 S H locs ls hw hE Ta0 hl hm
  rw [b_X12_findClouds_126] at hm
  refine lv_iload hx hb dX12_findClouds_126 (lv_at hl 4 rfl) ?_
  refine lv_iconst (v := 1) hx hb dX12_findClouds_128 (by decide) ?_
  refine lv_iadd hx hb dX12_findClouds_129 ?_
  refine lv_goto (tgt := 134) hx hb dX12_findClouds_130 (by decide) ?_
  exact wb_X12_findClouds_134 cx C X S0 n S1 _ hk16 a0 x2 x3 x4 x6 x7 x8 (x5 + (1 : Int32)) S _ _ _ hw hE Ta0 (lv_sub hl [0, 1, 2, 3, 5, 6, 7] rfl) hm
def b_X12_findClouds_112 (n : Nat) (k16 : Nat → Int32 → Int32 → Int32 → Int32 → Int32 → pq_S → Option pq_S) (a0 : Nat) (x2 : Int32) (x3 : Int32) (x4 : Int32) (x5 : Int32) (x6 : Int32) (x7 : Int32) (x8 : Int32) (b0 : Nat) (z1 : Int32) (z2 : Int32) (S : pq_S) : Option pq_S := if x8 = 0 then if x7 = 0 then b_X12_findClouds_134 n k16 a0 x2 x3 x4 x6 x7 x8 0 (sI S 1268 b0 (z1 + z2)) else b_X12_findClouds_126 n k16 a0 x2 x3 x4 x5 x6 x7 x8 (sI S 1268 b0 (z1 + z2)) else b_X12_findClouds_126 n k16 a0 x2 x3 x4 x5 x6 x7 x8 (sI S 1268 b0 (z1 + z2))
set_option maxHeartbeats 4000000 in
set_option maxRecDepth 100000 in
theorem wb_X12_findClouds_112 {p : Program} {l : Launch} {e : Env} {s : State} {m : MethodId} {args : Array Value} {below : List Frame} {meth : Method} {c : Code} (cx : Cx p s m args meth c cX12_findClouds 9 RX12 none) (C : pq_C) (X : va_W) (S0 : pq_S) (n : Nat) (S1 : pq_S) (k16 : Nat → Int32 → Int32 → Int32 → Int32 → Int32 → pq_S → Option pq_S) (hk16 : ∀ (a0 : Nat) (x2 : Int32) (x3 : Int32) (x4 : Int32) (x5 : Int32) (x6 : Int32) (S : pq_S) (H : Heap) (locs : List Loc) (ls : Array Slot), PW C X S (pq_F C X S0 s.heap.size) H locs s → Ext S0 S → TY S a0 12 → lv_has ls 9 [(0, .ref a0), (2, .int x2), (3, .int x3), (4, .int x4), (5, .int x5), (6, .int x6)] → k16 a0 x2 x3 x4 x5 x6 S = some S1 → W p l e rm_X12_findClouds s m args below meth c H locs 0 0 (MQ below (QcV C X S0 s.heap.size S1) args s 0 0 (pq_F C X S0 s.heap.size)) (F0 m 26 ls [])) : ∀ (a0 : Nat) (x2 : Int32) (x3 : Int32) (x4 : Int32) (x5 : Int32) (x6 : Int32) (x7 : Int32) (x8 : Int32) (b0 : Nat) (z1 : Int32) (z2 : Int32) (S : pq_S) (H : Heap) (locs : List Loc) (ls : Array Slot), PW C X S (pq_F C X S0 s.heap.size) H locs s → Ext S0 S → TY S a0 12 → TY S b0 12 → lv_has ls 9 [(0, .ref a0), (2, .int x2), (3, .int x3), (4, .int x4), (5, .int x5), (6, .int x6), (7, .int x7), (8, .int x8)] → b_X12_findClouds_112 n k16 a0 x2 x3 x4 x5 x6 x7 x8 b0 z1 z2 S = some S1 → W p l e rm_X12_findClouds s m args below meth c H locs 0 0 (MQ below (QcV C X S0 s.heap.size S1) args s 0 0 (pq_F C X S0 s.heap.size)) (F0 m 112 ls [.int z2, .int z1, .ref b0]) := by
  obtain ⟨hx, hb, hml, hown, hU, hr, hlk⟩ := id cx
  intro a0 x2 x3 x4 x5 x6 x7 x8 b0 z1 z2 S H locs ls hw hE Ta0 Tb0 hl hm
  rw [b_X12_findClouds_112] at hm
  refine lv_iadd hx hb dX12_findClouds_112 ?_
  refine pp_i (k := 12) (j := 68) (f := 1268) hx hb hown hU iu12 tyX12_ok nmX12 hw Tb0 (by decide) rfl (hU _ tw1539) rfl rfl rfl dX12_findClouds_113 (fun H locs hw => ?_)
  refine lv_iload hx hb dX12_findClouds_116 (lv_at hl 7 rfl) ?_
  refine lv_if_ne (tgt := 126) hx hb dX12_findClouds_118 (by decide) (fun h11 => ?_) (fun h11 => ?_)
  · rw [if_neg h11] at hm
    exact wb_X12_findClouds_126 cx C X S0 n S1 _ hk16 a0 x2 x3 x4 x5 x6 x7 x8 (sI S 1268 b0 (z1 + z2)) _ _ _ hw hE Ta0 (lv_sub hl [0, 1, 2, 3, 4, 5, 6, 7] rfl) hm
  · rw [if_pos h11] at hm
    refine lv_iload hx hb dX12_findClouds_121 (lv_at hl 6 rfl) ?_
    refine lv_if_eq (tgt := 133) hx hb dX12_findClouds_123 (by decide) (fun h12 => ?_) (fun h12 => ?_)
    · rw [if_pos h12] at hm
      refine lv_iconst (v := 0) hx hb dX12_findClouds_133 (by decide) ?_
      exact wb_X12_findClouds_134 cx C X S0 n S1 _ hk16 a0 x2 x3 x4 x6 x7 x8 0 (sI S 1268 b0 (z1 + z2)) _ _ _ hw hE Ta0 (lv_sub hl [0, 1, 2, 3, 5, 6, 7] rfl) hm
    · rw [if_neg h12] at hm
      exact wb_X12_findClouds_126 cx C X S0 n S1 _ hk16 a0 x2 x3 x4 x5 x6 x7 x8 (sI S 1268 b0 (z1 + z2)) _ _ _ hw hE Ta0 (lv_sub hl [0, 1, 2, 3, 4, 5, 6, 7] rfl) hm
def b_X12_findClouds_107 (n : Nat) (k16 : Nat → Int32 → Int32 → Int32 → Int32 → Int32 → pq_S → Option pq_S) (a0 : Nat) (x2 : Int32) (x3 : Int32) (x4 : Int32) (x5 : Int32) (x6 : Int32) (x7 : Int32) (x8 : Int32) (b0 : Nat) (z1 : Int32) (S : pq_S) : Option pq_S := b_X12_findClouds_112 n k16 a0 x2 x3 x4 x5 x6 x7 x8 b0 z1 1 S
set_option maxHeartbeats 4000000 in
set_option maxRecDepth 100000 in
theorem wb_X12_findClouds_107 {p : Program} {l : Launch} {e : Env} {s : State} {m : MethodId} {args : Array Value} {below : List Frame} {meth : Method} {c : Code} (cx : Cx p s m args meth c cX12_findClouds 9 RX12 none) (C : pq_C) (X : va_W) (S0 : pq_S) (n : Nat) (S1 : pq_S) (k16 : Nat → Int32 → Int32 → Int32 → Int32 → Int32 → pq_S → Option pq_S) (hk16 : ∀ (a0 : Nat) (x2 : Int32) (x3 : Int32) (x4 : Int32) (x5 : Int32) (x6 : Int32) (S : pq_S) (H : Heap) (locs : List Loc) (ls : Array Slot), PW C X S (pq_F C X S0 s.heap.size) H locs s → Ext S0 S → TY S a0 12 → lv_has ls 9 [(0, .ref a0), (2, .int x2), (3, .int x3), (4, .int x4), (5, .int x5), (6, .int x6)] → k16 a0 x2 x3 x4 x5 x6 S = some S1 → W p l e rm_X12_findClouds s m args below meth c H locs 0 0 (MQ below (QcV C X S0 s.heap.size S1) args s 0 0 (pq_F C X S0 s.heap.size)) (F0 m 26 ls [])) : ∀ (a0 : Nat) (x2 : Int32) (x3 : Int32) (x4 : Int32) (x5 : Int32) (x6 : Int32) (x7 : Int32) (x8 : Int32) (b0 : Nat) (z1 : Int32) (S : pq_S) (H : Heap) (locs : List Loc) (ls : Array Slot), PW C X S (pq_F C X S0 s.heap.size) H locs s → Ext S0 S → TY S a0 12 → TY S b0 12 → lv_has ls 9 [(0, .ref a0), (2, .int x2), (3, .int x3), (4, .int x4), (5, .int x5), (6, .int x6), (7, .int x7), (8, .int x8)] → b_X12_findClouds_107 n k16 a0 x2 x3 x4 x5 x6 x7 x8 b0 z1 S = some S1 → W p l e rm_X12_findClouds s m args below meth c H locs 0 0 (MQ below (QcV C X S0 s.heap.size S1) args s 0 0 (pq_F C X S0 s.heap.size)) (F0 m 107 ls [.int z1, .ref b0]) := by
  obtain ⟨hx, hb, hml, hown, hU, hr, hlk⟩ := id cx
  intro a0 x2 x3 x4 x5 x6 x7 x8 b0 z1 S H locs ls hw hE Ta0 Tb0 hl hm
  rw [b_X12_findClouds_107] at hm
  refine lv_iconst (v := 1) hx hb dX12_findClouds_107 (by decide) ?_
  refine lv_goto (tgt := 112) hx hb dX12_findClouds_108 (by decide) ?_
  exact wb_X12_findClouds_112 cx C X S0 n S1 _ hk16 a0 x2 x3 x4 x5 x6 x7 x8 b0 z1 1 S _ _ _ hw hE Ta0 Tb0 (lv_sub hl [0, 1, 2, 3, 4, 5, 6, 7] rfl) hm
def b_X12_findClouds_90 (n : Nat) (k16 : Nat → Int32 → Int32 → Int32 → Int32 → Int32 → pq_S → Option pq_S) (a0 : Nat) (x2 : Int32) (x3 : Int32) (x4 : Int32) (x5 : Int32) (x6 : Int32) (x7 : Int32) (z0 : Int32) (S : pq_S) : Option pq_S := if z0 = 0 then if x7 = 0 then b_X12_findClouds_112 n k16 a0 x2 x3 x4 x5 x6 x7 z0 a0 (pI S 1268 a0) 0 S else b_X12_findClouds_107 n k16 a0 x2 x3 x4 x5 x6 x7 z0 a0 (pI S 1268 a0) S else b_X12_findClouds_107 n k16 a0 x2 x3 x4 x5 x6 x7 z0 a0 (pI S 1268 a0) S
set_option maxHeartbeats 4000000 in
set_option maxRecDepth 100000 in
theorem wb_X12_findClouds_90 {p : Program} {l : Launch} {e : Env} {s : State} {m : MethodId} {args : Array Value} {below : List Frame} {meth : Method} {c : Code} (cx : Cx p s m args meth c cX12_findClouds 9 RX12 none) (C : pq_C) (X : va_W) (S0 : pq_S) (n : Nat) (S1 : pq_S) (k16 : Nat → Int32 → Int32 → Int32 → Int32 → Int32 → pq_S → Option pq_S) (hk16 : ∀ (a0 : Nat) (x2 : Int32) (x3 : Int32) (x4 : Int32) (x5 : Int32) (x6 : Int32) (S : pq_S) (H : Heap) (locs : List Loc) (ls : Array Slot), PW C X S (pq_F C X S0 s.heap.size) H locs s → Ext S0 S → TY S a0 12 → lv_has ls 9 [(0, .ref a0), (2, .int x2), (3, .int x3), (4, .int x4), (5, .int x5), (6, .int x6)] → k16 a0 x2 x3 x4 x5 x6 S = some S1 → W p l e rm_X12_findClouds s m args below meth c H locs 0 0 (MQ below (QcV C X S0 s.heap.size S1) args s 0 0 (pq_F C X S0 s.heap.size)) (F0 m 26 ls [])) : ∀ (a0 : Nat) (x2 : Int32) (x3 : Int32) (x4 : Int32) (x5 : Int32) (x6 : Int32) (x7 : Int32) (z0 : Int32) (S : pq_S) (H : Heap) (locs : List Loc) (ls : Array Slot), PW C X S (pq_F C X S0 s.heap.size) H locs s → Ext S0 S → TY S a0 12 → lv_has ls 9 [(0, .ref a0), (2, .int x2), (3, .int x3), (4, .int x4), (5, .int x5), (6, .int x6), (7, .int x7)] → b_X12_findClouds_90 n k16 a0 x2 x3 x4 x5 x6 x7 z0 S = some S1 → W p l e rm_X12_findClouds s m args below meth c H locs 0 0 (MQ below (QcV C X S0 s.heap.size S1) args s 0 0 (pq_F C X S0 s.heap.size)) (F0 m 90 ls [.int z0]) := by
  obtain ⟨hx, hb, hml, hown, hU, hr, hlk⟩ := id cx
  intro a0 x2 x3 x4 x5 x6 x7 z0 S H locs ls hw hE Ta0 hl hm
  rw [b_X12_findClouds_90] at hm
  refine lv_istore (lv' := [(8, .int z0), (0, .ref a0), (2, .int x2), (3, .int x3), (4, .int x4), (5, .int x5), (6, .int x6), (7, .int x7)]) hx hb dX12_findClouds_90 hl (by decide) rfl (fun ls hl => ?_)
  refine lv_aload_n hx hb dX12_findClouds_92 rfl (lv_at hl 1 rfl) ?_
  refine lv_dup hx hb dX12_findClouds_93 rfl ?_
  refine pg_i (k := 12) (j := 68) (f := 1268) hx hb hown hU iu12 hw Ta0 (by decide) rfl (hU _ tw1539) rfl dX12_findClouds_94 ?_
  refine lv_iload hx hb dX12_findClouds_97 (lv_at hl 0 rfl) ?_
  refine lv_if_ne (tgt := 107) hx hb dX12_findClouds_99 (by decide) (fun h9 => ?_) (fun h9 => ?_)
  · rw [if_neg h9] at hm
    exact wb_X12_findClouds_107 cx C X S0 n S1 _ hk16 a0 x2 x3 x4 x5 x6 x7 z0 a0 (pI S 1268 a0) S _ _ _ hw hE Ta0 Ta0 (lv_sub hl [1, 2, 3, 4, 5, 6, 7, 0] rfl) hm
  · rw [if_pos h9] at hm
    refine lv_iload hx hb dX12_findClouds_102 (lv_at hl 7 rfl) ?_
    refine lv_if_eq (tgt := 111) hx hb dX12_findClouds_104 (by decide) (fun h10 => ?_) (fun h10 => ?_)
    · rw [if_pos h10] at hm
      refine lv_iconst (v := 0) hx hb dX12_findClouds_111 (by decide) ?_
      exact wb_X12_findClouds_112 cx C X S0 n S1 _ hk16 a0 x2 x3 x4 x5 x6 x7 z0 a0 (pI S 1268 a0) 0 S _ _ _ hw hE Ta0 Ta0 (lv_sub hl [1, 2, 3, 4, 5, 6, 7, 0] rfl) hm
    · rw [if_neg h10] at hm
      exact wb_X12_findClouds_107 cx C X S0 n S1 _ hk16 a0 x2 x3 x4 x5 x6 x7 z0 a0 (pI S 1268 a0) S _ _ _ hw hE Ta0 Ta0 (lv_sub hl [1, 2, 3, 4, 5, 6, 7, 0] rfl) hm
def b_X12_findClouds_74 (n : Nat) (k16 : Nat → Int32 → Int32 → Int32 → Int32 → Int32 → pq_S → Option pq_S) (a0 : Nat) (x2 : Int32) (x3 : Int32) (x4 : Int32) (x5 : Int32) (x6 : Int32) (z0 : Int32) (S : pq_S) : Option pq_S := cb (m_X12_moonsOn n a0 x6 S) fun r6 S_4 => if r6 = 0 then b_X12_findClouds_90 n k16 a0 x2 x3 x4 x5 x6 z0 1 S_4 else b_X12_findClouds_90 n k16 a0 x2 x3 x4 x5 x6 z0 0 S_4
set_option maxHeartbeats 4000000 in
set_option maxRecDepth 100000 in
theorem wb_X12_findClouds_74 {p : Program} {l : Launch} {e : Env} {s : State} {m : MethodId} {args : Array Value} {below : List Frame} {meth : Method} {c : Code} (cx : Cx p s m args meth c cX12_findClouds 9 RX12 none) (C : pq_C) (X : va_W) (S0 : pq_S) (n : Nat) (S1 : pq_S) (k16 : Nat → Int32 → Int32 → Int32 → Int32 → Int32 → pq_S → Option pq_S) (hk16 : ∀ (a0 : Nat) (x2 : Int32) (x3 : Int32) (x4 : Int32) (x5 : Int32) (x6 : Int32) (S : pq_S) (H : Heap) (locs : List Loc) (ls : Array Slot), PW C X S (pq_F C X S0 s.heap.size) H locs s → Ext S0 S → TY S a0 12 → lv_has ls 9 [(0, .ref a0), (2, .int x2), (3, .int x3), (4, .int x4), (5, .int x5), (6, .int x6)] → k16 a0 x2 x3 x4 x5 x6 S = some S1 → W p l e rm_X12_findClouds s m args below meth c H locs 0 0 (MQ below (QcV C X S0 s.heap.size S1) args s 0 0 (pq_F C X S0 s.heap.size)) (F0 m 26 ls [])) : ∀ (a0 : Nat) (x2 : Int32) (x3 : Int32) (x4 : Int32) (x5 : Int32) (x6 : Int32) (z0 : Int32) (S : pq_S) (H : Heap) (locs : List Loc) (ls : Array Slot), PW C X S (pq_F C X S0 s.heap.size) H locs s → Ext S0 S → TY S a0 12 → lv_has ls 9 [(0, .ref a0), (2, .int x2), (3, .int x3), (4, .int x4), (5, .int x5), (6, .int x6)] → b_X12_findClouds_74 n k16 a0 x2 x3 x4 x5 x6 z0 S = some S1 → W p l e rm_X12_findClouds s m args below meth c H locs 0 0 (MQ below (QcV C X S0 s.heap.size S1) args s 0 0 (pq_F C X S0 s.heap.size)) (F0 m 74 ls [.int z0]) := by
  obtain ⟨hx, hb, hml, hown, hU, hr, hlk⟩ := id cx
  intro a0 x2 x3 x4 x5 x6 z0 S H locs ls hw hE Ta0 hl hm
  rw [b_X12_findClouds_74] at hm
  refine lv_istore (lv' := [(7, .int z0), (0, .ref a0), (2, .int x2), (3, .int x3), (4, .int x4), (5, .int x5), (6, .int x6)]) hx hb dX12_findClouds_74 hl (by decide) rfl (fun ls hl => ?_)
  refine lv_aload_n hx hb dX12_findClouds_76 rfl (lv_at hl 1 rfl) ?_
  refine lv_iload hx hb dX12_findClouds_77 (lv_at hl 6 rfl) ?_
  obtain ⟨r6, S_4, hq5, hm⟩ := cb_some hm
  refine pw_ci (va_runV (As := [.int x6]) (rest := []) ⟨hx, hb, hml, hown, hU⟩ (c_X12_moonsOn l C X n S hw.wf _ a0 x6 (Ta0) r6 S_4 hq5) (cwV 1 hU (pq_gV tw2077 tw2079 ts176 tw14 tc_X12_moonsOn) rfl rfl rfl cd_X12_moonsOn ⟨Nat.le_of_ble_eq_true rfl, Nat.le_of_ble_eq_true rfl⟩) (pw_preV hw Ta0 (by decide) rfl) rfl rfl hl.1 rfl (lv_room (Nat.le_of_ble_eq_true rfl)) dX12_findClouds_79 ⟨Nat.zero_le _, Nat.zero_le _⟩) hw (fun H locs hw hx7 => ?_)
  have Ta0 : TY S_4 a0 12 := ty_ext hx7 Ta0
  have hE : Ext S0 S_4 := Ext.tr hE hx7
  refine lv_if_ne (tgt := 89) hx hb dX12_findClouds_82 (by decide) (fun h8 => ?_) (fun h8 => ?_)
  · rw [if_neg h8] at hm
    refine lv_iconst (v := 0) hx hb dX12_findClouds_89 (by decide) ?_
    exact wb_X12_findClouds_90 cx C X S0 n S1 _ hk16 a0 x2 x3 x4 x5 x6 z0 0 S_4 _ _ _ hw hE Ta0 (lv_sub hl [1, 2, 3, 4, 5, 6, 0] rfl) hm
  · rw [if_pos h8] at hm
    refine lv_iconst (v := 1) hx hb dX12_findClouds_85 (by decide) ?_
    refine lv_goto (tgt := 90) hx hb dX12_findClouds_86 (by decide) ?_
    exact wb_X12_findClouds_90 cx C X S0 n S1 _ hk16 a0 x2 x3 x4 x5 x6 z0 1 S_4 _ _ _ hw hE Ta0 (lv_sub hl [1, 2, 3, 4, 5, 6, 0] rfl) hm
def b_X12_findClouds_26 (n : Nat) : Nat → Nat → Int32 → Int32 → Int32 → Int32 → Int32 → pq_S → Option pq_S
  | 0, _, _, _, _, _, _, _ => none
  | f + 1, a0, x2, x3, x4, x5, x6, S => if (x3 + x4) ≤ x6 then some S else lt_ (sI S 1267 a0 (((pI S 1267 a0) * (1103515245 : Int32)) + (12345 : Int32))) fun S_2 => if x2 ≤ ((((pI S_2 1267 a0) >>> ((16 : Int32) &&& (31 : Int32))) &&& (32767 : Int32)) - (((pI S_2 1267 a0) >>> ((16 : Int32) &&& (31 : Int32))) &&& (32767 : Int32)) / 16 * 16) then b_X12_findClouds_74 n (b_X12_findClouds_26 n f) a0 x2 x3 x4 x5 x6 0 S_2 else b_X12_findClouds_74 n (b_X12_findClouds_26 n f) a0 x2 x3 x4 x5 x6 1 S_2
set_option maxHeartbeats 4000000 in
set_option maxRecDepth 100000 in
theorem wb_X12_findClouds_26 {p : Program} {l : Launch} {e : Env} {s : State} {m : MethodId} {args : Array Value} {below : List Frame} {meth : Method} {c : Code} (cx : Cx p s m args meth c cX12_findClouds 9 RX12 none) (C : pq_C) (X : va_W) (S0 : pq_S) (n : Nat) (S1 : pq_S) : ∀ (f : Nat) (a0 : Nat) (x2 : Int32) (x3 : Int32) (x4 : Int32) (x5 : Int32) (x6 : Int32) (S : pq_S) (H : Heap) (locs : List Loc) (ls : Array Slot), PW C X S (pq_F C X S0 s.heap.size) H locs s → Ext S0 S → TY S a0 12 → lv_has ls 9 [(0, .ref a0), (2, .int x2), (3, .int x3), (4, .int x4), (5, .int x5), (6, .int x6)] → b_X12_findClouds_26 n f a0 x2 x3 x4 x5 x6 S = some S1 → W p l e rm_X12_findClouds s m args below meth c H locs 0 0 (MQ below (QcV C X S0 s.heap.size S1) args s 0 0 (pq_F C X S0 s.heap.size)) (F0 m 26 ls []) := by
  obtain ⟨hx, hb, hml, hown, hU, hr, hlk⟩ := id cx
  intro f
  induction f with
  | zero =>
    intro a0 x2 x3 x4 x5 x6 S H locs ls hw hE Ta0 hl hm
    cases hm
  | succ f ih =>
    intro a0 x2 x3 x4 x5 x6 S H locs ls hw hE Ta0 hl hm
    rw [b_X12_findClouds_26] at hm
    refine lv_iload hx hb dX12_findClouds_26 (lv_at hl 5 rfl) ?_
    refine lv_iload_n hx hb dX12_findClouds_28 rfl (lv_at hl 2 rfl) ?_
    refine lv_iload hx hb dX12_findClouds_29 (lv_at hl 3 rfl) ?_
    refine lv_iadd hx hb dX12_findClouds_31 ?_
    refine lv_icmp_ge (tgt := 188) hx hb dX12_findClouds_32 (by decide) (fun h1 => ?_) (fun h1 => ?_)
    · rw [if_pos h1] at hm
      cases hm
      exact pw_vret hx hb hr hlk hw hE dX12_findClouds_188
    · rw [if_neg h1] at hm
      refine lv_aload_n hx hb dX12_findClouds_35 rfl (lv_at hl 0 rfl) ?_
      refine lv_aload_n hx hb dX12_findClouds_36 rfl (lv_at hl 0 rfl) ?_
      refine pg_i (k := 12) (j := 67) (f := 1267) hx hb hown hU iu12 hw Ta0 (by decide) rfl (hU _ tw1538) rfl dX12_findClouds_37 ?_
      refine lv_ldcw (v := 1103515245) hx hb hown (hU _ tw2108) dX12_findClouds_40 ?_
      refine lv_imul hx hb dX12_findClouds_43 ?_
      refine lv_sipush (v := 12345) hx hb dX12_findClouds_44 (by decide) ?_
      refine lv_iadd hx hb dX12_findClouds_47 ?_
      refine pp_i (k := 12) (j := 67) (f := 1267) hx hb hown hU iu12 tyX12_ok nmX12 hw Ta0 (by decide) rfl (hU _ tw1538) rfl rfl rfl dX12_findClouds_48 (fun H locs hw => ?_)
      obtain ⟨S_2, eS_2, hm⟩ := lt_some hm
      rw [← eS_2] at hw
      have Ta0 : TY S_2 a0 12 := by rw [eS_2]; exact Ta0
      have hE : Ext S0 S_2 := by rw [eS_2]; exact hE
      refine lv_aload_n hx hb dX12_findClouds_51 rfl (lv_at hl 0 rfl) ?_
      refine pg_i (k := 12) (j := 67) (f := 1267) hx hb hown hU iu12 hw Ta0 (by decide) rfl (hU _ tw1538) rfl dX12_findClouds_52 ?_
      refine lv_bipush (v := 16) hx hb dX12_findClouds_55 (by decide) ?_
      refine lv_ishr hx hb dX12_findClouds_57 ?_
      refine lv_sipush (v := 32767) hx hb dX12_findClouds_58 (by decide) ?_
      refine lv_iand hx hb dX12_findClouds_61 ?_
      refine lv_bipush (v := 16) hx hb dX12_findClouds_62 (by decide) ?_
      refine lv_irem hx hb dX12_findClouds_64 (by decide) ?_
      refine lv_iload_n hx hb dX12_findClouds_65 rfl (lv_at hl 1 rfl) ?_
      refine lv_icmp_ge (tgt := 73) hx hb dX12_findClouds_66 (by decide) (fun h3 => ?_) (fun h3 => ?_)
      · rw [if_pos h3] at hm
        refine lv_iconst (v := 0) hx hb dX12_findClouds_73 (by decide) ?_
        exact wb_X12_findClouds_74 cx C X S0 n S1 _ ih a0 x2 x3 x4 x5 x6 0 S_2 _ _ _ hw hE Ta0 (lv_sub hl [0, 1, 2, 3, 4, 5] rfl) hm
      · rw [if_neg h3] at hm
        refine lv_iconst (v := 1) hx hb dX12_findClouds_69 (by decide) ?_
        refine lv_goto (tgt := 74) hx hb dX12_findClouds_70 (by decide) ?_
        exact wb_X12_findClouds_74 cx C X S0 n S1 _ ih a0 x2 x3 x4 x5 x6 1 S_2 _ _ _ hw hE Ta0 (lv_sub hl [0, 1, 2, 3, 4, 5] rfl) hm
def m_X12_findClouds (n : Nat) (a0 : Nat) (x1 : Int32) (x2 : Int32) (x3 : Int32) (x4 : Int32) (S0 : pq_S) : Option pq_S := b_X12_findClouds_26 n n a0 x2 x3 x4 0 x3 (sI (sI (sI (sI S0 1267 a0 x1) 1268 a0 0) 1269 a0 0) 1270 a0 0)
theorem tc_X12_findClouds : Cond.code yX12_findClouds cX12_findClouds 9 none ∈ pq_U := tw2107
theorem cd_X12_findClouds : yX12_findClouds.cls = RX12 ∧ yX12_findClouds.cls ≠ "java/lang/invoke/MethodHandle" ∧ yX12_findClouds.cls ≠ "java/lang/invoke/VarHandle" ∧ (parseMethodDescriptor yX12_findClouds.desc).map (fun d => d.parameters.length) = some 4 := by decide +kernel
set_option maxHeartbeats 4000000 in
set_option maxRecDepth 100000 in
theorem c_X12_findClouds (l : Launch) (C : pq_C) (X : va_W) (n : Nat) (S0 : pq_S) (hF : WF S0) (sz : Nat) (a0 : Nat) (x1 : Int32) (x2 : Int32) (x3 : Int32) (x4 : Int32) (Ta0 : TY S0 a0 12) (S1 : pq_S) (hm : m_X12_findClouds n a0 x1 x2 x3 x4 S0 = some S1) : MV l yX12_findClouds (.code yX12_findClouds cX12_findClouds 9 none :: pq_U) rm_X12_findClouds C X S0 sz [.ref a0, .int x1, .int x2, .int x3, .int x4] S1 0 0 := by
  refine Met.ofW (cc := cX12_findClouds) (maxL := 9) (ret := none) (by decide) rfl ?_
  intro p e s m args below meth c s₁ B hml hv
  obtain ⟨rfl, hv⟩ := hv
  have hsz := hv.1
  subst hsz
  have hw := pw_entry hF hv
  have hts := atoms_spec (ws := .code yX12_findClouds cX12_findClouds 9 none :: pq_U) B.pre
  have hU : ∀ w ∈ pq_U, w.before _ s = true := fun w h => hts w (List.mem_cons_of_mem _ h)
  have hx := B.exec
  have hb := B.bytes
  have hr := B.returns
  have hown : s.vm.findClass RX12 = some m.cls := findClass_of_methodNamed B.named
  have hlk := B.notSynchronized
  have hl := lv_entry ([.ref a0, .int x1, .int x2, .int x3, .int x4]) (n := 9) (Nat.le_of_ble_eq_true rfl)
  rw [lg_entry_eq]
  generalize (lg_sl ([.ref a0, .int x1, .int x2, .int x3, .int x4]) ++ List.replicate (9 - (lg_sl ([.ref a0, .int x1, .int x2, .int x3, .int x4])).length) Slot.unset).toArray = ls at hl ⊢
  have hl : lv_has ls 9 [(0, .ref a0), (1, .int x1), (2, .int x2), (3, .int x3), (4, .int x4)] := hl
  have hE : Ext S0 S0 := Ext.rf _
  have cx : Cx p s m _ meth c cX12_findClouds 9 RX12 none := ⟨hx, hb, hml, hown, hU, hr, hlk⟩
  rw [m_X12_findClouds] at hm
  refine lv_aload_n hx hb dX12_findClouds_0 rfl (lv_at hl 0 rfl) ?_
  refine lv_iload_n hx hb dX12_findClouds_1 rfl (lv_at hl 1 rfl) ?_
  refine pp_i (k := 12) (j := 67) (f := 1267) hx hb hown hU iu12 tyX12_ok nmX12 hw Ta0 (by decide) rfl (hU _ tw1538) rfl rfl rfl dX12_findClouds_2 (fun H locs hw => ?_)
  refine lv_aload_n hx hb dX12_findClouds_5 rfl (lv_at hl 0 rfl) ?_
  refine lv_iconst (v := 0) hx hb dX12_findClouds_6 (by decide) ?_
  refine pp_i (k := 12) (j := 68) (f := 1268) hx hb hown hU iu12 tyX12_ok nmX12 hw Ta0 (by decide) rfl (hU _ tw1539) rfl rfl rfl dX12_findClouds_7 (fun H locs hw => ?_)
  refine lv_aload_n hx hb dX12_findClouds_10 rfl (lv_at hl 0 rfl) ?_
  refine lv_iconst (v := 0) hx hb dX12_findClouds_11 (by decide) ?_
  refine pp_i (k := 12) (j := 69) (f := 1269) hx hb hown hU iu12 tyX12_ok nmX12 hw Ta0 (by decide) rfl (hU _ tw1540) rfl rfl rfl dX12_findClouds_12 (fun H locs hw => ?_)
  refine lv_aload_n hx hb dX12_findClouds_15 rfl (lv_at hl 0 rfl) ?_
  refine lv_iconst (v := 0) hx hb dX12_findClouds_16 (by decide) ?_
  refine pp_i (k := 12) (j := 70) (f := 1270) hx hb hown hU iu12 tyX12_ok nmX12 hw Ta0 (by decide) rfl (hU _ tw1541) rfl rfl rfl dX12_findClouds_17 (fun H locs hw => ?_)
  refine lv_iconst (v := 0) hx hb dX12_findClouds_20 (by decide) ?_
  refine lv_istore (lv' := [(5, .int 0), (0, .ref a0), (1, .int x1), (2, .int x2), (3, .int x3), (4, .int x4)]) hx hb dX12_findClouds_21 hl (by decide) rfl (fun ls hl => ?_)
  refine lv_iload_n hx hb dX12_findClouds_23 rfl (lv_at hl 4 rfl) ?_
  refine lv_istore (lv' := [(6, .int x3), (5, .int 0), (0, .ref a0), (1, .int x1), (2, .int x2), (3, .int x3), (4, .int x4)]) hx hb dX12_findClouds_24 hl (by decide) rfl (fun ls hl => ?_)
  exact wb_X12_findClouds_26 cx C X S0 n S1 n a0 x2 x3 x4 0 x3 (sI (sI (sI (sI S0 1267 a0 x1) 1268 a0 0) 1269 a0 0) 1270 a0 0) _ _ _ hw hE Ta0 (lv_sub hl [2, 4, 5, 6, 1, 0] rfl) hm
abbrev rm_X12_isCloudy : Room := { frames := 1, cells := 0, slots := 0, locals := 20 }
def m_X12_isCloudy (n : Nat) (x0 : Int32) (x1 : Int32) (x2 : Int32) (S0 : pq_S) : Option (Int32 × pq_S) := if x0 < 0 then some (0, S0) else if 16 < x0 then some (0, S0) else cb (m_X12_isDay n x1 S0) fun r5 S_3 => if r5 = 0 then some (0, S_3) else if x2 < 1 then some (0, S_3) else if 60 < x2 then some (0, S_3) else some (1, S_3)
theorem tc_X12_isCloudy : Cond.code yX12_isCloudy cX12_isCloudy 3 (some .boolean) ∈ pq_U := tw2103
theorem cd_X12_isCloudy : yX12_isCloudy.cls = RX12 ∧ yX12_isCloudy.cls ≠ "java/lang/invoke/MethodHandle" ∧ yX12_isCloudy.cls ≠ "java/lang/invoke/VarHandle" ∧ (parseMethodDescriptor yX12_isCloudy.desc).map (fun d => d.parameters.length) = some 3 := by decide +kernel
set_option maxHeartbeats 4000000 in
set_option maxRecDepth 100000 in
theorem c_X12_isCloudy (l : Launch) (C : pq_C) (X : va_W) (n : Nat) (S0 : pq_S) (hF : WF S0) (sz : Nat) (x0 : Int32) (x1 : Int32) (x2 : Int32)  (r : Int32) (S1 : pq_S) (hm : m_X12_isCloudy n x0 x1 x2 S0 = some (r, S1)) : MZ l yX12_isCloudy (.code yX12_isCloudy cX12_isCloudy 3 (some .boolean) :: pq_U) rm_X12_isCloudy C X S0 sz [.int x0, .int x1, .int x2] r S1 0 0 := by
  refine Met.ofW (cc := cX12_isCloudy) (maxL := 3) (ret := (some .boolean)) (by decide) rfl ?_
  intro p e s m args below meth c s₁ B hml hv
  obtain ⟨rfl, hv⟩ := hv
  have hsz := hv.1
  subst hsz
  have hw := pw_entry hF hv
  have hts := atoms_spec (ws := .code yX12_isCloudy cX12_isCloudy 3 (some .boolean) :: pq_U) B.pre
  have hU : ∀ w ∈ pq_U, w.before _ s = true := fun w h => hts w (List.mem_cons_of_mem _ h)
  have hx := B.exec
  have hb := B.bytes
  have hr := B.returns
  have hown : s.vm.findClass RX12 = some m.cls := findClass_of_methodNamed B.named
  have hlk := B.notSynchronized
  have hl := lv_entry ([.int x0, .int x1, .int x2]) (n := 3) (Nat.le_of_ble_eq_true rfl)
  rw [lg_entry_eq]
  generalize (lg_sl ([.int x0, .int x1, .int x2]) ++ List.replicate (3 - (lg_sl ([.int x0, .int x1, .int x2])).length) Slot.unset).toArray = ls at hl ⊢
  have hl : lv_has ls 3 [(0, .int x0), (1, .int x1), (2, .int x2)] := hl
  have hE : Ext S0 S0 := Ext.rf _
  have cx : Cx p s m _ meth c cX12_isCloudy 3 RX12 (some .boolean) := ⟨hx, hb, hml, hown, hU, hr, hlk⟩
  rw [m_X12_isCloudy] at hm
  refine lv_iload_n hx hb dX12_isCloudy_0 rfl (lv_at hl 0 rfl) ?_
  refine lv_if_lt (tgt := 32) hx hb dX12_isCloudy_1 (by decide) (fun h1 => ?_) (fun h1 => ?_)
  · rw [if_pos h1] at hm
    refine lv_iconst (v := 0) hx hb dX12_isCloudy_32 (by decide) ?_
    cases hm
    exact pw_zret hx hb hr bz_0 hlk hw hE dX12_isCloudy_33
  · rw [if_neg h1] at hm
    refine lv_iload_n hx hb dX12_isCloudy_4 rfl (lv_at hl 0 rfl) ?_
    refine lv_bipush (v := 16) hx hb dX12_isCloudy_5 (by decide) ?_
    refine lv_icmp_gt (tgt := 32) hx hb dX12_isCloudy_7 (by decide) (fun h2 => ?_) (fun h2 => ?_)
    · rw [if_pos h2] at hm
      refine lv_iconst (v := 0) hx hb dX12_isCloudy_32 (by decide) ?_
      cases hm
      exact pw_zret hx hb hr bz_0 hlk hw hE dX12_isCloudy_33
    · rw [if_neg h2] at hm
      refine lv_iload_n hx hb dX12_isCloudy_10 rfl (lv_at hl 1 rfl) ?_
      obtain ⟨r5, S_3, hq4, hm⟩ := cb_some hm
      refine pw_cz (va_runS (As := [.int x1]) (rest := []) ⟨hx, hb, hml, hown, hU⟩ (c_X12_isDay l C X n S0 hw.wf _ x1  r5 S_3 hq4) ⟨callB_of 1 hU (pq_g1 tc_X12_isDay) rfl rfl rfl (hU _ tw14) (hU _ tw2074) cd_X12_isDay.2 ⟨Nat.le_of_ble_eq_true rfl, Nat.le_of_ble_eq_true rfl⟩, hU _ tw2075⟩ (pw_preS hw) rfl rfl hl.1 rfl (lv_room (Nat.le_of_ble_eq_true rfl)) dX12_isCloudy_11 ⟨Nat.zero_le _, Nat.zero_le _⟩) hw (fun H locs hw hx6 hz7 => ?_)
      have hE : Ext S0 S_3 := Ext.tr hE hx6
      refine lv_if_eq (tgt := 32) hx hb dX12_isCloudy_14 (by decide) (fun h8 => ?_) (fun h8 => ?_)
      · rw [if_pos h8] at hm
        refine lv_iconst (v := 0) hx hb dX12_isCloudy_32 (by decide) ?_
        cases hm
        exact pw_zret hx hb hr bz_0 hlk hw hE dX12_isCloudy_33
      · rw [if_neg h8] at hm
        refine lv_iload_n hx hb dX12_isCloudy_17 rfl (lv_at hl 2 rfl) ?_
        refine lv_iconst (v := 1) hx hb dX12_isCloudy_18 (by decide) ?_
        refine lv_icmp_lt (tgt := 32) hx hb dX12_isCloudy_19 (by decide) (fun h9 => ?_) (fun h9 => ?_)
        · rw [if_pos h9] at hm
          refine lv_iconst (v := 0) hx hb dX12_isCloudy_32 (by decide) ?_
          cases hm
          exact pw_zret hx hb hr bz_0 hlk hw hE dX12_isCloudy_33
        · rw [if_neg h9] at hm
          refine lv_iload_n hx hb dX12_isCloudy_22 rfl (lv_at hl 2 rfl) ?_
          refine lv_bipush (v := 60) hx hb dX12_isCloudy_23 (by decide) ?_
          refine lv_icmp_gt (tgt := 32) hx hb dX12_isCloudy_25 (by decide) (fun h10 => ?_) (fun h10 => ?_)
          · rw [if_pos h10] at hm
            refine lv_iconst (v := 0) hx hb dX12_isCloudy_32 (by decide) ?_
            cases hm
            exact pw_zret hx hb hr bz_0 hlk hw hE dX12_isCloudy_33
          · rw [if_neg h10] at hm
            refine lv_iconst (v := 1) hx hb dX12_isCloudy_28 (by decide) ?_
            refine lv_goto (tgt := 33) hx hb dX12_isCloudy_29 (by decide) ?_
            cases hm
            exact pw_zret hx hb hr bz_1 hlk hw hE dX12_isCloudy_33
abbrev rm_X12_clouds : Room := { frames := 2, cells := 0, slots := 0, locals := 51 }
def b_X12_clouds_31 (n : Nat) (a0 : Nat) (x1 : Int32) (x2 : Int32) (x3 : Int32) (x4 : Int32) (x5 : Int32) (b0 : Nat) (z1 : Int32) (S : pq_S) : Option (Int32 × pq_S) := cb (m_X12_may n b0 z1 1 1 S) fun r15 S_13 => if r15 = 0 then some (0, S_13) else Option.bind (m_X12_findClouds n a0 x1 x2 x3 x4 S_13) fun S_19 => if x5 = 0 then some ((pI S_19 1268 a0), S_19) else if x5 = 1 then some ((pI S_19 1269 a0), S_19) else some ((pI S_19 1270 a0), S_19)
set_option maxHeartbeats 4000000 in
set_option maxRecDepth 100000 in
theorem wb_X12_clouds_31 {p : Program} {l : Launch} {e : Env} {s : State} {m : MethodId} {args : Array Value} {below : List Frame} {meth : Method} {c : Code} (cx : Cx p s m args meth c cX12_clouds 6 RX12 (some .int)) (C : pq_C) (X : va_W) (S0 : pq_S) (n : Nat) (r : Int32) (S1 : pq_S) : ∀ (a0 : Nat) (x1 : Int32) (x2 : Int32) (x3 : Int32) (x4 : Int32) (x5 : Int32) (b0 : Nat) (z1 : Int32) (S : pq_S) (H : Heap) (locs : List Loc) (ls : Array Slot), PW C X S (pq_F C X S0 s.heap.size) H locs s → Ext S0 S → TY S a0 12 → TY S b0 12 → lv_has ls 6 [(0, .ref a0), (1, .int x1), (2, .int x2), (3, .int x3), (4, .int x4), (5, .int x5)] → b_X12_clouds_31 n a0 x1 x2 x3 x4 x5 b0 z1 S = some (r, S1) → W p l e rm_X12_clouds s m args below meth c H locs 0 0 (MQ below (QcI C X S0 s.heap.size r S1) args s 0 0 (pq_F C X S0 s.heap.size)) (F0 m 31 ls [.int z1, .ref b0]) := by
  obtain ⟨hx, hb, hml, hown, hU, hr, hlk⟩ := id cx
  intro a0 x1 x2 x3 x4 x5 b0 z1 S H locs ls hw hE Ta0 Tb0 hl hm
  rw [b_X12_clouds_31] at hm
  refine lv_iconst (v := 1) hx hb dX12_clouds_31 (by decide) ?_
  refine lv_iconst (v := 1) hx hb dX12_clouds_32 (by decide) ?_
  obtain ⟨r15, S_13, hq14, hm⟩ := cb_some hm
  refine pw_cz (va_runV (As := [.int z1, .int 1, .int 1]) (rest := []) ⟨hx, hb, hml, hown, hU⟩ (c_X12_may l C X n S hw.wf _ b0 z1 1 1 (Tb0) r15 S_13 hq14) (cwV 3 hU (pq_gV tw1703 tw1705 ts123 tw14 tc_X12_may) rfl rfl rfl cd_X12_may ⟨Nat.le_of_ble_eq_true rfl, Nat.le_of_ble_eq_true rfl⟩) (pw_preV hw Tb0 (by decide) rfl) rfl rfl hl.1 rfl (lv_room (Nat.le_of_ble_eq_true rfl)) dX12_clouds_33 ⟨Nat.zero_le _, Nat.zero_le _⟩) hw (fun H locs hw hx16 hz17 => ?_)
  have Ta0 : TY S_13 a0 12 := ty_ext hx16 Ta0
  have hE : Ext S0 S_13 := Ext.tr hE hx16
  refine lv_if_ne (tgt := 41) hx hb dX12_clouds_36 (by decide) (fun h18 => ?_) (fun h18 => ?_)
  · rw [if_neg h18] at hm
    refine lv_aload_n hx hb dX12_clouds_41 rfl (lv_at hl 0 rfl) ?_
    refine lv_iload_n hx hb dX12_clouds_42 rfl (lv_at hl 1 rfl) ?_
    refine lv_iload_n hx hb dX12_clouds_43 rfl (lv_at hl 2 rfl) ?_
    refine lv_iload_n hx hb dX12_clouds_44 rfl (lv_at hl 3 rfl) ?_
    refine lv_iload hx hb dX12_clouds_45 (lv_at hl 4 rfl) ?_
    obtain ⟨S_19, hq20, hm⟩ := bd_some hm
    refine pw_cv (va_runV (As := [.int x1, .int x2, .int x3, .int x4]) (rest := []) ⟨hx, hb, hml, hown, hU⟩ (c_X12_findClouds l C X n S_13 hw.wf _ a0 x1 x2 x3 x4 (Ta0) S_19 hq20) (cwV 4 hU (pq_gV tw2104 tw2106 ts178 tw14 tc_X12_findClouds) rfl rfl rfl cd_X12_findClouds ⟨Nat.le_of_ble_eq_true rfl, Nat.le_of_ble_eq_true rfl⟩) (pw_preV hw Ta0 (by decide) rfl) rfl rfl hl.1 rfl (lv_room (Nat.le_of_ble_eq_true rfl)) dX12_clouds_47 ⟨Nat.zero_le _, Nat.zero_le _⟩) hw (fun H locs hw hx21 => ?_)
    have Ta0 : TY S_19 a0 12 := ty_ext hx21 Ta0
    have hE : Ext S0 S_19 := Ext.tr hE hx21
    refine lv_iload hx hb dX12_clouds_50 (lv_at hl 5 rfl) ?_
    refine lv_if_ne (tgt := 62) hx hb dX12_clouds_52 (by decide) (fun h22 => ?_) (fun h22 => ?_)
    · rw [if_neg h22] at hm
      refine lv_iload hx hb dX12_clouds_62 (lv_at hl 5 rfl) ?_
      refine lv_iconst (v := 1) hx hb dX12_clouds_64 (by decide) ?_
      refine lv_icmp_ne (tgt := 75) hx hb dX12_clouds_65 (by decide) (fun h23 => ?_) (fun h23 => ?_)
      · rw [if_neg h23] at hm
        refine lv_aload_n hx hb dX12_clouds_75 rfl (lv_at hl 0 rfl) ?_
        refine pg_i (k := 12) (j := 70) (f := 1270) hx hb hown hU iu12 hw Ta0 (by decide) rfl (hU _ tw1541) rfl dX12_clouds_76 ?_
        cases hm
        exact pw_iret hx hb hr rfl hlk hw hE dX12_clouds_79
      · rw [if_pos h23] at hm
        refine lv_aload_n hx hb dX12_clouds_68 rfl (lv_at hl 0 rfl) ?_
        refine pg_i (k := 12) (j := 69) (f := 1269) hx hb hown hU iu12 hw Ta0 (by decide) rfl (hU _ tw1540) rfl dX12_clouds_69 ?_
        refine lv_goto (tgt := 79) hx hb dX12_clouds_72 (by decide) ?_
        cases hm
        exact pw_iret hx hb hr rfl hlk hw hE dX12_clouds_79
    · rw [if_pos h22] at hm
      refine lv_aload_n hx hb dX12_clouds_55 rfl (lv_at hl 0 rfl) ?_
      refine pg_i (k := 12) (j := 68) (f := 1268) hx hb hown hU iu12 hw Ta0 (by decide) rfl (hU _ tw1539) rfl dX12_clouds_56 ?_
      refine lv_goto (tgt := 79) hx hb dX12_clouds_59 (by decide) ?_
      cases hm
      exact pw_iret hx hb hr rfl hlk hw hE dX12_clouds_79
  · rw [if_pos h18] at hm
    refine lv_iconst (v := 0) hx hb dX12_clouds_39 (by decide) ?_
    cases hm
    exact pw_iret hx hb hr rfl hlk hw hE dX12_clouds_40
def b_X12_clouds_30 (n : Nat) (a0 : Nat) (x1 : Int32) (x2 : Int32) (x3 : Int32) (x4 : Int32) (x5 : Int32) (b0 : Nat) (S : pq_S) : Option (Int32 × pq_S) := b_X12_clouds_31 n a0 x1 x2 x3 x4 x5 b0 0 S
set_option maxHeartbeats 4000000 in
set_option maxRecDepth 100000 in
theorem wb_X12_clouds_30 {p : Program} {l : Launch} {e : Env} {s : State} {m : MethodId} {args : Array Value} {below : List Frame} {meth : Method} {c : Code} (cx : Cx p s m args meth c cX12_clouds 6 RX12 (some .int)) (C : pq_C) (X : va_W) (S0 : pq_S) (n : Nat) (r : Int32) (S1 : pq_S) : ∀ (a0 : Nat) (x1 : Int32) (x2 : Int32) (x3 : Int32) (x4 : Int32) (x5 : Int32) (b0 : Nat) (S : pq_S) (H : Heap) (locs : List Loc) (ls : Array Slot), PW C X S (pq_F C X S0 s.heap.size) H locs s → Ext S0 S → TY S a0 12 → TY S b0 12 → lv_has ls 6 [(0, .ref a0), (1, .int x1), (2, .int x2), (3, .int x3), (4, .int x4), (5, .int x5)] → b_X12_clouds_30 n a0 x1 x2 x3 x4 x5 b0 S = some (r, S1) → W p l e rm_X12_clouds s m args below meth c H locs 0 0 (MQ below (QcI C X S0 s.heap.size r S1) args s 0 0 (pq_F C X S0 s.heap.size)) (F0 m 30 ls [.ref b0]) := by
  obtain ⟨hx, hb, hml, hown, hU, hr, hlk⟩ := id cx
  intro a0 x1 x2 x3 x4 x5 b0 S H locs ls hw hE Ta0 Tb0 hl hm
  rw [b_X12_clouds_30] at hm
  refine lv_iconst (v := 0) hx hb dX12_clouds_30 (by decide) ?_
  exact wb_X12_clouds_31 cx C X S0 n r S1 a0 x1 x2 x3 x4 x5 b0 0 S _ _ _ hw hE Ta0 Tb0 (lv_sub hl [0, 1, 2, 3, 4, 5] rfl) hm
def m_X12_clouds (n : Nat) (a0 : Nat) (x1 : Int32) (x2 : Int32) (x3 : Int32) (x4 : Int32) (x5 : Int32) (S0 : pq_S) : Option (Int32 × pq_S) := cb (m_X12_isCloudy n x2 x3 x4 (sI S0 1200 a0 0)) fun r3 S_1 => if r3 = 0 then b_X12_clouds_30 n a0 x1 x2 x3 x4 x5 a0 S_1 else cb (m_X12_within n x5 0 2 S_1) fun r9 S_7 => if r9 = 0 then b_X12_clouds_30 n a0 x1 x2 x3 x4 x5 a0 S_7 else b_X12_clouds_31 n a0 x1 x2 x3 x4 x5 a0 1 S_7
theorem tc_X12_clouds : Cond.code yX12_clouds cX12_clouds 6 (some .int) ∈ pq_U := tw2100
theorem cd_X12_clouds : yX12_clouds.cls = RX12 ∧ yX12_clouds.cls ≠ "java/lang/invoke/MethodHandle" ∧ yX12_clouds.cls ≠ "java/lang/invoke/VarHandle" ∧ (parseMethodDescriptor yX12_clouds.desc).map (fun d => d.parameters.length) = some 5 := by decide +kernel
set_option maxHeartbeats 4000000 in
set_option maxRecDepth 100000 in
theorem c_X12_clouds (l : Launch) (C : pq_C) (X : va_W) (n : Nat) (S0 : pq_S) (hF : WF S0) (sz : Nat) (a0 : Nat) (x1 : Int32) (x2 : Int32) (x3 : Int32) (x4 : Int32) (x5 : Int32) (Ta0 : TY S0 a0 12) (r : Int32) (S1 : pq_S) (hm : m_X12_clouds n a0 x1 x2 x3 x4 x5 S0 = some (r, S1)) : MI l yX12_clouds (.code yX12_clouds cX12_clouds 6 (some .int) :: pq_U) rm_X12_clouds C X S0 sz [.ref a0, .int x1, .int x2, .int x3, .int x4, .int x5] r S1 0 0 := by
  refine Met.ofW (cc := cX12_clouds) (maxL := 6) (ret := (some .int)) (by decide) rfl ?_
  intro p e s m args below meth c s₁ B hml hv
  obtain ⟨rfl, hv⟩ := hv
  have hsz := hv.1
  subst hsz
  have hw := pw_entry hF hv
  have hts := atoms_spec (ws := .code yX12_clouds cX12_clouds 6 (some .int) :: pq_U) B.pre
  have hU : ∀ w ∈ pq_U, w.before _ s = true := fun w h => hts w (List.mem_cons_of_mem _ h)
  have hx := B.exec
  have hb := B.bytes
  have hr := B.returns
  have hown : s.vm.findClass RX12 = some m.cls := findClass_of_methodNamed B.named
  have hlk := B.notSynchronized
  have hl := lv_entry ([.ref a0, .int x1, .int x2, .int x3, .int x4, .int x5]) (n := 6) (Nat.le_of_ble_eq_true rfl)
  rw [lg_entry_eq]
  generalize (lg_sl ([.ref a0, .int x1, .int x2, .int x3, .int x4, .int x5]) ++ List.replicate (6 - (lg_sl ([.ref a0, .int x1, .int x2, .int x3, .int x4, .int x5])).length) Slot.unset).toArray = ls at hl ⊢
  have hl : lv_has ls 6 [(0, .ref a0), (1, .int x1), (2, .int x2), (3, .int x3), (4, .int x4), (5, .int x5)] := hl
  have hE : Ext S0 S0 := Ext.rf _
  have cx : Cx p s m _ meth c cX12_clouds 6 RX12 (some .int) := ⟨hx, hb, hml, hown, hU, hr, hlk⟩
  rw [m_X12_clouds] at hm
  refine lv_aload_n hx hb dX12_clouds_0 rfl (lv_at hl 0 rfl) ?_
  refine lv_iconst (v := 0) hx hb dX12_clouds_1 (by decide) ?_
  refine pp_i (k := 12) (j := 0) (f := 1200) hx hb hown hU iu12 tyX12_ok nmX12 hw Ta0 (by decide) rfl (hU _ tw1471) rfl rfl rfl dX12_clouds_2 (fun H locs hw => ?_)
  refine lv_aload_n hx hb dX12_clouds_5 rfl (lv_at hl 0 rfl) ?_
  refine lv_iload_n hx hb dX12_clouds_6 rfl (lv_at hl 2 rfl) ?_
  refine lv_iload_n hx hb dX12_clouds_7 rfl (lv_at hl 3 rfl) ?_
  refine lv_iload hx hb dX12_clouds_8 (lv_at hl 4 rfl) ?_
  obtain ⟨r3, S_1, hq2, hm⟩ := cb_some hm
  refine pw_cz (va_runS (As := [.int x2, .int x3, .int x4]) (rest := [.ref a0]) ⟨hx, hb, hml, hown, hU⟩ (c_X12_isCloudy l C X n (sI S0 1200 a0 0) hw.wf _ x2 x3 x4  r3 S_1 hq2) ⟨callB_of 3 hU (pq_g1 tc_X12_isCloudy) rfl rfl rfl (hU _ tw14) (hU _ tw2101) cd_X12_isCloudy.2 ⟨Nat.le_of_ble_eq_true rfl, Nat.le_of_ble_eq_true rfl⟩, hU _ tw2102⟩ (pw_preS hw) rfl rfl hl.1 rfl (lv_room (Nat.le_of_ble_eq_true rfl)) dX12_clouds_10 ⟨Nat.zero_le _, Nat.zero_le _⟩) hw (fun H locs hw hx4 hz5 => ?_)
  have Ta0 : TY S_1 a0 12 := ty_ext hx4 Ta0
  have hE : Ext S0 S_1 := Ext.tr hE hx4
  refine lv_if_eq (tgt := 30) hx hb dX12_clouds_13 (by decide) (fun h6 => ?_) (fun h6 => ?_)
  · rw [if_pos h6] at hm
    exact wb_X12_clouds_30 cx C X S0 n r S1 a0 x1 x2 x3 x4 x5 a0 S_1 _ _ _ hw hE Ta0 Ta0 (lv_sub hl [0, 1, 2, 3, 4, 5] rfl) hm
  · rw [if_neg h6] at hm
    refine lv_iload hx hb dX12_clouds_16 (lv_at hl 5 rfl) ?_
    refine lv_iconst (v := 0) hx hb dX12_clouds_18 (by decide) ?_
    refine lv_iconst (v := 2) hx hb dX12_clouds_19 (by decide) ?_
    obtain ⟨r9, S_7, hq8, hm⟩ := cb_some hm
    refine pw_cz (va_runS (As := [.int x5, .int 0, .int 2]) (rest := [.ref a0]) ⟨hx, hb, hml, hown, hU⟩ (c_X12_within l C X n S_1 hw.wf _ x5 0 2  r9 S_7 hq8) ⟨callB_of 3 hU (pq_g1 tc_X12_within) rfl rfl rfl (hU _ tw14) (hU _ tw1776) cd_X12_within.2 ⟨Nat.le_of_ble_eq_true rfl, Nat.le_of_ble_eq_true rfl⟩, hU _ tw1777⟩ (pw_preS hw) rfl rfl hl.1 rfl (lv_room (Nat.le_of_ble_eq_true rfl)) dX12_clouds_20 ⟨Nat.zero_le _, Nat.zero_le _⟩) hw (fun H locs hw hx10 hz11 => ?_)
    have Ta0 : TY S_7 a0 12 := ty_ext hx10 Ta0
    have hE : Ext S0 S_7 := Ext.tr hE hx10
    refine lv_if_eq (tgt := 30) hx hb dX12_clouds_23 (by decide) (fun h12 => ?_) (fun h12 => ?_)
    · rw [if_pos h12] at hm
      exact wb_X12_clouds_30 cx C X S0 n r S1 a0 x1 x2 x3 x4 x5 a0 S_7 _ _ _ hw hE Ta0 Ta0 (lv_sub hl [0, 1, 2, 3, 4, 5] rfl) hm
    · rw [if_neg h12] at hm
      refine lv_iconst (v := 1) hx hb dX12_clouds_26 (by decide) ?_
      refine lv_goto (tgt := 31) hx hb dX12_clouds_27 (by decide) ?_
      exact wb_X12_clouds_31 cx C X S0 n r S1 a0 x1 x2 x3 x4 x5 a0 1 S_7 _ _ _ hw hE Ta0 Ta0 (lv_sub hl [0, 1, 2, 3, 4, 5] rfl) hm
abbrev rm_X12_span : Room := { frames := 2, cells := 0, slots := 0, locals := 51 }
def b_X12_span_127 (n : Nat) (k36 : Nat → Int32 → Int32 → Int32 → Int32 → Int32 → Int32 → Int32 → Int32 → Int32 → Int32 → pq_S → Option (Int32 × pq_S)) (a0 : Nat) (x1 : Int32) (x2 : Int32) (x3 : Int32) (x4 : Int32) (x5 : Int32) (x6 : Int32) (x7 : Int32) (x9 : Int32) (x10 : Int32) (z0 : Int32) (S : pq_S) : Option (Int32 × pq_S) := k36 a0 x1 x2 x3 x4 x5 x6 x7 z0 (x9 + (pI S 1268 a0)) (x10 + 1) S
set_option maxHeartbeats 4000000 in
set_option maxRecDepth 100000 in
theorem wb_X12_span_127 {p : Program} {l : Launch} {e : Env} {s : State} {m : MethodId} {args : Array Value} {below : List Frame} {meth : Method} {c : Code} (cx : Cx p s m args meth c cX12_span 11 RX12 (some .int)) (C : pq_C) (X : va_W) (S0 : pq_S) (n : Nat) (r : Int32) (S1 : pq_S) (k36 : Nat → Int32 → Int32 → Int32 → Int32 → Int32 → Int32 → Int32 → Int32 → Int32 → Int32 → pq_S → Option (Int32 × pq_S)) (hk36 : ∀ (a0 : Nat) (x1 : Int32) (x2 : Int32) (x3 : Int32) (x4 : Int32) (x5 : Int32) (x6 : Int32) (x7 : Int32) (x8 : Int32) (x9 : Int32) (x10 : Int32) (S : pq_S) (H : Heap) (locs : List Loc) (ls : Array Slot), PW C X S (pq_F C X S0 s.heap.size) H locs s → Ext S0 S → TY S a0 12 → lv_has ls 11 [(0, .ref a0), (1, .int x1), (2, .int x2), (3, .int x3), (4, .int x4), (5, .int x5), (6, .int x6), (7, .int x7), (8, .int x8), (9, .int x9), (10, .int x10)] → k36 a0 x1 x2 x3 x4 x5 x6 x7 x8 x9 x10 S = some (r, S1) → W p l e rm_X12_span s m args below meth c H locs 0 0 (MQ below (QcI C X S0 s.heap.size r S1) args s 0 0 (pq_F C X S0 s.heap.size)) (F0 m 64 ls [])) : ∀ (a0 : Nat) (x1 : Int32) (x2 : Int32) (x3 : Int32) (x4 : Int32) (x5 : Int32) (x6 : Int32) (x7 : Int32) (x9 : Int32) (x10 : Int32) (z0 : Int32) (S : pq_S) (H : Heap) (locs : List Loc) (ls : Array Slot), PW C X S (pq_F C X S0 s.heap.size) H locs s → Ext S0 S → TY S a0 12 → lv_has ls 11 [(0, .ref a0), (1, .int x1), (2, .int x2), (3, .int x3), (4, .int x4), (5, .int x5), (6, .int x6), (7, .int x7), (9, .int x9), (10, .int x10)] → b_X12_span_127 n k36 a0 x1 x2 x3 x4 x5 x6 x7 x9 x10 z0 S = some (r, S1) → W p l e rm_X12_span s m args below meth c H locs 0 0 (MQ below (QcI C X S0 s.heap.size r S1) args s 0 0 (pq_F C X S0 s.heap.size)) (F0 m 127 ls [.int z0]) := by
  obtain ⟨hx, hb, hml, hown, hU, hr, hlk⟩ := id cx
  intro a0 x1 x2 x3 x4 x5 x6 x7 x9 x10 z0 S H locs ls hw hE Ta0 hl hm
  rw [b_X12_span_127] at hm
  refine lv_istore (lv' := [(8, .int z0), (0, .ref a0), (1, .int x1), (2, .int x2), (3, .int x3), (4, .int x4), (5, .int x5), (6, .int x6), (7, .int x7), (9, .int x9), (10, .int x10)]) hx hb dX12_span_127 hl (by decide) rfl (fun ls hl => ?_)
  refine lv_iload hx hb dX12_span_129 (lv_at hl 9 rfl) ?_
  refine lv_aload_n hx hb dX12_span_131 rfl (lv_at hl 1 rfl) ?_
  refine pg_i (k := 12) (j := 68) (f := 1268) hx hb hown hU iu12 hw Ta0 (by decide) rfl (hU _ tw1539) rfl dX12_span_132 ?_
  refine lv_iadd hx hb dX12_span_135 ?_
  refine lv_istore (lv' := [(9, .int (x9 + (pI S 1268 a0))), (8, .int z0), (0, .ref a0), (1, .int x1), (2, .int x2), (3, .int x3), (4, .int x4), (5, .int x5), (6, .int x6), (7, .int x7), (10, .int x10)]) hx hb dX12_span_136 hl (by decide) rfl (fun ls hl => ?_)
  refine lv_iinc (v := (x10 + 1)) (lv' := [(10, .int (x10 + 1)), (9, .int (x9 + (pI S 1268 a0))), (8, .int z0), (0, .ref a0), (1, .int x1), (2, .int x2), (3, .int x3), (4, .int x4), (5, .int x5), (6, .int x6), (7, .int x7)]) hx hb dX12_span_138 hl (k := 10) rfl rfl (by decide) rfl (fun ls hl => ?_)
  refine lv_goto (tgt := 64) hx hb dX12_span_141 (by decide) ?_
  exact hk36 a0 x1 x2 x3 x4 x5 x6 x7 z0 (x9 + (pI S 1268 a0)) (x10 + 1) S _ _ _ hw hE Ta0 (lv_sub hl [3, 4, 5, 6, 7, 8, 9, 10, 2, 1, 0] rfl) hm
def b_X12_span_107 (n : Nat) (k36 : Nat → Int32 → Int32 → Int32 → Int32 → Int32 → Int32 → Int32 → Int32 → Int32 → Int32 → pq_S → Option (Int32 × pq_S)) (a0 : Nat) (x1 : Int32) (x2 : Int32) (x3 : Int32) (x4 : Int32) (x5 : Int32) (x6 : Int32) (x8 : Int32) (x9 : Int32) (x10 : Int32) (z0 : Int32) (S : pq_S) : Option (Int32 × pq_S) := if (pI S 1268 a0) ≤ x8 then b_X12_span_127 n k36 a0 x1 x2 x3 x4 x5 x6 z0 x9 x10 x8 S else b_X12_span_127 n k36 a0 x1 x2 x3 x4 x5 x6 z0 x9 x10 (pI S 1268 a0) S
set_option maxHeartbeats 4000000 in
set_option maxRecDepth 100000 in
theorem wb_X12_span_107 {p : Program} {l : Launch} {e : Env} {s : State} {m : MethodId} {args : Array Value} {below : List Frame} {meth : Method} {c : Code} (cx : Cx p s m args meth c cX12_span 11 RX12 (some .int)) (C : pq_C) (X : va_W) (S0 : pq_S) (n : Nat) (r : Int32) (S1 : pq_S) (k36 : Nat → Int32 → Int32 → Int32 → Int32 → Int32 → Int32 → Int32 → Int32 → Int32 → Int32 → pq_S → Option (Int32 × pq_S)) (hk36 : ∀ (a0 : Nat) (x1 : Int32) (x2 : Int32) (x3 : Int32) (x4 : Int32) (x5 : Int32) (x6 : Int32) (x7 : Int32) (x8 : Int32) (x9 : Int32) (x10 : Int32) (S : pq_S) (H : Heap) (locs : List Loc) (ls : Array Slot), PW C X S (pq_F C X S0 s.heap.size) H locs s → Ext S0 S → TY S a0 12 → lv_has ls 11 [(0, .ref a0), (1, .int x1), (2, .int x2), (3, .int x3), (4, .int x4), (5, .int x5), (6, .int x6), (7, .int x7), (8, .int x8), (9, .int x9), (10, .int x10)] → k36 a0 x1 x2 x3 x4 x5 x6 x7 x8 x9 x10 S = some (r, S1) → W p l e rm_X12_span s m args below meth c H locs 0 0 (MQ below (QcI C X S0 s.heap.size r S1) args s 0 0 (pq_F C X S0 s.heap.size)) (F0 m 64 ls [])) : ∀ (a0 : Nat) (x1 : Int32) (x2 : Int32) (x3 : Int32) (x4 : Int32) (x5 : Int32) (x6 : Int32) (x8 : Int32) (x9 : Int32) (x10 : Int32) (z0 : Int32) (S : pq_S) (H : Heap) (locs : List Loc) (ls : Array Slot), PW C X S (pq_F C X S0 s.heap.size) H locs s → Ext S0 S → TY S a0 12 → lv_has ls 11 [(0, .ref a0), (1, .int x1), (2, .int x2), (3, .int x3), (4, .int x4), (5, .int x5), (6, .int x6), (8, .int x8), (9, .int x9), (10, .int x10)] → b_X12_span_107 n k36 a0 x1 x2 x3 x4 x5 x6 x8 x9 x10 z0 S = some (r, S1) → W p l e rm_X12_span s m args below meth c H locs 0 0 (MQ below (QcI C X S0 s.heap.size r S1) args s 0 0 (pq_F C X S0 s.heap.size)) (F0 m 107 ls [.int z0]) := by
  obtain ⟨hx, hb, hml, hown, hU, hr, hlk⟩ := id cx
  intro a0 x1 x2 x3 x4 x5 x6 x8 x9 x10 z0 S H locs ls hw hE Ta0 hl hm
  rw [b_X12_span_107] at hm
  refine lv_istore (lv' := [(7, .int z0), (0, .ref a0), (1, .int x1), (2, .int x2), (3, .int x3), (4, .int x4), (5, .int x5), (6, .int x6), (8, .int x8), (9, .int x9), (10, .int x10)]) hx hb dX12_span_107 hl (by decide) rfl (fun ls hl => ?_)
  refine lv_aload_n hx hb dX12_span_109 rfl (lv_at hl 1 rfl) ?_
  refine pg_i (k := 12) (j := 68) (f := 1268) hx hb hown hU iu12 hw Ta0 (by decide) rfl (hU _ tw1539) rfl dX12_span_110 ?_
  refine lv_iload hx hb dX12_span_113 (lv_at hl 8 rfl) ?_
  refine lv_icmp_le (tgt := 125) hx hb dX12_span_115 (by decide) (fun h31 => ?_) (fun h31 => ?_)
  · rw [if_pos h31] at hm
    refine lv_iload hx hb dX12_span_125 (lv_at hl 8 rfl) ?_
    exact wb_X12_span_127 cx C X S0 n r S1 _ hk36 a0 x1 x2 x3 x4 x5 x6 z0 x9 x10 x8 S _ _ _ hw hE Ta0 (lv_sub hl [1, 2, 3, 4, 5, 6, 7, 0, 9, 10] rfl) hm
  · rw [if_neg h31] at hm
    refine lv_aload_n hx hb dX12_span_118 rfl (lv_at hl 1 rfl) ?_
    refine pg_i (k := 12) (j := 68) (f := 1268) hx hb hown hU iu12 hw Ta0 (by decide) rfl (hU _ tw1539) rfl dX12_span_119 ?_
    refine lv_goto (tgt := 127) hx hb dX12_span_122 (by decide) ?_
    exact wb_X12_span_127 cx C X S0 n r S1 _ hk36 a0 x1 x2 x3 x4 x5 x6 z0 x9 x10 (pI S 1268 a0) S _ _ _ hw hE Ta0 (lv_sub hl [1, 2, 3, 4, 5, 6, 7, 0, 9, 10] rfl) hm
def b_X12_span_144 (n : Nat) (x6 : Int32) (x7 : Int32) (x8 : Int32) (x9 : Int32) (S : pq_S) : Option (Int32 × pq_S) := if x6 = 0 then some (x7, S) else if x6 = 1 then some (x8, S) else some (x9, S)
set_option maxHeartbeats 4000000 in
set_option maxRecDepth 100000 in
theorem wb_X12_span_144 {p : Program} {l : Launch} {e : Env} {s : State} {m : MethodId} {args : Array Value} {below : List Frame} {meth : Method} {c : Code} (cx : Cx p s m args meth c cX12_span 11 RX12 (some .int)) (C : pq_C) (X : va_W) (S0 : pq_S) (n : Nat) (r : Int32) (S1 : pq_S) : ∀ (x6 : Int32) (x7 : Int32) (x8 : Int32) (x9 : Int32) (S : pq_S) (H : Heap) (locs : List Loc) (ls : Array Slot), PW C X S (pq_F C X S0 s.heap.size) H locs s → Ext S0 S → lv_has ls 11 [(6, .int x6), (7, .int x7), (8, .int x8), (9, .int x9)] → b_X12_span_144 n x6 x7 x8 x9 S = some (r, S1) → W p l e rm_X12_span s m args below meth c H locs 0 0 (MQ below (QcI C X S0 s.heap.size r S1) args s 0 0 (pq_F C X S0 s.heap.size)) (F0 m 144 ls []) := by
  obtain ⟨hx, hb, hml, hown, hU, hr, hlk⟩ := id cx
  intro x6 x7 x8 x9 S H locs ls hw hE hl hm
  rw [b_X12_span_144] at hm
  refine lv_iload hx hb dX12_span_144 (lv_at hl 0 rfl) ?_
  refine lv_if_ne (tgt := 154) hx hb dX12_span_146 (by decide) (fun h32 => ?_) (fun h32 => ?_)
  · rw [if_neg h32] at hm
    refine lv_iload hx hb dX12_span_154 (lv_at hl 0 rfl) ?_
    refine lv_iconst (v := 1) hx hb dX12_span_156 (by decide) ?_
    refine lv_icmp_ne (tgt := 165) hx hb dX12_span_157 (by decide) (fun h33 => ?_) (fun h33 => ?_)
    · rw [if_neg h33] at hm
      refine lv_iload hx hb dX12_span_165 (lv_at hl 3 rfl) ?_
      cases hm
      exact pw_iret hx hb hr rfl hlk hw hE dX12_span_167
    · rw [if_pos h33] at hm
      refine lv_iload hx hb dX12_span_160 (lv_at hl 2 rfl) ?_
      refine lv_goto (tgt := 167) hx hb dX12_span_162 (by decide) ?_
      cases hm
      exact pw_iret hx hb hr rfl hlk hw hE dX12_span_167
  · rw [if_pos h32] at hm
    refine lv_iload hx hb dX12_span_149 (lv_at hl 1 rfl) ?_
    refine lv_goto (tgt := 167) hx hb dX12_span_151 (by decide) ?_
    cases hm
    exact pw_iret hx hb hr rfl hlk hw hE dX12_span_167
def b_X12_span_98 (n : Nat) (k36 : Nat → Int32 → Int32 → Int32 → Int32 → Int32 → Int32 → Int32 → Int32 → Int32 → Int32 → pq_S → Option (Int32 × pq_S)) (a0 : Nat) (x1 : Int32) (x2 : Int32) (x3 : Int32) (x4 : Int32) (x5 : Int32) (x6 : Int32) (x8 : Int32) (x9 : Int32) (x10 : Int32) (S : pq_S) : Option (Int32 × pq_S) := b_X12_span_107 n k36 a0 x1 x2 x3 x4 x5 x6 x8 x9 x10 (pI S 1268 a0) S
set_option maxHeartbeats 4000000 in
set_option maxRecDepth 100000 in
theorem wb_X12_span_98 {p : Program} {l : Launch} {e : Env} {s : State} {m : MethodId} {args : Array Value} {below : List Frame} {meth : Method} {c : Code} (cx : Cx p s m args meth c cX12_span 11 RX12 (some .int)) (C : pq_C) (X : va_W) (S0 : pq_S) (n : Nat) (r : Int32) (S1 : pq_S) (k36 : Nat → Int32 → Int32 → Int32 → Int32 → Int32 → Int32 → Int32 → Int32 → Int32 → Int32 → pq_S → Option (Int32 × pq_S)) (hk36 : ∀ (a0 : Nat) (x1 : Int32) (x2 : Int32) (x3 : Int32) (x4 : Int32) (x5 : Int32) (x6 : Int32) (x7 : Int32) (x8 : Int32) (x9 : Int32) (x10 : Int32) (S : pq_S) (H : Heap) (locs : List Loc) (ls : Array Slot), PW C X S (pq_F C X S0 s.heap.size) H locs s → Ext S0 S → TY S a0 12 → lv_has ls 11 [(0, .ref a0), (1, .int x1), (2, .int x2), (3, .int x3), (4, .int x4), (5, .int x5), (6, .int x6), (7, .int x7), (8, .int x8), (9, .int x9), (10, .int x10)] → k36 a0 x1 x2 x3 x4 x5 x6 x7 x8 x9 x10 S = some (r, S1) → W p l e rm_X12_span s m args below meth c H locs 0 0 (MQ below (QcI C X S0 s.heap.size r S1) args s 0 0 (pq_F C X S0 s.heap.size)) (F0 m 64 ls [])) : ∀ (a0 : Nat) (x1 : Int32) (x2 : Int32) (x3 : Int32) (x4 : Int32) (x5 : Int32) (x6 : Int32) (x8 : Int32) (x9 : Int32) (x10 : Int32) (S : pq_S) (H : Heap) (locs : List Loc) (ls : Array Slot), PW C X S (pq_F C X S0 s.heap.size) H locs s → Ext S0 S → TY S a0 12 → lv_has ls 11 [(0, .ref a0), (1, .int x1), (2, .int x2), (3, .int x3), (4, .int x4), (5, .int x5), (6, .int x6), (8, .int x8), (9, .int x9), (10, .int x10)] → b_X12_span_98 n k36 a0 x1 x2 x3 x4 x5 x6 x8 x9 x10 S = some (r, S1) → W p l e rm_X12_span s m args below meth c H locs 0 0 (MQ below (QcI C X S0 s.heap.size r S1) args s 0 0 (pq_F C X S0 s.heap.size)) (F0 m 98 ls []) := by
  obtain ⟨hx, hb, hml, hown, hU, hr, hlk⟩ := id cx
  intro a0 x1 x2 x3 x4 x5 x6 x8 x9 x10 S H locs ls hw hE Ta0 hl hm
  rw [b_X12_span_98] at hm
  refine lv_aload_n hx hb dX12_span_98 rfl (lv_at hl 0 rfl) ?_
  refine pg_i (k := 12) (j := 68) (f := 1268) hx hb hown hU iu12 hw Ta0 (by decide) rfl (hU _ tw1539) rfl dX12_span_99 ?_
  refine lv_goto (tgt := 107) hx hb dX12_span_102 (by decide) ?_
  exact wb_X12_span_107 cx C X S0 n r S1 _ hk36 a0 x1 x2 x3 x4 x5 x6 x8 x9 x10 (pI S 1268 a0) S _ _ _ hw hE Ta0 (lv_sub hl [0, 1, 2, 3, 4, 5, 6, 7, 8, 9] rfl) hm
def b_X12_span_64 (n : Nat) : Nat → Nat → Int32 → Int32 → Int32 → Int32 → Int32 → Int32 → Int32 → Int32 → Int32 → Int32 → pq_S → Option (Int32 × pq_S)
  | 0, _, _, _, _, _, _, _, _, _, _, _, _ => none
  | f + 1, a0, x1, x2, x3, x4, x5, x6, x7, x8, x9, x10, S => if x2 ≤ x10 then b_X12_span_144 n x6 x7 x8 x9 S else Option.bind (m_X12_findClouds n a0 (x1 + x10) x3 x4 x5 S) fun S_26 => if x7 = (-1) then b_X12_span_98 n (b_X12_span_64 n f) a0 x1 x2 x3 x4 x5 x6 x8 x9 x10 S_26 else if x7 ≤ (pI S_26 1268 a0) then b_X12_span_107 n (b_X12_span_64 n f) a0 x1 x2 x3 x4 x5 x6 x8 x9 x10 x7 S_26 else b_X12_span_98 n (b_X12_span_64 n f) a0 x1 x2 x3 x4 x5 x6 x8 x9 x10 S_26
set_option maxHeartbeats 4000000 in
set_option maxRecDepth 100000 in
theorem wb_X12_span_64 {p : Program} {l : Launch} {e : Env} {s : State} {m : MethodId} {args : Array Value} {below : List Frame} {meth : Method} {c : Code} (cx : Cx p s m args meth c cX12_span 11 RX12 (some .int)) (C : pq_C) (X : va_W) (S0 : pq_S) (n : Nat) (r : Int32) (S1 : pq_S) : ∀ (f : Nat) (a0 : Nat) (x1 : Int32) (x2 : Int32) (x3 : Int32) (x4 : Int32) (x5 : Int32) (x6 : Int32) (x7 : Int32) (x8 : Int32) (x9 : Int32) (x10 : Int32) (S : pq_S) (H : Heap) (locs : List Loc) (ls : Array Slot), PW C X S (pq_F C X S0 s.heap.size) H locs s → Ext S0 S → TY S a0 12 → lv_has ls 11 [(0, .ref a0), (1, .int x1), (2, .int x2), (3, .int x3), (4, .int x4), (5, .int x5), (6, .int x6), (7, .int x7), (8, .int x8), (9, .int x9), (10, .int x10)] → b_X12_span_64 n f a0 x1 x2 x3 x4 x5 x6 x7 x8 x9 x10 S = some (r, S1) → W p l e rm_X12_span s m args below meth c H locs 0 0 (MQ below (QcI C X S0 s.heap.size r S1) args s 0 0 (pq_F C X S0 s.heap.size)) (F0 m 64 ls []) := by
  obtain ⟨hx, hb, hml, hown, hU, hr, hlk⟩ := id cx
  intro f
  induction f with
  | zero =>
    intro a0 x1 x2 x3 x4 x5 x6 x7 x8 x9 x10 S H locs ls hw hE Ta0 hl hm
    cases hm
  | succ f ih =>
    intro a0 x1 x2 x3 x4 x5 x6 x7 x8 x9 x10 S H locs ls hw hE Ta0 hl hm
    rw [b_X12_span_64] at hm
    refine lv_iload hx hb dX12_span_64 (lv_at hl 10 rfl) ?_
    refine lv_iload_n hx hb dX12_span_66 rfl (lv_at hl 2 rfl) ?_
    refine lv_icmp_ge (tgt := 144) hx hb dX12_span_67 (by decide) (fun h25 => ?_) (fun h25 => ?_)
    · rw [if_pos h25] at hm
      exact wb_X12_span_144 cx C X S0 n r S1 x6 x7 x8 x9 S _ _ _ hw hE  (lv_sub hl [6, 7, 8, 9] rfl) hm
    · rw [if_neg h25] at hm
      refine lv_aload_n hx hb dX12_span_70 rfl (lv_at hl 0 rfl) ?_
      refine lv_iload_n hx hb dX12_span_71 rfl (lv_at hl 1 rfl) ?_
      refine lv_iload hx hb dX12_span_72 (lv_at hl 10 rfl) ?_
      refine lv_iadd hx hb dX12_span_74 ?_
      refine lv_iload_n hx hb dX12_span_75 rfl (lv_at hl 3 rfl) ?_
      refine lv_iload hx hb dX12_span_76 (lv_at hl 4 rfl) ?_
      refine lv_iload hx hb dX12_span_78 (lv_at hl 5 rfl) ?_
      obtain ⟨S_26, hq27, hm⟩ := bd_some hm
      refine pw_cv (va_runV (As := [.int (x1 + x10), .int x3, .int x4, .int x5]) (rest := []) ⟨hx, hb, hml, hown, hU⟩ (c_X12_findClouds l C X n S hw.wf _ a0 (x1 + x10) x3 x4 x5 (Ta0) S_26 hq27) (cwV 4 hU (pq_gV tw2104 tw2106 ts178 tw14 tc_X12_findClouds) rfl rfl rfl cd_X12_findClouds ⟨Nat.le_of_ble_eq_true rfl, Nat.le_of_ble_eq_true rfl⟩) (pw_preV hw Ta0 (by decide) rfl) rfl rfl hl.1 rfl (lv_room (Nat.le_of_ble_eq_true rfl)) dX12_span_80 ⟨Nat.zero_le _, Nat.zero_le _⟩) hw (fun H locs hw hx28 => ?_)
      have Ta0 : TY S_26 a0 12 := ty_ext hx28 Ta0
      have hE : Ext S0 S_26 := Ext.tr hE hx28
      refine lv_iload hx hb dX12_span_83 (lv_at hl 7 rfl) ?_
      refine lv_iconst (v := (-1)) hx hb dX12_span_85 (by decide) ?_
      refine lv_icmp_eq (tgt := 98) hx hb dX12_span_86 (by decide) (fun h29 => ?_) (fun h29 => ?_)
      · rw [if_pos h29] at hm
        exact wb_X12_span_98 cx C X S0 n r S1 _ ih a0 x1 x2 x3 x4 x5 x6 x8 x9 x10 S_26 _ _ _ hw hE Ta0 (lv_sub hl [0, 1, 2, 3, 4, 5, 6, 8, 9, 10] rfl) hm
      · rw [if_neg h29] at hm
        refine lv_aload_n hx hb dX12_span_89 rfl (lv_at hl 0 rfl) ?_
        refine pg_i (k := 12) (j := 68) (f := 1268) hx hb hown hU iu12 hw Ta0 (by decide) rfl (hU _ tw1539) rfl dX12_span_90 ?_
        refine lv_iload hx hb dX12_span_93 (lv_at hl 7 rfl) ?_
        refine lv_icmp_ge (tgt := 105) hx hb dX12_span_95 (by decide) (fun h30 => ?_) (fun h30 => ?_)
        · rw [if_pos h30] at hm
          refine lv_iload hx hb dX12_span_105 (lv_at hl 7 rfl) ?_
          exact wb_X12_span_107 cx C X S0 n r S1 _ ih a0 x1 x2 x3 x4 x5 x6 x8 x9 x10 x7 S_26 _ _ _ hw hE Ta0 (lv_sub hl [0, 1, 2, 3, 4, 5, 6, 8, 9, 10] rfl) hm
        · rw [if_neg h30] at hm
          exact wb_X12_span_98 cx C X S0 n r S1 _ ih a0 x1 x2 x3 x4 x5 x6 x8 x9 x10 S_26 _ _ _ hw hE Ta0 (lv_sub hl [0, 1, 2, 3, 4, 5, 6, 8, 9, 10] rfl) hm
def b_X12_span_42 (n : Nat) (a0 : Nat) (x1 : Int32) (x2 : Int32) (x3 : Int32) (x4 : Int32) (x5 : Int32) (x6 : Int32) (b0 : Nat) (z1 : Int32) (S : pq_S) : Option (Int32 × pq_S) := cb (m_X12_may n b0 z1 1 1 S) fun r21 S_19 => if r21 = 0 then some (0, S_19) else b_X12_span_64 n n a0 x1 x2 x3 x4 x5 x6 (-1) 0 0 0 S_19
set_option maxHeartbeats 4000000 in
set_option maxRecDepth 100000 in
theorem wb_X12_span_42 {p : Program} {l : Launch} {e : Env} {s : State} {m : MethodId} {args : Array Value} {below : List Frame} {meth : Method} {c : Code} (cx : Cx p s m args meth c cX12_span 11 RX12 (some .int)) (C : pq_C) (X : va_W) (S0 : pq_S) (n : Nat) (r : Int32) (S1 : pq_S) : ∀ (a0 : Nat) (x1 : Int32) (x2 : Int32) (x3 : Int32) (x4 : Int32) (x5 : Int32) (x6 : Int32) (b0 : Nat) (z1 : Int32) (S : pq_S) (H : Heap) (locs : List Loc) (ls : Array Slot), PW C X S (pq_F C X S0 s.heap.size) H locs s → Ext S0 S → TY S a0 12 → TY S b0 12 → lv_has ls 11 [(0, .ref a0), (1, .int x1), (2, .int x2), (3, .int x3), (4, .int x4), (5, .int x5), (6, .int x6)] → b_X12_span_42 n a0 x1 x2 x3 x4 x5 x6 b0 z1 S = some (r, S1) → W p l e rm_X12_span s m args below meth c H locs 0 0 (MQ below (QcI C X S0 s.heap.size r S1) args s 0 0 (pq_F C X S0 s.heap.size)) (F0 m 42 ls [.int z1, .ref b0]) := by
  obtain ⟨hx, hb, hml, hown, hU, hr, hlk⟩ := id cx
  intro a0 x1 x2 x3 x4 x5 x6 b0 z1 S H locs ls hw hE Ta0 Tb0 hl hm
  rw [b_X12_span_42] at hm
  refine lv_iconst (v := 1) hx hb dX12_span_42 (by decide) ?_
  refine lv_iconst (v := 1) hx hb dX12_span_43 (by decide) ?_
  obtain ⟨r21, S_19, hq20, hm⟩ := cb_some hm
  refine pw_cz (va_runV (As := [.int z1, .int 1, .int 1]) (rest := []) ⟨hx, hb, hml, hown, hU⟩ (c_X12_may l C X n S hw.wf _ b0 z1 1 1 (Tb0) r21 S_19 hq20) (cwV 3 hU (pq_gV tw1703 tw1705 ts123 tw14 tc_X12_may) rfl rfl rfl cd_X12_may ⟨Nat.le_of_ble_eq_true rfl, Nat.le_of_ble_eq_true rfl⟩) (pw_preV hw Tb0 (by decide) rfl) rfl rfl hl.1 rfl (lv_room (Nat.le_of_ble_eq_true rfl)) dX12_span_44 ⟨Nat.zero_le _, Nat.zero_le _⟩) hw (fun H locs hw hx22 hz23 => ?_)
  have Ta0 : TY S_19 a0 12 := ty_ext hx22 Ta0
  have hE : Ext S0 S_19 := Ext.tr hE hx22
  refine lv_if_ne (tgt := 52) hx hb dX12_span_47 (by decide) (fun h24 => ?_) (fun h24 => ?_)
  · rw [if_neg h24] at hm
    refine lv_iconst (v := (-1)) hx hb dX12_span_52 (by decide) ?_
    refine lv_istore (lv' := [(7, .int (-1)), (0, .ref a0), (1, .int x1), (2, .int x2), (3, .int x3), (4, .int x4), (5, .int x5), (6, .int x6)]) hx hb dX12_span_53 hl (by decide) rfl (fun ls hl => ?_)
    refine lv_iconst (v := 0) hx hb dX12_span_55 (by decide) ?_
    refine lv_istore (lv' := [(8, .int 0), (7, .int (-1)), (0, .ref a0), (1, .int x1), (2, .int x2), (3, .int x3), (4, .int x4), (5, .int x5), (6, .int x6)]) hx hb dX12_span_56 hl (by decide) rfl (fun ls hl => ?_)
    refine lv_iconst (v := 0) hx hb dX12_span_58 (by decide) ?_
    refine lv_istore (lv' := [(9, .int 0), (8, .int 0), (7, .int (-1)), (0, .ref a0), (1, .int x1), (2, .int x2), (3, .int x3), (4, .int x4), (5, .int x5), (6, .int x6)]) hx hb dX12_span_59 hl (by decide) rfl (fun ls hl => ?_)
    refine lv_iconst (v := 0) hx hb dX12_span_61 (by decide) ?_
    refine lv_istore (lv' := [(10, .int 0), (9, .int 0), (8, .int 0), (7, .int (-1)), (0, .ref a0), (1, .int x1), (2, .int x2), (3, .int x3), (4, .int x4), (5, .int x5), (6, .int x6)]) hx hb dX12_span_62 hl (by decide) rfl (fun ls hl => ?_)
    exact wb_X12_span_64 cx C X S0 n r S1 n a0 x1 x2 x3 x4 x5 x6 (-1) 0 0 0 S_19 _ _ _ hw hE Ta0 (lv_sub hl [4, 5, 6, 7, 8, 9, 10, 3, 2, 1, 0] rfl) hm
  · rw [if_pos h24] at hm
    refine lv_iconst (v := 0) hx hb dX12_span_50 (by decide) ?_
    cases hm
    exact pw_iret hx hb hr rfl hlk hw hE dX12_span_51
def b_X12_span_41 (n : Nat) (a0 : Nat) (x1 : Int32) (x2 : Int32) (x3 : Int32) (x4 : Int32) (x5 : Int32) (x6 : Int32) (b0 : Nat) (S : pq_S) : Option (Int32 × pq_S) := b_X12_span_42 n a0 x1 x2 x3 x4 x5 x6 b0 0 S
set_option maxHeartbeats 4000000 in
set_option maxRecDepth 100000 in
theorem wb_X12_span_41 {p : Program} {l : Launch} {e : Env} {s : State} {m : MethodId} {args : Array Value} {below : List Frame} {meth : Method} {c : Code} (cx : Cx p s m args meth c cX12_span 11 RX12 (some .int)) (C : pq_C) (X : va_W) (S0 : pq_S) (n : Nat) (r : Int32) (S1 : pq_S) : ∀ (a0 : Nat) (x1 : Int32) (x2 : Int32) (x3 : Int32) (x4 : Int32) (x5 : Int32) (x6 : Int32) (b0 : Nat) (S : pq_S) (H : Heap) (locs : List Loc) (ls : Array Slot), PW C X S (pq_F C X S0 s.heap.size) H locs s → Ext S0 S → TY S a0 12 → TY S b0 12 → lv_has ls 11 [(0, .ref a0), (1, .int x1), (2, .int x2), (3, .int x3), (4, .int x4), (5, .int x5), (6, .int x6)] → b_X12_span_41 n a0 x1 x2 x3 x4 x5 x6 b0 S = some (r, S1) → W p l e rm_X12_span s m args below meth c H locs 0 0 (MQ below (QcI C X S0 s.heap.size r S1) args s 0 0 (pq_F C X S0 s.heap.size)) (F0 m 41 ls [.ref b0]) := by
  obtain ⟨hx, hb, hml, hown, hU, hr, hlk⟩ := id cx
  intro a0 x1 x2 x3 x4 x5 x6 b0 S H locs ls hw hE Ta0 Tb0 hl hm
  rw [b_X12_span_41] at hm
  refine lv_iconst (v := 0) hx hb dX12_span_41 (by decide) ?_
  exact wb_X12_span_42 cx C X S0 n r S1 a0 x1 x2 x3 x4 x5 x6 b0 0 S _ _ _ hw hE Ta0 Tb0 (lv_sub hl [0, 1, 2, 3, 4, 5, 6] rfl) hm
def m_X12_span (n : Nat) (a0 : Nat) (x1 : Int32) (x2 : Int32) (x3 : Int32) (x4 : Int32) (x5 : Int32) (x6 : Int32) (S0 : pq_S) : Option (Int32 × pq_S) := cb (m_X12_within n x2 1 40 (sI S0 1200 a0 0)) fun r3 S_1 => if r3 = 0 then b_X12_span_41 n a0 x1 x2 x3 x4 x5 x6 a0 S_1 else cb (m_X12_isCloudy n x3 x4 x5 S_1) fun r9 S_7 => if r9 = 0 then b_X12_span_41 n a0 x1 x2 x3 x4 x5 x6 a0 S_7 else cb (m_X12_within n x6 0 2 S_7) fun r15 S_13 => if r15 = 0 then b_X12_span_41 n a0 x1 x2 x3 x4 x5 x6 a0 S_13 else b_X12_span_42 n a0 x1 x2 x3 x4 x5 x6 a0 1 S_13
theorem tc_X12_span : Cond.code yX12_span cX12_span 11 (some .int) ∈ pq_U := tw2112
theorem cd_X12_span : yX12_span.cls = RX12 ∧ yX12_span.cls ≠ "java/lang/invoke/MethodHandle" ∧ yX12_span.cls ≠ "java/lang/invoke/VarHandle" ∧ (parseMethodDescriptor yX12_span.desc).map (fun d => d.parameters.length) = some 6 := by decide +kernel
set_option maxHeartbeats 4000000 in
set_option maxRecDepth 100000 in
theorem c_X12_span (l : Launch) (C : pq_C) (X : va_W) (n : Nat) (S0 : pq_S) (hF : WF S0) (sz : Nat) (a0 : Nat) (x1 : Int32) (x2 : Int32) (x3 : Int32) (x4 : Int32) (x5 : Int32) (x6 : Int32) (Ta0 : TY S0 a0 12) (r : Int32) (S1 : pq_S) (hm : m_X12_span n a0 x1 x2 x3 x4 x5 x6 S0 = some (r, S1)) : MI l yX12_span (.code yX12_span cX12_span 11 (some .int) :: pq_U) rm_X12_span C X S0 sz [.ref a0, .int x1, .int x2, .int x3, .int x4, .int x5, .int x6] r S1 0 0 := by
  refine Met.ofW (cc := cX12_span) (maxL := 11) (ret := (some .int)) (by decide) rfl ?_
  intro p e s m args below meth c s₁ B hml hv
  obtain ⟨rfl, hv⟩ := hv
  have hsz := hv.1
  subst hsz
  have hw := pw_entry hF hv
  have hts := atoms_spec (ws := .code yX12_span cX12_span 11 (some .int) :: pq_U) B.pre
  have hU : ∀ w ∈ pq_U, w.before _ s = true := fun w h => hts w (List.mem_cons_of_mem _ h)
  have hx := B.exec
  have hb := B.bytes
  have hr := B.returns
  have hown : s.vm.findClass RX12 = some m.cls := findClass_of_methodNamed B.named
  have hlk := B.notSynchronized
  have hl := lv_entry ([.ref a0, .int x1, .int x2, .int x3, .int x4, .int x5, .int x6]) (n := 11) (Nat.le_of_ble_eq_true rfl)
  rw [lg_entry_eq]
  generalize (lg_sl ([.ref a0, .int x1, .int x2, .int x3, .int x4, .int x5, .int x6]) ++ List.replicate (11 - (lg_sl ([.ref a0, .int x1, .int x2, .int x3, .int x4, .int x5, .int x6])).length) Slot.unset).toArray = ls at hl ⊢
  have hl : lv_has ls 11 [(0, .ref a0), (1, .int x1), (2, .int x2), (3, .int x3), (4, .int x4), (5, .int x5), (6, .int x6)] := hl
  have hE : Ext S0 S0 := Ext.rf _
  have cx : Cx p s m _ meth c cX12_span 11 RX12 (some .int) := ⟨hx, hb, hml, hown, hU, hr, hlk⟩
  rw [m_X12_span] at hm
  refine lv_aload_n hx hb dX12_span_0 rfl (lv_at hl 0 rfl) ?_
  refine lv_iconst (v := 0) hx hb dX12_span_1 (by decide) ?_
  refine pp_i (k := 12) (j := 0) (f := 1200) hx hb hown hU iu12 tyX12_ok nmX12 hw Ta0 (by decide) rfl (hU _ tw1471) rfl rfl rfl dX12_span_2 (fun H locs hw => ?_)
  refine lv_aload_n hx hb dX12_span_5 rfl (lv_at hl 0 rfl) ?_
  refine lv_iload_n hx hb dX12_span_6 rfl (lv_at hl 2 rfl) ?_
  refine lv_iconst (v := 1) hx hb dX12_span_7 (by decide) ?_
  refine lv_bipush (v := 40) hx hb dX12_span_8 (by decide) ?_
  obtain ⟨r3, S_1, hq2, hm⟩ := cb_some hm
  refine pw_cz (va_runS (As := [.int x2, .int 1, .int 40]) (rest := [.ref a0]) ⟨hx, hb, hml, hown, hU⟩ (c_X12_within l C X n (sI S0 1200 a0 0) hw.wf _ x2 1 40  r3 S_1 hq2) ⟨callB_of 3 hU (pq_g1 tc_X12_within) rfl rfl rfl (hU _ tw14) (hU _ tw1776) cd_X12_within.2 ⟨Nat.le_of_ble_eq_true rfl, Nat.le_of_ble_eq_true rfl⟩, hU _ tw1777⟩ (pw_preS hw) rfl rfl hl.1 rfl (lv_room (Nat.le_of_ble_eq_true rfl)) dX12_span_10 ⟨Nat.zero_le _, Nat.zero_le _⟩) hw (fun H locs hw hx4 hz5 => ?_)
  have Ta0 : TY S_1 a0 12 := ty_ext hx4 Ta0
  have hE : Ext S0 S_1 := Ext.tr hE hx4
  refine lv_if_eq (tgt := 41) hx hb dX12_span_13 (by decide) (fun h6 => ?_) (fun h6 => ?_)
  · rw [if_pos h6] at hm
    exact wb_X12_span_41 cx C X S0 n r S1 a0 x1 x2 x3 x4 x5 x6 a0 S_1 _ _ _ hw hE Ta0 Ta0 (lv_sub hl [0, 1, 2, 3, 4, 5, 6] rfl) hm
  · rw [if_neg h6] at hm
    refine lv_iload_n hx hb dX12_span_16 rfl (lv_at hl 3 rfl) ?_
    refine lv_iload hx hb dX12_span_17 (lv_at hl 4 rfl) ?_
    refine lv_iload hx hb dX12_span_19 (lv_at hl 5 rfl) ?_
    obtain ⟨r9, S_7, hq8, hm⟩ := cb_some hm
    refine pw_cz (va_runS (As := [.int x3, .int x4, .int x5]) (rest := [.ref a0]) ⟨hx, hb, hml, hown, hU⟩ (c_X12_isCloudy l C X n S_1 hw.wf _ x3 x4 x5  r9 S_7 hq8) ⟨callB_of 3 hU (pq_g1 tc_X12_isCloudy) rfl rfl rfl (hU _ tw14) (hU _ tw2101) cd_X12_isCloudy.2 ⟨Nat.le_of_ble_eq_true rfl, Nat.le_of_ble_eq_true rfl⟩, hU _ tw2102⟩ (pw_preS hw) rfl rfl hl.1 rfl (lv_room (Nat.le_of_ble_eq_true rfl)) dX12_span_21 ⟨Nat.zero_le _, Nat.zero_le _⟩) hw (fun H locs hw hx10 hz11 => ?_)
    have Ta0 : TY S_7 a0 12 := ty_ext hx10 Ta0
    have hE : Ext S0 S_7 := Ext.tr hE hx10
    refine lv_if_eq (tgt := 41) hx hb dX12_span_24 (by decide) (fun h12 => ?_) (fun h12 => ?_)
    · rw [if_pos h12] at hm
      exact wb_X12_span_41 cx C X S0 n r S1 a0 x1 x2 x3 x4 x5 x6 a0 S_7 _ _ _ hw hE Ta0 Ta0 (lv_sub hl [0, 1, 2, 3, 4, 5, 6] rfl) hm
    · rw [if_neg h12] at hm
      refine lv_iload hx hb dX12_span_27 (lv_at hl 6 rfl) ?_
      refine lv_iconst (v := 0) hx hb dX12_span_29 (by decide) ?_
      refine lv_iconst (v := 2) hx hb dX12_span_30 (by decide) ?_
      obtain ⟨r15, S_13, hq14, hm⟩ := cb_some hm
      refine pw_cz (va_runS (As := [.int x6, .int 0, .int 2]) (rest := [.ref a0]) ⟨hx, hb, hml, hown, hU⟩ (c_X12_within l C X n S_7 hw.wf _ x6 0 2  r15 S_13 hq14) ⟨callB_of 3 hU (pq_g1 tc_X12_within) rfl rfl rfl (hU _ tw14) (hU _ tw1776) cd_X12_within.2 ⟨Nat.le_of_ble_eq_true rfl, Nat.le_of_ble_eq_true rfl⟩, hU _ tw1777⟩ (pw_preS hw) rfl rfl hl.1 rfl (lv_room (Nat.le_of_ble_eq_true rfl)) dX12_span_31 ⟨Nat.zero_le _, Nat.zero_le _⟩) hw (fun H locs hw hx16 hz17 => ?_)
      have Ta0 : TY S_13 a0 12 := ty_ext hx16 Ta0
      have hE : Ext S0 S_13 := Ext.tr hE hx16
      refine lv_if_eq (tgt := 41) hx hb dX12_span_34 (by decide) (fun h18 => ?_) (fun h18 => ?_)
      · rw [if_pos h18] at hm
        exact wb_X12_span_41 cx C X S0 n r S1 a0 x1 x2 x3 x4 x5 x6 a0 S_13 _ _ _ hw hE Ta0 Ta0 (lv_sub hl [0, 1, 2, 3, 4, 5, 6] rfl) hm
      · rw [if_neg h18] at hm
        refine lv_iconst (v := 1) hx hb dX12_span_37 (by decide) ?_
        refine lv_goto (tgt := 42) hx hb dX12_span_38 (by decide) ?_
        exact wb_X12_span_42 cx C X S0 n r S1 a0 x1 x2 x3 x4 x5 x6 a0 1 S_13 _ _ _ hw hE Ta0 Ta0 (lv_sub hl [0, 1, 2, 3, 4, 5, 6] rfl) hm
abbrev rm_X12_ahead : Room := { frames := 2, cells := 0, slots := 0, locals := 45 }
def b_X12_ahead_72 (n : Nat) (a0 : Nat) (x1 : Int32) (x3 : Int32) (S : pq_S) : Option (Int32 × pq_S) := if x3 = 0 then Option.bind (pR S 1247 a0) fun q35 => ck (ix ((0 : Int32) + x1) (pN S q35)) (dix _ _) (some ((pA S q35 (Int32.toNatClampNeg ((0 : Int32) + x1))), S)) else Option.bind (pR S 1247 a0) fun q33 => ck (ix ((6 : Int32) + x1) (pN S q33)) (dix _ _) (some ((pA S q33 (Int32.toNatClampNeg ((6 : Int32) + x1))), S))
set_option maxHeartbeats 4000000 in
set_option maxRecDepth 100000 in
theorem wb_X12_ahead_72 {p : Program} {l : Launch} {e : Env} {s : State} {m : MethodId} {args : Array Value} {below : List Frame} {meth : Method} {c : Code} (cx : Cx p s m args meth c cX12_ahead 5 RX12 (some .int)) (C : pq_C) (X : va_W) (S0 : pq_S) (n : Nat) (r : Int32) (S1 : pq_S) : ∀ (a0 : Nat) (x1 : Int32) (x3 : Int32) (S : pq_S) (H : Heap) (locs : List Loc) (ls : Array Slot), PW C X S (pq_F C X S0 s.heap.size) H locs s → Ext S0 S → TY S a0 12 → lv_has ls 5 [(0, .ref a0), (1, .int x1), (3, .int x3)] → b_X12_ahead_72 n a0 x1 x3 S = some (r, S1) → W p l e rm_X12_ahead s m args below meth c H locs 0 0 (MQ below (QcI C X S0 s.heap.size r S1) args s 0 0 (pq_F C X S0 s.heap.size)) (F0 m 72 ls []) := by
  obtain ⟨hx, hb, hml, hown, hU, hr, hlk⟩ := id cx
  intro a0 x1 x3 S H locs ls hw hE Ta0 hl hm
  rw [b_X12_ahead_72] at hm
  refine lv_iload_n hx hb dX12_ahead_72 rfl (lv_at hl 2 rfl) ?_
  refine lv_if_ne (tgt := 87) hx hb dX12_ahead_73 (by decide) (fun h32 => ?_) (fun h32 => ?_)
  · rw [if_neg h32] at hm
    refine lv_aload_n hx hb dX12_ahead_87 rfl (lv_at hl 0 rfl) ?_
    obtain ⟨q33, hq33, hm⟩ := bd_some hm
    have Tq33 : TY S q33 14 := hw.wf.ref (k := 12) (j := 47) Ta0 (by decide) (by decide) hq33
    refine pg_rb (k := 12) (j := 47) (f := 1247) hx hb hown hU iu12 hw Ta0 (by decide) rfl (hU _ tw1518) rfl hq33 dX12_ahead_88 ?_
    refine lv_bipush (v := 6) hx hb dX12_ahead_91 (by decide) ?_
    refine lv_iload_n hx hb dX12_ahead_93 rfl (lv_at hl 1 rfl) ?_
    refine lv_iadd hx hb dX12_ahead_94 ?_
    obtain ⟨hi34, hm⟩ := ck_some hm
    refine pw_iald hx hb hw Tq33 hi34 dX12_ahead_95 ?_
    cases hm
    exact pw_iret hx hb hr rfl hlk hw hE dX12_ahead_96
  · rw [if_pos h32] at hm
    refine lv_aload_n hx hb dX12_ahead_76 rfl (lv_at hl 0 rfl) ?_
    obtain ⟨q35, hq35, hm⟩ := bd_some hm
    have Tq35 : TY S q35 14 := hw.wf.ref (k := 12) (j := 47) Ta0 (by decide) (by decide) hq35
    refine pg_rb (k := 12) (j := 47) (f := 1247) hx hb hown hU iu12 hw Ta0 (by decide) rfl (hU _ tw1518) rfl hq35 dX12_ahead_77 ?_
    refine lv_iconst (v := 0) hx hb dX12_ahead_80 (by decide) ?_
    refine lv_iload_n hx hb dX12_ahead_81 rfl (lv_at hl 1 rfl) ?_
    refine lv_iadd hx hb dX12_ahead_82 ?_
    obtain ⟨hi36, hm⟩ := ck_some hm
    refine pw_iald hx hb hw Tq35 hi36 dX12_ahead_83 ?_
    refine lv_goto (tgt := 96) hx hb dX12_ahead_84 (by decide) ?_
    cases hm
    exact pw_iret hx hb hr rfl hlk hw hE dX12_ahead_96
def b_X12_ahead_56 (n : Nat) : Nat → Nat → Int32 → Int32 → Int32 → Int32 → pq_S → Option (Int32 × pq_S)
  | 0, _, _, _, _, _, _ => none
  | f + 1, a0, x1, x2, x3, x4, S => if x2 ≤ x4 then b_X12_ahead_72 n a0 x1 x3 S else Option.bind (m_X12_month n a0 S) fun S_29 => b_X12_ahead_56 n f a0 x1 x2 x3 (x4 + 1) S_29
set_option maxHeartbeats 4000000 in
set_option maxRecDepth 100000 in
theorem wb_X12_ahead_56 {p : Program} {l : Launch} {e : Env} {s : State} {m : MethodId} {args : Array Value} {below : List Frame} {meth : Method} {c : Code} (cx : Cx p s m args meth c cX12_ahead 5 RX12 (some .int)) (C : pq_C) (X : va_W) (S0 : pq_S) (n : Nat) (r : Int32) (S1 : pq_S) : ∀ (f : Nat) (a0 : Nat) (x1 : Int32) (x2 : Int32) (x3 : Int32) (x4 : Int32) (S : pq_S) (H : Heap) (locs : List Loc) (ls : Array Slot), PW C X S (pq_F C X S0 s.heap.size) H locs s → Ext S0 S → TY S a0 12 → lv_has ls 5 [(0, .ref a0), (1, .int x1), (2, .int x2), (3, .int x3), (4, .int x4)] → b_X12_ahead_56 n f a0 x1 x2 x3 x4 S = some (r, S1) → W p l e rm_X12_ahead s m args below meth c H locs 0 0 (MQ below (QcI C X S0 s.heap.size r S1) args s 0 0 (pq_F C X S0 s.heap.size)) (F0 m 56 ls []) := by
  obtain ⟨hx, hb, hml, hown, hU, hr, hlk⟩ := id cx
  intro f
  induction f with
  | zero =>
    intro a0 x1 x2 x3 x4 S H locs ls hw hE Ta0 hl hm
    cases hm
  | succ f ih =>
    intro a0 x1 x2 x3 x4 S H locs ls hw hE Ta0 hl hm
    rw [b_X12_ahead_56] at hm
    refine lv_iload hx hb dX12_ahead_56 (lv_at hl 4 rfl) ?_
    refine lv_iload_n hx hb dX12_ahead_58 rfl (lv_at hl 2 rfl) ?_
    refine lv_icmp_ge (tgt := 72) hx hb dX12_ahead_59 (by decide) (fun h28 => ?_) (fun h28 => ?_)
    · rw [if_pos h28] at hm
      exact wb_X12_ahead_72 cx C X S0 n r S1 a0 x1 x3 S _ _ _ hw hE Ta0 (lv_sub hl [0, 1, 3] rfl) hm
    · rw [if_neg h28] at hm
      refine lv_aload_n hx hb dX12_ahead_62 rfl (lv_at hl 0 rfl) ?_
      obtain ⟨S_29, hq30, hm⟩ := bd_some hm
      refine pw_cv (va_runV (As := []) (rest := []) ⟨hx, hb, hml, hown, hU⟩ (c_X12_month l C X n S hw.wf _ a0 (Ta0) S_29 hq30) (cwV 0 hU (pq_gV tw1894 tw1896 ts158 tw14 tc_X12_month) rfl rfl rfl cd_X12_month ⟨Nat.le_of_ble_eq_true rfl, Nat.le_of_ble_eq_true rfl⟩) (pw_preV hw Ta0 (by decide) rfl) rfl rfl hl.1 rfl (lv_room (Nat.le_of_ble_eq_true rfl)) dX12_ahead_63 ⟨Nat.zero_le _, Nat.zero_le _⟩) hw (fun H locs hw hx31 => ?_)
      have Ta0 : TY S_29 a0 12 := ty_ext hx31 Ta0
      have hE : Ext S0 S_29 := Ext.tr hE hx31
      refine lv_iinc (v := (x4 + 1)) (lv' := [(4, .int (x4 + 1)), (0, .ref a0), (1, .int x1), (2, .int x2), (3, .int x3)]) hx hb dX12_ahead_66 hl (k := 4) rfl rfl (by decide) rfl (fun ls hl => ?_)
      refine lv_goto (tgt := 56) hx hb dX12_ahead_69 (by decide) ?_
      exact ih a0 x1 x2 x3 (x4 + 1) S_29 _ _ _ hw hE Ta0 (lv_sub hl [1, 2, 3, 4, 0] rfl) hm
def b_X12_ahead_39 (n : Nat) (a0 : Nat) (x1 : Int32) (x2 : Int32) (x3 : Int32) (b0 : Nat) (z1 : Int32) (S : pq_S) : Option (Int32 × pq_S) := cb (m_X12_may n b0 z1 2 1 S) fun r21 S_19 => if r21 = 0 then some (0, S_19) else Option.bind (m_X12_take n a0 S_19) fun S_25 => b_X12_ahead_56 n n a0 x1 x2 x3 0 S_25
set_option maxHeartbeats 4000000 in
set_option maxRecDepth 100000 in
theorem wb_X12_ahead_39 {p : Program} {l : Launch} {e : Env} {s : State} {m : MethodId} {args : Array Value} {below : List Frame} {meth : Method} {c : Code} (cx : Cx p s m args meth c cX12_ahead 5 RX12 (some .int)) (C : pq_C) (X : va_W) (S0 : pq_S) (n : Nat) (r : Int32) (S1 : pq_S) : ∀ (a0 : Nat) (x1 : Int32) (x2 : Int32) (x3 : Int32) (b0 : Nat) (z1 : Int32) (S : pq_S) (H : Heap) (locs : List Loc) (ls : Array Slot), PW C X S (pq_F C X S0 s.heap.size) H locs s → Ext S0 S → TY S a0 12 → TY S b0 12 → lv_has ls 5 [(0, .ref a0), (1, .int x1), (2, .int x2), (3, .int x3)] → b_X12_ahead_39 n a0 x1 x2 x3 b0 z1 S = some (r, S1) → W p l e rm_X12_ahead s m args below meth c H locs 0 0 (MQ below (QcI C X S0 s.heap.size r S1) args s 0 0 (pq_F C X S0 s.heap.size)) (F0 m 39 ls [.int z1, .ref b0]) := by
  obtain ⟨hx, hb, hml, hown, hU, hr, hlk⟩ := id cx
  intro a0 x1 x2 x3 b0 z1 S H locs ls hw hE Ta0 Tb0 hl hm
  rw [b_X12_ahead_39] at hm
  refine lv_iconst (v := 2) hx hb dX12_ahead_39 (by decide) ?_
  refine lv_iconst (v := 1) hx hb dX12_ahead_40 (by decide) ?_
  obtain ⟨r21, S_19, hq20, hm⟩ := cb_some hm
  refine pw_cz (va_runV (As := [.int z1, .int 2, .int 1]) (rest := []) ⟨hx, hb, hml, hown, hU⟩ (c_X12_may l C X n S hw.wf _ b0 z1 2 1 (Tb0) r21 S_19 hq20) (cwV 3 hU (pq_gV tw1703 tw1705 ts123 tw14 tc_X12_may) rfl rfl rfl cd_X12_may ⟨Nat.le_of_ble_eq_true rfl, Nat.le_of_ble_eq_true rfl⟩) (pw_preV hw Tb0 (by decide) rfl) rfl rfl hl.1 rfl (lv_room (Nat.le_of_ble_eq_true rfl)) dX12_ahead_41 ⟨Nat.zero_le _, Nat.zero_le _⟩) hw (fun H locs hw hx22 hz23 => ?_)
  have Ta0 : TY S_19 a0 12 := ty_ext hx22 Ta0
  have hE : Ext S0 S_19 := Ext.tr hE hx22
  refine lv_if_ne (tgt := 49) hx hb dX12_ahead_44 (by decide) (fun h24 => ?_) (fun h24 => ?_)
  · rw [if_neg h24] at hm
    refine lv_aload_n hx hb dX12_ahead_49 rfl (lv_at hl 0 rfl) ?_
    obtain ⟨S_25, hq26, hm⟩ := bd_some hm
    refine pw_cv (va_runV (As := []) (rest := []) ⟨hx, hb, hml, hown, hU⟩ (c_X12_take l C X n S_19 hw.wf _ a0 (Ta0) S_25 hq26) (cwV 0 hU (pq_gV tw1922 tw1924 ts161 tw14 tc_X12_take) rfl rfl rfl cd_X12_take ⟨Nat.le_of_ble_eq_true rfl, Nat.le_of_ble_eq_true rfl⟩) (pw_preV hw Ta0 (by decide) rfl) rfl rfl hl.1 rfl (lv_room (Nat.le_of_ble_eq_true rfl)) dX12_ahead_50 ⟨Nat.zero_le _, Nat.zero_le _⟩) hw (fun H locs hw hx27 => ?_)
    have Ta0 : TY S_25 a0 12 := ty_ext hx27 Ta0
    have hE : Ext S0 S_25 := Ext.tr hE hx27
    refine lv_iconst (v := 0) hx hb dX12_ahead_53 (by decide) ?_
    refine lv_istore (lv' := [(4, .int 0), (0, .ref a0), (1, .int x1), (2, .int x2), (3, .int x3)]) hx hb dX12_ahead_54 hl (by decide) rfl (fun ls hl => ?_)
    exact wb_X12_ahead_56 cx C X S0 n r S1 n a0 x1 x2 x3 0 S_25 _ _ _ hw hE Ta0 (lv_sub hl [1, 2, 3, 4, 0] rfl) hm
  · rw [if_pos h24] at hm
    refine lv_iconst (v := 0) hx hb dX12_ahead_47 (by decide) ?_
    cases hm
    exact pw_iret hx hb hr rfl hlk hw hE dX12_ahead_48
def b_X12_ahead_38 (n : Nat) (a0 : Nat) (x1 : Int32) (x2 : Int32) (x3 : Int32) (b0 : Nat) (S : pq_S) : Option (Int32 × pq_S) := b_X12_ahead_39 n a0 x1 x2 x3 b0 0 S
set_option maxHeartbeats 4000000 in
set_option maxRecDepth 100000 in
theorem wb_X12_ahead_38 {p : Program} {l : Launch} {e : Env} {s : State} {m : MethodId} {args : Array Value} {below : List Frame} {meth : Method} {c : Code} (cx : Cx p s m args meth c cX12_ahead 5 RX12 (some .int)) (C : pq_C) (X : va_W) (S0 : pq_S) (n : Nat) (r : Int32) (S1 : pq_S) : ∀ (a0 : Nat) (x1 : Int32) (x2 : Int32) (x3 : Int32) (b0 : Nat) (S : pq_S) (H : Heap) (locs : List Loc) (ls : Array Slot), PW C X S (pq_F C X S0 s.heap.size) H locs s → Ext S0 S → TY S a0 12 → TY S b0 12 → lv_has ls 5 [(0, .ref a0), (1, .int x1), (2, .int x2), (3, .int x3)] → b_X12_ahead_38 n a0 x1 x2 x3 b0 S = some (r, S1) → W p l e rm_X12_ahead s m args below meth c H locs 0 0 (MQ below (QcI C X S0 s.heap.size r S1) args s 0 0 (pq_F C X S0 s.heap.size)) (F0 m 38 ls [.ref b0]) := by
  obtain ⟨hx, hb, hml, hown, hU, hr, hlk⟩ := id cx
  intro a0 x1 x2 x3 b0 S H locs ls hw hE Ta0 Tb0 hl hm
  rw [b_X12_ahead_38] at hm
  refine lv_iconst (v := 0) hx hb dX12_ahead_38 (by decide) ?_
  exact wb_X12_ahead_39 cx C X S0 n r S1 a0 x1 x2 x3 b0 0 S _ _ _ hw hE Ta0 Tb0 (lv_sub hl [0, 1, 2, 3] rfl) hm
def m_X12_ahead (n : Nat) (a0 : Nat) (x1 : Int32) (x2 : Int32) (x3 : Int32) (S0 : pq_S) : Option (Int32 × pq_S) := cb (m_X12_isPlace n a0 x1 1 (sI S0 1200 a0 0)) fun r3 S_1 => if r3 = 0 then some (0, S_1) else cb (m_X12_within n x2 0 60 S_1) fun r9 S_7 => if r9 = 0 then b_X12_ahead_38 n a0 x1 x2 x3 a0 S_7 else cb (m_X12_within n x3 0 1 S_7) fun r15 S_13 => if r15 = 0 then b_X12_ahead_38 n a0 x1 x2 x3 a0 S_13 else b_X12_ahead_39 n a0 x1 x2 x3 a0 1 S_13
theorem tc_X12_ahead : Cond.code yX12_ahead cX12_ahead 5 (some .int) ∈ pq_U := tw2116
theorem cd_X12_ahead : yX12_ahead.cls = RX12 ∧ yX12_ahead.cls ≠ "java/lang/invoke/MethodHandle" ∧ yX12_ahead.cls ≠ "java/lang/invoke/VarHandle" ∧ (parseMethodDescriptor yX12_ahead.desc).map (fun d => d.parameters.length) = some 3 := by decide +kernel
set_option maxHeartbeats 4000000 in
set_option maxRecDepth 100000 in
theorem c_X12_ahead (l : Launch) (C : pq_C) (X : va_W) (n : Nat) (S0 : pq_S) (hF : WF S0) (sz : Nat) (a0 : Nat) (x1 : Int32) (x2 : Int32) (x3 : Int32) (Ta0 : TY S0 a0 12) (r : Int32) (S1 : pq_S) (hm : m_X12_ahead n a0 x1 x2 x3 S0 = some (r, S1)) : MI l yX12_ahead (.code yX12_ahead cX12_ahead 5 (some .int) :: pq_U) rm_X12_ahead C X S0 sz [.ref a0, .int x1, .int x2, .int x3] r S1 0 0 := by
  refine Met.ofW (cc := cX12_ahead) (maxL := 5) (ret := (some .int)) (by decide) rfl ?_
  intro p e s m args below meth c s₁ B hml hv
  obtain ⟨rfl, hv⟩ := hv
  have hsz := hv.1
  subst hsz
  have hw := pw_entry hF hv
  have hts := atoms_spec (ws := .code yX12_ahead cX12_ahead 5 (some .int) :: pq_U) B.pre
  have hU : ∀ w ∈ pq_U, w.before _ s = true := fun w h => hts w (List.mem_cons_of_mem _ h)
  have hx := B.exec
  have hb := B.bytes
  have hr := B.returns
  have hown : s.vm.findClass RX12 = some m.cls := findClass_of_methodNamed B.named
  have hlk := B.notSynchronized
  have hl := lv_entry ([.ref a0, .int x1, .int x2, .int x3]) (n := 5) (Nat.le_of_ble_eq_true rfl)
  rw [lg_entry_eq]
  generalize (lg_sl ([.ref a0, .int x1, .int x2, .int x3]) ++ List.replicate (5 - (lg_sl ([.ref a0, .int x1, .int x2, .int x3])).length) Slot.unset).toArray = ls at hl ⊢
  have hl : lv_has ls 5 [(0, .ref a0), (1, .int x1), (2, .int x2), (3, .int x3)] := hl
  have hE : Ext S0 S0 := Ext.rf _
  have cx : Cx p s m _ meth c cX12_ahead 5 RX12 (some .int) := ⟨hx, hb, hml, hown, hU, hr, hlk⟩
  rw [m_X12_ahead] at hm
  refine lv_aload_n hx hb dX12_ahead_0 rfl (lv_at hl 0 rfl) ?_
  refine lv_iconst (v := 0) hx hb dX12_ahead_1 (by decide) ?_
  refine pp_i (k := 12) (j := 0) (f := 1200) hx hb hown hU iu12 tyX12_ok nmX12 hw Ta0 (by decide) rfl (hU _ tw1471) rfl rfl rfl dX12_ahead_2 (fun H locs hw => ?_)
  refine lv_aload_n hx hb dX12_ahead_5 rfl (lv_at hl 0 rfl) ?_
  refine lv_iload_n hx hb dX12_ahead_6 rfl (lv_at hl 1 rfl) ?_
  refine lv_iconst (v := 1) hx hb dX12_ahead_7 (by decide) ?_
  obtain ⟨r3, S_1, hq2, hm⟩ := cb_some hm
  refine pw_cz (va_runV (As := [.int x1, .int 1]) (rest := []) ⟨hx, hb, hml, hown, hU⟩ (c_X12_isPlace l C X n (sI S0 1200 a0 0) hw.wf _ a0 x1 1 (Ta0) r3 S_1 hq2) (cwV 2 hU (pq_gV tw1918 tw1920 ts160 tw14 tc_X12_isPlace) rfl rfl rfl cd_X12_isPlace ⟨Nat.le_of_ble_eq_true rfl, Nat.le_of_ble_eq_true rfl⟩) (pw_preV hw Ta0 (by decide) rfl) rfl rfl hl.1 rfl (lv_room (Nat.le_of_ble_eq_true rfl)) dX12_ahead_8 ⟨Nat.zero_le _, Nat.zero_le _⟩) hw (fun H locs hw hx4 hz5 => ?_)
  have Ta0 : TY S_1 a0 12 := ty_ext hx4 Ta0
  have hE : Ext S0 S_1 := Ext.tr hE hx4
  refine lv_if_eq (tgt := 47) hx hb dX12_ahead_11 (by decide) (fun h6 => ?_) (fun h6 => ?_)
  · rw [if_pos h6] at hm
    refine lv_iconst (v := 0) hx hb dX12_ahead_47 (by decide) ?_
    cases hm
    exact pw_iret hx hb hr rfl hlk hw hE dX12_ahead_48
  · rw [if_neg h6] at hm
    refine lv_aload_n hx hb dX12_ahead_14 rfl (lv_at hl 0 rfl) ?_
    refine lv_iload_n hx hb dX12_ahead_15 rfl (lv_at hl 2 rfl) ?_
    refine lv_iconst (v := 0) hx hb dX12_ahead_16 (by decide) ?_
    refine lv_bipush (v := 60) hx hb dX12_ahead_17 (by decide) ?_
    obtain ⟨r9, S_7, hq8, hm⟩ := cb_some hm
    refine pw_cz (va_runS (As := [.int x2, .int 0, .int 60]) (rest := [.ref a0]) ⟨hx, hb, hml, hown, hU⟩ (c_X12_within l C X n S_1 hw.wf _ x2 0 60  r9 S_7 hq8) ⟨callB_of 3 hU (pq_g1 tc_X12_within) rfl rfl rfl (hU _ tw14) (hU _ tw1776) cd_X12_within.2 ⟨Nat.le_of_ble_eq_true rfl, Nat.le_of_ble_eq_true rfl⟩, hU _ tw1777⟩ (pw_preS hw) rfl rfl hl.1 rfl (lv_room (Nat.le_of_ble_eq_true rfl)) dX12_ahead_19 ⟨Nat.zero_le _, Nat.zero_le _⟩) hw (fun H locs hw hx10 hz11 => ?_)
    have Ta0 : TY S_7 a0 12 := ty_ext hx10 Ta0
    have hE : Ext S0 S_7 := Ext.tr hE hx10
    refine lv_if_eq (tgt := 38) hx hb dX12_ahead_22 (by decide) (fun h12 => ?_) (fun h12 => ?_)
    · rw [if_pos h12] at hm
      exact wb_X12_ahead_38 cx C X S0 n r S1 a0 x1 x2 x3 a0 S_7 _ _ _ hw hE Ta0 Ta0 (lv_sub hl [0, 1, 2, 3] rfl) hm
    · rw [if_neg h12] at hm
      refine lv_iload_n hx hb dX12_ahead_25 rfl (lv_at hl 3 rfl) ?_
      refine lv_iconst (v := 0) hx hb dX12_ahead_26 (by decide) ?_
      refine lv_iconst (v := 1) hx hb dX12_ahead_27 (by decide) ?_
      obtain ⟨r15, S_13, hq14, hm⟩ := cb_some hm
      refine pw_cz (va_runS (As := [.int x3, .int 0, .int 1]) (rest := [.ref a0]) ⟨hx, hb, hml, hown, hU⟩ (c_X12_within l C X n S_7 hw.wf _ x3 0 1  r15 S_13 hq14) ⟨callB_of 3 hU (pq_g1 tc_X12_within) rfl rfl rfl (hU _ tw14) (hU _ tw1776) cd_X12_within.2 ⟨Nat.le_of_ble_eq_true rfl, Nat.le_of_ble_eq_true rfl⟩, hU _ tw1777⟩ (pw_preS hw) rfl rfl hl.1 rfl (lv_room (Nat.le_of_ble_eq_true rfl)) dX12_ahead_28 ⟨Nat.zero_le _, Nat.zero_le _⟩) hw (fun H locs hw hx16 hz17 => ?_)
      have Ta0 : TY S_13 a0 12 := ty_ext hx16 Ta0
      have hE : Ext S0 S_13 := Ext.tr hE hx16
      refine lv_if_eq (tgt := 38) hx hb dX12_ahead_31 (by decide) (fun h18 => ?_) (fun h18 => ?_)
      · rw [if_pos h18] at hm
        exact wb_X12_ahead_38 cx C X S0 n r S1 a0 x1 x2 x3 a0 S_13 _ _ _ hw hE Ta0 Ta0 (lv_sub hl [0, 1, 2, 3] rfl) hm
      · rw [if_neg h18] at hm
        refine lv_iconst (v := 1) hx hb dX12_ahead_34 (by decide) ?_
        refine lv_goto (tgt := 39) hx hb dX12_ahead_35 (by decide) ?_
        exact wb_X12_ahead_39 cx C X S0 n r S1 a0 x1 x2 x3 a0 1 S_13 _ _ _ hw hE Ta0 Ta0 (lv_sub hl [0, 1, 2, 3] rfl) hm
abbrev rm_X12_isAbove : Room := { frames := 0, cells := 0, slots := 0, locals := 0 }
def m_X12_isAbove (n : Nat) (a0 : Nat) (x1 : Int32) (x2 : Int32) (x3 : Int32) (S0 : pq_S) : Option (Int32 × pq_S) := if x1 = 0 then Option.bind (pR S0 1246 a0) fun q11 => ck (ix ((0 : Int32) + x2) (pN S0 q11)) (dix _ _) (Option.bind (pR S0 1246 a0) fun q13 => ck (ix ((6 : Int32) + x2) (pN S0 q13)) (dix _ _) (Option.bind (pR S0 1246 a0) fun q15 => ck (ix ((0 : Int32) + x3) (pN S0 q15)) (dix _ _) (Option.bind (pR S0 1246 a0) fun q17 => ck (ix ((6 : Int32) + x3) (pN S0 q17)) (dix _ _) (if ((pA S0 q11 (Int32.toNatClampNeg ((0 : Int32) + x2))) + (pA S0 q13 (Int32.toNatClampNeg ((6 : Int32) + x2)))) ≤ ((pA S0 q15 (Int32.toNatClampNeg ((0 : Int32) + x3))) + (pA S0 q17 (Int32.toNatClampNeg ((6 : Int32) + x3)))) then some (0, S0) else some (1, S0))))) else Option.bind (pR S0 1215 a0) fun q2 => ck (ix (((4 : Int32) * x2) + (3 : Int32)) (pN S0 q2)) (dix _ _) (Option.bind (pR S0 1215 a0) fun q4 => ck (ix (((4 : Int32) * x3) + (1 : Int32)) (pN S0 q4)) (dix _ _) (Option.bind (pR S0 1215 a0) fun q6 => ck (ix (((4 : Int32) * x3) + (3 : Int32)) (pN S0 q6)) (dix _ _) (Option.bind (pR S0 1215 a0) fun q8 => ck (ix (((4 : Int32) * x2) + (1 : Int32)) (pN S0 q8)) (dix _ _) (if ((pA S0 q2 (Int32.toNatClampNeg (((4 : Int32) * x2) + (3 : Int32)))) * (pA S0 q4 (Int32.toNatClampNeg (((4 : Int32) * x3) + (1 : Int32))))) ≤ ((pA S0 q6 (Int32.toNatClampNeg (((4 : Int32) * x3) + (3 : Int32)))) * (pA S0 q8 (Int32.toNatClampNeg (((4 : Int32) * x2) + (1 : Int32))))) then some (0, S0) else some (1, S0)))))
theorem tc_X12_isAbove : Cond.code yX12_isAbove cX12_isAbove 4 (some .boolean) ∈ pq_U := tw2124
theorem cd_X12_isAbove : yX12_isAbove.cls = RX12 ∧ yX12_isAbove.cls ≠ "java/lang/invoke/MethodHandle" ∧ yX12_isAbove.cls ≠ "java/lang/invoke/VarHandle" ∧ (parseMethodDescriptor yX12_isAbove.desc).map (fun d => d.parameters.length) = some 3 := by decide +kernel
set_option maxHeartbeats 4000000 in
set_option maxRecDepth 100000 in
theorem c_X12_isAbove (l : Launch) (C : pq_C) (X : va_W) (n : Nat) (S0 : pq_S) (hF : WF S0) (sz : Nat) (a0 : Nat) (x1 : Int32) (x2 : Int32) (x3 : Int32) (Ta0 : TY S0 a0 12) (r : Int32) (S1 : pq_S) (hm : m_X12_isAbove n a0 x1 x2 x3 S0 = some (r, S1)) : MZ l yX12_isAbove (.code yX12_isAbove cX12_isAbove 4 (some .boolean) :: pq_U) rm_X12_isAbove C X S0 sz [.ref a0, .int x1, .int x2, .int x3] r S1 0 0 := by
  refine Met.ofW (cc := cX12_isAbove) (maxL := 4) (ret := (some .boolean)) (by decide) rfl ?_
  intro p e s m args below meth c s₁ B hml hv
  obtain ⟨rfl, hv⟩ := hv
  have hsz := hv.1
  subst hsz
  have hw := pw_entry hF hv
  have hts := atoms_spec (ws := .code yX12_isAbove cX12_isAbove 4 (some .boolean) :: pq_U) B.pre
  have hU : ∀ w ∈ pq_U, w.before _ s = true := fun w h => hts w (List.mem_cons_of_mem _ h)
  have hx := B.exec
  have hb := B.bytes
  have hr := B.returns
  have hown : s.vm.findClass RX12 = some m.cls := findClass_of_methodNamed B.named
  have hlk := B.notSynchronized
  have hl := lv_entry ([.ref a0, .int x1, .int x2, .int x3]) (n := 4) (Nat.le_of_ble_eq_true rfl)
  rw [lg_entry_eq]
  generalize (lg_sl ([.ref a0, .int x1, .int x2, .int x3]) ++ List.replicate (4 - (lg_sl ([.ref a0, .int x1, .int x2, .int x3])).length) Slot.unset).toArray = ls at hl ⊢
  have hl : lv_has ls 4 [(0, .ref a0), (1, .int x1), (2, .int x2), (3, .int x3)] := hl
  have hE : Ext S0 S0 := Ext.rf _
  have cx : Cx p s m _ meth c cX12_isAbove 4 RX12 (some .boolean) := ⟨hx, hb, hml, hown, hU, hr, hlk⟩
  rw [m_X12_isAbove] at hm
  refine lv_iload_n hx hb dX12_isAbove_0 rfl (lv_at hl 1 rfl) ?_
  refine lv_if_ne (tgt := 49) hx hb dX12_isAbove_1 (by decide) (fun h1 => ?_) (fun h1 => ?_)
  · rw [if_neg h1] at hm
    refine lv_aload_n hx hb dX12_isAbove_49 rfl (lv_at hl 0 rfl) ?_
    obtain ⟨q2, hq2, hm⟩ := bd_some hm
    have Tq2 : TY S0 q2 14 := hw.wf.ref (k := 12) (j := 15) Ta0 (by decide) (by decide) hq2
    refine pg_rb (k := 12) (j := 15) (f := 1215) hx hb hown hU iu12 hw Ta0 (by decide) rfl (hU _ tw1486) rfl hq2 dX12_isAbove_50 ?_
    refine lv_iconst (v := 4) hx hb dX12_isAbove_53 (by decide) ?_
    refine lv_iload_n hx hb dX12_isAbove_54 rfl (lv_at hl 2 rfl) ?_
    refine lv_imul hx hb dX12_isAbove_55 ?_
    refine lv_iconst (v := 3) hx hb dX12_isAbove_56 (by decide) ?_
    refine lv_iadd hx hb dX12_isAbove_57 ?_
    obtain ⟨hi3, hm⟩ := ck_some hm
    refine pw_iald hx hb hw Tq2 hi3 dX12_isAbove_58 ?_
    refine lv_aload_n hx hb dX12_isAbove_59 rfl (lv_at hl 0 rfl) ?_
    obtain ⟨q4, hq4, hm⟩ := bd_some hm
    have Tq4 : TY S0 q4 14 := hw.wf.ref (k := 12) (j := 15) Ta0 (by decide) (by decide) hq4
    refine pg_rb (k := 12) (j := 15) (f := 1215) hx hb hown hU iu12 hw Ta0 (by decide) rfl (hU _ tw1486) rfl hq4 dX12_isAbove_60 ?_
    refine lv_iconst (v := 4) hx hb dX12_isAbove_63 (by decide) ?_
    refine lv_iload_n hx hb dX12_isAbove_64 rfl (lv_at hl 3 rfl) ?_
    refine lv_imul hx hb dX12_isAbove_65 ?_
    refine lv_iconst (v := 1) hx hb dX12_isAbove_66 (by decide) ?_
    refine lv_iadd hx hb dX12_isAbove_67 ?_
    obtain ⟨hi5, hm⟩ := ck_some hm
    refine pw_iald hx hb hw Tq4 hi5 dX12_isAbove_68 ?_
    refine lv_imul hx hb dX12_isAbove_69 ?_
    refine lv_aload_n hx hb dX12_isAbove_70 rfl (lv_at hl 0 rfl) ?_
    obtain ⟨q6, hq6, hm⟩ := bd_some hm
    have Tq6 : TY S0 q6 14 := hw.wf.ref (k := 12) (j := 15) Ta0 (by decide) (by decide) hq6
    refine pg_rb (k := 12) (j := 15) (f := 1215) hx hb hown hU iu12 hw Ta0 (by decide) rfl (hU _ tw1486) rfl hq6 dX12_isAbove_71 ?_
    refine lv_iconst (v := 4) hx hb dX12_isAbove_74 (by decide) ?_
    refine lv_iload_n hx hb dX12_isAbove_75 rfl (lv_at hl 3 rfl) ?_
    refine lv_imul hx hb dX12_isAbove_76 ?_
    refine lv_iconst (v := 3) hx hb dX12_isAbove_77 (by decide) ?_
    refine lv_iadd hx hb dX12_isAbove_78 ?_
    obtain ⟨hi7, hm⟩ := ck_some hm
    refine pw_iald hx hb hw Tq6 hi7 dX12_isAbove_79 ?_
    refine lv_aload_n hx hb dX12_isAbove_80 rfl (lv_at hl 0 rfl) ?_
    obtain ⟨q8, hq8, hm⟩ := bd_some hm
    have Tq8 : TY S0 q8 14 := hw.wf.ref (k := 12) (j := 15) Ta0 (by decide) (by decide) hq8
    refine pg_rb (k := 12) (j := 15) (f := 1215) hx hb hown hU iu12 hw Ta0 (by decide) rfl (hU _ tw1486) rfl hq8 dX12_isAbove_81 ?_
    refine lv_iconst (v := 4) hx hb dX12_isAbove_84 (by decide) ?_
    refine lv_iload_n hx hb dX12_isAbove_85 rfl (lv_at hl 2 rfl) ?_
    refine lv_imul hx hb dX12_isAbove_86 ?_
    refine lv_iconst (v := 1) hx hb dX12_isAbove_87 (by decide) ?_
    refine lv_iadd hx hb dX12_isAbove_88 ?_
    obtain ⟨hi9, hm⟩ := ck_some hm
    refine pw_iald hx hb hw Tq8 hi9 dX12_isAbove_89 ?_
    refine lv_imul hx hb dX12_isAbove_90 ?_
    refine lv_icmp_le (tgt := 98) hx hb dX12_isAbove_91 (by decide) (fun h10 => ?_) (fun h10 => ?_)
    · rw [if_pos h10] at hm
      refine lv_iconst (v := 0) hx hb dX12_isAbove_98 (by decide) ?_
      cases hm
      exact pw_zret hx hb hr bz_0 hlk hw hE dX12_isAbove_99
    · rw [if_neg h10] at hm
      refine lv_iconst (v := 1) hx hb dX12_isAbove_94 (by decide) ?_
      refine lv_goto (tgt := 99) hx hb dX12_isAbove_95 (by decide) ?_
      cases hm
      exact pw_zret hx hb hr bz_1 hlk hw hE dX12_isAbove_99
  · rw [if_pos h1] at hm
    refine lv_aload_n hx hb dX12_isAbove_4 rfl (lv_at hl 0 rfl) ?_
    obtain ⟨q11, hq11, hm⟩ := bd_some hm
    have Tq11 : TY S0 q11 14 := hw.wf.ref (k := 12) (j := 46) Ta0 (by decide) (by decide) hq11
    refine pg_rb (k := 12) (j := 46) (f := 1246) hx hb hown hU iu12 hw Ta0 (by decide) rfl (hU _ tw1517) rfl hq11 dX12_isAbove_5 ?_
    refine lv_iconst (v := 0) hx hb dX12_isAbove_8 (by decide) ?_
    refine lv_iload_n hx hb dX12_isAbove_9 rfl (lv_at hl 2 rfl) ?_
    refine lv_iadd hx hb dX12_isAbove_10 ?_
    obtain ⟨hi12, hm⟩ := ck_some hm
    refine pw_iald hx hb hw Tq11 hi12 dX12_isAbove_11 ?_
    refine lv_aload_n hx hb dX12_isAbove_12 rfl (lv_at hl 0 rfl) ?_
    obtain ⟨q13, hq13, hm⟩ := bd_some hm
    have Tq13 : TY S0 q13 14 := hw.wf.ref (k := 12) (j := 46) Ta0 (by decide) (by decide) hq13
    refine pg_rb (k := 12) (j := 46) (f := 1246) hx hb hown hU iu12 hw Ta0 (by decide) rfl (hU _ tw1517) rfl hq13 dX12_isAbove_13 ?_
    refine lv_bipush (v := 6) hx hb dX12_isAbove_16 (by decide) ?_
    refine lv_iload_n hx hb dX12_isAbove_18 rfl (lv_at hl 2 rfl) ?_
    refine lv_iadd hx hb dX12_isAbove_19 ?_
    obtain ⟨hi14, hm⟩ := ck_some hm
    refine pw_iald hx hb hw Tq13 hi14 dX12_isAbove_20 ?_
    refine lv_iadd hx hb dX12_isAbove_21 ?_
    refine lv_aload_n hx hb dX12_isAbove_22 rfl (lv_at hl 0 rfl) ?_
    obtain ⟨q15, hq15, hm⟩ := bd_some hm
    have Tq15 : TY S0 q15 14 := hw.wf.ref (k := 12) (j := 46) Ta0 (by decide) (by decide) hq15
    refine pg_rb (k := 12) (j := 46) (f := 1246) hx hb hown hU iu12 hw Ta0 (by decide) rfl (hU _ tw1517) rfl hq15 dX12_isAbove_23 ?_
    refine lv_iconst (v := 0) hx hb dX12_isAbove_26 (by decide) ?_
    refine lv_iload_n hx hb dX12_isAbove_27 rfl (lv_at hl 3 rfl) ?_
    refine lv_iadd hx hb dX12_isAbove_28 ?_
    obtain ⟨hi16, hm⟩ := ck_some hm
    refine pw_iald hx hb hw Tq15 hi16 dX12_isAbove_29 ?_
    refine lv_aload_n hx hb dX12_isAbove_30 rfl (lv_at hl 0 rfl) ?_
    obtain ⟨q17, hq17, hm⟩ := bd_some hm
    have Tq17 : TY S0 q17 14 := hw.wf.ref (k := 12) (j := 46) Ta0 (by decide) (by decide) hq17
    refine pg_rb (k := 12) (j := 46) (f := 1246) hx hb hown hU iu12 hw Ta0 (by decide) rfl (hU _ tw1517) rfl hq17 dX12_isAbove_31 ?_
    refine lv_bipush (v := 6) hx hb dX12_isAbove_34 (by decide) ?_
    refine lv_iload_n hx hb dX12_isAbove_36 rfl (lv_at hl 3 rfl) ?_
    refine lv_iadd hx hb dX12_isAbove_37 ?_
    obtain ⟨hi18, hm⟩ := ck_some hm
    refine pw_iald hx hb hw Tq17 hi18 dX12_isAbove_38 ?_
    refine lv_iadd hx hb dX12_isAbove_39 ?_
    refine lv_icmp_le (tgt := 47) hx hb dX12_isAbove_40 (by decide) (fun h19 => ?_) (fun h19 => ?_)
    · rw [if_pos h19] at hm
      refine lv_iconst (v := 0) hx hb dX12_isAbove_47 (by decide) ?_
      cases hm
      exact pw_zret hx hb hr bz_0 hlk hw hE dX12_isAbove_48
    · rw [if_neg h19] at hm
      refine lv_iconst (v := 1) hx hb dX12_isAbove_43 (by decide) ?_
      refine lv_goto (tgt := 48) hx hb dX12_isAbove_44 (by decide) ?_
      cases hm
      exact pw_zret hx hb hr bz_1 hlk hw hE dX12_isAbove_48
abbrev rm_X12_keepsRow : Room := { frames := 0, cells := 0, slots := 0, locals := 0 }
def b_X12_keepsRow_43 (n : Nat) (k2 : Nat → Int32 → Nat → Int32 → Int32 → Int32 → pq_S → Option (Int32 × pq_S)) (a0 : Nat) (x1 : Int32) (a2 : Nat) (x3 : Int32) (x4 : Int32) (x5 : Int32) (S : pq_S) : Option (Int32 × pq_S) := k2 a0 x1 a2 x3 x4 (x5 + 1) S
set_option maxHeartbeats 4000000 in
set_option maxRecDepth 100000 in
theorem wb_X12_keepsRow_43 {p : Program} {l : Launch} {e : Env} {s : State} {m : MethodId} {args : Array Value} {below : List Frame} {meth : Method} {c : Code} (cx : Cx p s m args meth c cX12_keepsRow 6 RX12 (some .int)) (C : pq_C) (X : va_W) (S0 : pq_S) (n : Nat) (r : Int32) (S1 : pq_S) (k2 : Nat → Int32 → Nat → Int32 → Int32 → Int32 → pq_S → Option (Int32 × pq_S)) (hk2 : ∀ (a0 : Nat) (x1 : Int32) (a2 : Nat) (x3 : Int32) (x4 : Int32) (x5 : Int32) (S : pq_S) (H : Heap) (locs : List Loc) (ls : Array Slot), PW C X S (pq_F C X S0 s.heap.size) H locs s → Ext S0 S → TY S a0 12 → TY S a2 14 → lv_has ls 6 [(0, .ref a0), (1, .int x1), (2, .ref a2), (3, .int x3), (4, .int x4), (5, .int x5)] → k2 a0 x1 a2 x3 x4 x5 S = some (r, S1) → W p l e rm_X12_keepsRow s m args below meth c H locs 0 0 (MQ below (QcI C X S0 s.heap.size r S1) args s 0 0 (pq_F C X S0 s.heap.size)) (F0 m 3 ls [])) : ∀ (a0 : Nat) (x1 : Int32) (a2 : Nat) (x3 : Int32) (x4 : Int32) (x5 : Int32) (S : pq_S) (H : Heap) (locs : List Loc) (ls : Array Slot), PW C X S (pq_F C X S0 s.heap.size) H locs s → Ext S0 S → TY S a0 12 → TY S a2 14 → lv_has ls 6 [(0, .ref a0), (1, .int x1), (2, .ref a2), (3, .int x3), (4, .int x4), (5, .int x5)] → b_X12_keepsRow_43 n k2 a0 x1 a2 x3 x4 x5 S = some (r, S1) → W p l e rm_X12_keepsRow s m args below meth c H locs 0 0 (MQ below (QcI C X S0 s.heap.size r S1) args s 0 0 (pq_F C X S0 s.heap.size)) (F0 m 43 ls []) := by
  obtain ⟨hx, hb, hml, hown, hU, hr, hlk⟩ := id cx
  intro a0 x1 a2 x3 x4 x5 S H locs ls hw hE Ta0 Ta2 hl hm
  rw [b_X12_keepsRow_43] at hm
  refine lv_iinc (v := (x5 + 1)) (lv' := [(5, .int (x5 + 1)), (0, .ref a0), (1, .int x1), (2, .ref a2), (3, .int x3), (4, .int x4)]) hx hb dX12_keepsRow_43 hl (k := 5) rfl rfl (by decide) rfl (fun ls hl => ?_)
  refine lv_goto (tgt := 3) hx hb dX12_keepsRow_46 (by decide) ?_
  exact hk2 a0 x1 a2 x3 x4 (x5 + 1) S _ _ _ hw hE Ta0 Ta2 (lv_sub hl [1, 2, 3, 4, 5, 0] rfl) hm
def b_X12_keepsRow_49 (n : Nat) (x1 : Int32) (x3 : Int32) (S : pq_S) : Option (Int32 × pq_S) := some ((x1 + x3), S)
set_option maxHeartbeats 4000000 in
set_option maxRecDepth 100000 in
theorem wb_X12_keepsRow_49 {p : Program} {l : Launch} {e : Env} {s : State} {m : MethodId} {args : Array Value} {below : List Frame} {meth : Method} {c : Code} (cx : Cx p s m args meth c cX12_keepsRow 6 RX12 (some .int)) (C : pq_C) (X : va_W) (S0 : pq_S) (n : Nat) (r : Int32) (S1 : pq_S) : ∀ (x1 : Int32) (x3 : Int32) (S : pq_S) (H : Heap) (locs : List Loc) (ls : Array Slot), PW C X S (pq_F C X S0 s.heap.size) H locs s → Ext S0 S → lv_has ls 6 [(1, .int x1), (3, .int x3)] → b_X12_keepsRow_49 n x1 x3 S = some (r, S1) → W p l e rm_X12_keepsRow s m args below meth c H locs 0 0 (MQ below (QcI C X S0 s.heap.size r S1) args s 0 0 (pq_F C X S0 s.heap.size)) (F0 m 49 ls []) := by
  obtain ⟨hx, hb, hml, hown, hU, hr, hlk⟩ := id cx
  intro x1 x3 S H locs ls hw hE hl hm
  rw [b_X12_keepsRow_49] at hm
  refine lv_iload_n hx hb dX12_keepsRow_49 rfl (lv_at hl 0 rfl) ?_
  refine lv_iload_n hx hb dX12_keepsRow_50 rfl (lv_at hl 1 rfl) ?_
  refine lv_iadd hx hb dX12_keepsRow_51 ?_
  cases hm
  exact pw_iret hx hb hr rfl hlk hw hE dX12_keepsRow_52
def b_X12_keepsRow_3 (n : Nat) : Nat → Nat → Int32 → Nat → Int32 → Int32 → Int32 → pq_S → Option (Int32 × pq_S)
  | 0, _, _, _, _, _, _, _ => none
  | f + 1, a0, x1, a2, x3, x4, x5, S => if x3 ≤ x5 then b_X12_keepsRow_49 n x1 x3 S else if x4 = 0 then Option.bind (pR S 1271 a0) fun q3 => ck (ix (x1 + x5) (pN S q3)) (dix _ _) (ck (ix x5 (pN S a2)) (dix _ _) (lt_ (sA S a2 (Int32.toNatClampNeg x5) (pA S q3 (Int32.toNatClampNeg (x1 + x5)))) fun S_6 => b_X12_keepsRow_43 n (b_X12_keepsRow_3 n f) a0 x1 a2 x3 x4 x5 S_6)) else Option.bind (pR S 1271 a0) fun q7 => ck (ix x5 (pN S a2)) (dix _ _) (ck (ix (x1 + x5) (pN S q7)) (dix _ _) (lt_ (sA S q7 (Int32.toNatClampNeg (x1 + x5)) (pA S a2 (Int32.toNatClampNeg x5))) fun S_10 => b_X12_keepsRow_43 n (b_X12_keepsRow_3 n f) a0 x1 a2 x3 x4 x5 S_10))
set_option maxHeartbeats 4000000 in
set_option maxRecDepth 100000 in
theorem wb_X12_keepsRow_3 {p : Program} {l : Launch} {e : Env} {s : State} {m : MethodId} {args : Array Value} {below : List Frame} {meth : Method} {c : Code} (cx : Cx p s m args meth c cX12_keepsRow 6 RX12 (some .int)) (C : pq_C) (X : va_W) (S0 : pq_S) (n : Nat) (r : Int32) (S1 : pq_S) : ∀ (f : Nat) (a0 : Nat) (x1 : Int32) (a2 : Nat) (x3 : Int32) (x4 : Int32) (x5 : Int32) (S : pq_S) (H : Heap) (locs : List Loc) (ls : Array Slot), PW C X S (pq_F C X S0 s.heap.size) H locs s → Ext S0 S → TY S a0 12 → TY S a2 14 → lv_has ls 6 [(0, .ref a0), (1, .int x1), (2, .ref a2), (3, .int x3), (4, .int x4), (5, .int x5)] → b_X12_keepsRow_3 n f a0 x1 a2 x3 x4 x5 S = some (r, S1) → W p l e rm_X12_keepsRow s m args below meth c H locs 0 0 (MQ below (QcI C X S0 s.heap.size r S1) args s 0 0 (pq_F C X S0 s.heap.size)) (F0 m 3 ls []) := by
  obtain ⟨hx, hb, hml, hown, hU, hr, hlk⟩ := id cx
  intro f
  induction f with
  | zero =>
    intro a0 x1 a2 x3 x4 x5 S H locs ls hw hE Ta0 Ta2 hl hm
    cases hm
  | succ f ih =>
    intro a0 x1 a2 x3 x4 x5 S H locs ls hw hE Ta0 Ta2 hl hm
    rw [b_X12_keepsRow_3] at hm
    refine lv_iload hx hb dX12_keepsRow_3 (lv_at hl 5 rfl) ?_
    refine lv_iload_n hx hb dX12_keepsRow_5 rfl (lv_at hl 3 rfl) ?_
    refine lv_icmp_ge (tgt := 49) hx hb dX12_keepsRow_6 (by decide) (fun h1 => ?_) (fun h1 => ?_)
    · rw [if_pos h1] at hm
      exact wb_X12_keepsRow_49 cx C X S0 n r S1 x1 x3 S _ _ _ hw hE  (lv_sub hl [1, 3] rfl) hm
    · rw [if_neg h1] at hm
      refine lv_iload hx hb dX12_keepsRow_9 (lv_at hl 4 rfl) ?_
      refine lv_if_eq (tgt := 30) hx hb dX12_keepsRow_11 (by decide) (fun h2 => ?_) (fun h2 => ?_)
      · rw [if_pos h2] at hm
        refine lv_aload_n hx hb dX12_keepsRow_30 rfl (lv_at hl 2 rfl) ?_
        refine lv_iload hx hb dX12_keepsRow_31 (lv_at hl 5 rfl) ?_
        refine lv_aload_n hx hb dX12_keepsRow_33 rfl (lv_at hl 0 rfl) ?_
        obtain ⟨q3, hq3, hm⟩ := bd_some hm
        have Tq3 : TY S q3 14 := hw.wf.ref (k := 12) (j := 71) Ta0 (by decide) (by decide) hq3
        refine pg_rb (k := 12) (j := 71) (f := 1271) hx hb hown hU iu12 hw Ta0 (by decide) rfl (hU _ tw1542) rfl hq3 dX12_keepsRow_34 ?_
        refine lv_iload_n hx hb dX12_keepsRow_37 rfl (lv_at hl 1 rfl) ?_
        refine lv_iload hx hb dX12_keepsRow_38 (lv_at hl 5 rfl) ?_
        refine lv_iadd hx hb dX12_keepsRow_40 ?_
        obtain ⟨hi4, hm⟩ := ck_some hm
        refine pw_iald hx hb hw Tq3 hi4 dX12_keepsRow_41 ?_
        obtain ⟨hi5, hm⟩ := ck_some hm
        refine pw_iast hx hb hw Ta2 hi5 dX12_keepsRow_42 (fun H locs hw => ?_)
        obtain ⟨S_6, eS_6, hm⟩ := lt_some hm
        rw [← eS_6] at hw
        have Ta0 : TY S_6 a0 12 := by rw [eS_6]; exact Ta0
        have Ta2 : TY S_6 a2 14 := by rw [eS_6]; exact Ta2
        have hE : Ext S0 S_6 := by rw [eS_6]; exact hE
        exact wb_X12_keepsRow_43 cx C X S0 n r S1 _ ih a0 x1 a2 x3 x4 x5 S_6 _ _ _ hw hE Ta0 Ta2 (lv_sub hl [0, 1, 2, 3, 4, 5] rfl) hm
      · rw [if_neg h2] at hm
        refine lv_aload_n hx hb dX12_keepsRow_14 rfl (lv_at hl 0 rfl) ?_
        obtain ⟨q7, hq7, hm⟩ := bd_some hm
        have Tq7 : TY S q7 14 := hw.wf.ref (k := 12) (j := 71) Ta0 (by decide) (by decide) hq7
        refine pg_rb (k := 12) (j := 71) (f := 1271) hx hb hown hU iu12 hw Ta0 (by decide) rfl (hU _ tw1542) rfl hq7 dX12_keepsRow_15 ?_
        refine lv_iload_n hx hb dX12_keepsRow_18 rfl (lv_at hl 1 rfl) ?_
        refine lv_iload hx hb dX12_keepsRow_19 (lv_at hl 5 rfl) ?_
        refine lv_iadd hx hb dX12_keepsRow_21 ?_
        refine lv_aload_n hx hb dX12_keepsRow_22 rfl (lv_at hl 2 rfl) ?_
        refine lv_iload hx hb dX12_keepsRow_23 (lv_at hl 5 rfl) ?_
        obtain ⟨hi8, hm⟩ := ck_some hm
        refine pw_iald hx hb hw Ta2 hi8 dX12_keepsRow_25 ?_
        obtain ⟨hi9, hm⟩ := ck_some hm
        refine pw_iast hx hb hw Tq7 hi9 dX12_keepsRow_26 (fun H locs hw => ?_)
        obtain ⟨S_10, eS_10, hm⟩ := lt_some hm
        rw [← eS_10] at hw
        have Ta0 : TY S_10 a0 12 := by rw [eS_10]; exact Ta0
        have Ta2 : TY S_10 a2 14 := by rw [eS_10]; exact Ta2
        have hE : Ext S0 S_10 := by rw [eS_10]; exact hE
        refine lv_goto (tgt := 43) hx hb dX12_keepsRow_27 (by decide) ?_
        exact wb_X12_keepsRow_43 cx C X S0 n r S1 _ ih a0 x1 a2 x3 x4 x5 S_10 _ _ _ hw hE Ta0 Ta2 (lv_sub hl [0, 1, 2, 3, 4, 5] rfl) hm
def m_X12_keepsRow (n : Nat) (a0 : Nat) (x1 : Int32) (a2 : Nat) (x3 : Int32) (x4 : Int32) (S0 : pq_S) : Option (Int32 × pq_S) := b_X12_keepsRow_3 n n a0 x1 a2 x3 x4 0 S0
theorem tc_X12_keepsRow : Cond.code yX12_keepsRow cX12_keepsRow 6 (some .int) ∈ pq_U := tw2136
theorem cd_X12_keepsRow : yX12_keepsRow.cls = RX12 ∧ yX12_keepsRow.cls ≠ "java/lang/invoke/MethodHandle" ∧ yX12_keepsRow.cls ≠ "java/lang/invoke/VarHandle" ∧ (parseMethodDescriptor yX12_keepsRow.desc).map (fun d => d.parameters.length) = some 4 := by decide +kernel
set_option maxHeartbeats 4000000 in
set_option maxRecDepth 100000 in
theorem c_X12_keepsRow (l : Launch) (C : pq_C) (X : va_W) (n : Nat) (S0 : pq_S) (hF : WF S0) (sz : Nat) (a0 : Nat) (x1 : Int32) (a2 : Nat) (x3 : Int32) (x4 : Int32) (Ta0 : TY S0 a0 12) (Ta2 : TY S0 a2 14) (r : Int32) (S1 : pq_S) (hm : m_X12_keepsRow n a0 x1 a2 x3 x4 S0 = some (r, S1)) : MI l yX12_keepsRow (.code yX12_keepsRow cX12_keepsRow 6 (some .int) :: pq_U) rm_X12_keepsRow C X S0 sz [.ref a0, .int x1, .ref a2, .int x3, .int x4] r S1 0 0 := by
  refine Met.ofW (cc := cX12_keepsRow) (maxL := 6) (ret := (some .int)) (by decide) rfl ?_
  intro p e s m args below meth c s₁ B hml hv
  obtain ⟨rfl, hv⟩ := hv
  have hsz := hv.1
  subst hsz
  have hw := pw_entry hF hv
  have hts := atoms_spec (ws := .code yX12_keepsRow cX12_keepsRow 6 (some .int) :: pq_U) B.pre
  have hU : ∀ w ∈ pq_U, w.before _ s = true := fun w h => hts w (List.mem_cons_of_mem _ h)
  have hx := B.exec
  have hb := B.bytes
  have hr := B.returns
  have hown : s.vm.findClass RX12 = some m.cls := findClass_of_methodNamed B.named
  have hlk := B.notSynchronized
  have hl := lv_entry ([.ref a0, .int x1, .ref a2, .int x3, .int x4]) (n := 6) (Nat.le_of_ble_eq_true rfl)
  rw [lg_entry_eq]
  generalize (lg_sl ([.ref a0, .int x1, .ref a2, .int x3, .int x4]) ++ List.replicate (6 - (lg_sl ([.ref a0, .int x1, .ref a2, .int x3, .int x4])).length) Slot.unset).toArray = ls at hl ⊢
  have hl : lv_has ls 6 [(0, .ref a0), (1, .int x1), (2, .ref a2), (3, .int x3), (4, .int x4)] := hl
  have hE : Ext S0 S0 := Ext.rf _
  have cx : Cx p s m _ meth c cX12_keepsRow 6 RX12 (some .int) := ⟨hx, hb, hml, hown, hU, hr, hlk⟩
  rw [m_X12_keepsRow] at hm
  refine lv_iconst (v := 0) hx hb dX12_keepsRow_0 (by decide) ?_
  refine lv_istore (lv' := [(5, .int 0), (0, .ref a0), (1, .int x1), (2, .ref a2), (3, .int x3), (4, .int x4)]) hx hb dX12_keepsRow_1 hl (by decide) rfl (fun ls hl => ?_)
  exact wb_X12_keepsRow_3 cx C X S0 n r S1 n a0 x1 a2 x3 x4 0 S0 _ _ _ hw hE Ta0 Ta2 (lv_sub hl [1, 2, 3, 4, 5, 0] rfl) hm
abbrev rm_X12_keepsAll : Room := { frames := 1, cells := 0, slots := 0, locals := 25 }
def m_X12_keepsAll (n : Nat) (a0 : Nat) (x1 : Int32) (x2 : Int32) (S0 : pq_S) : Option pq_S := Option.bind (pR S0 1246 a0) fun q1 => cb (m_X12_keepsRow n a0 ((851 : Int32) * x1) q1 50 x2 S0) fun r4 S_2 => Option.bind (pR S_2 1248 a0) fun q6 => cb (m_X12_keepsRow n a0 r4 q6 800 x2 S_2) fun r9 S_7 => if x2 = 0 then Option.bind (pR S_7 1271 a0) fun q12 => ck (ix r9 (pN S_7 q12)) (dix _ _) (some (sI S_7 1241 a0 (pA S_7 q12 (Int32.toNatClampNeg r9)))) else Option.bind (pR S_7 1271 a0) fun q14 => ck (ix r9 (pN S_7 q14)) (dix _ _) (some (sA S_7 q14 (Int32.toNatClampNeg r9) (pI S_7 1241 a0)))
theorem tc_X12_keepsAll : Cond.code yX12_keepsAll cX12_keepsAll 4 none ∈ pq_U := tw2132
theorem cd_X12_keepsAll : yX12_keepsAll.cls = RX12 ∧ yX12_keepsAll.cls ≠ "java/lang/invoke/MethodHandle" ∧ yX12_keepsAll.cls ≠ "java/lang/invoke/VarHandle" ∧ (parseMethodDescriptor yX12_keepsAll.desc).map (fun d => d.parameters.length) = some 2 := by decide +kernel
set_option maxHeartbeats 4000000 in
set_option maxRecDepth 100000 in
theorem c_X12_keepsAll (l : Launch) (C : pq_C) (X : va_W) (n : Nat) (S0 : pq_S) (hF : WF S0) (sz : Nat) (a0 : Nat) (x1 : Int32) (x2 : Int32) (Ta0 : TY S0 a0 12) (S1 : pq_S) (hm : m_X12_keepsAll n a0 x1 x2 S0 = some S1) : MV l yX12_keepsAll (.code yX12_keepsAll cX12_keepsAll 4 none :: pq_U) rm_X12_keepsAll C X S0 sz [.ref a0, .int x1, .int x2] S1 0 0 := by
  refine Met.ofW (cc := cX12_keepsAll) (maxL := 4) (ret := none) (by decide) rfl ?_
  intro p e s m args below meth c s₁ B hml hv
  obtain ⟨rfl, hv⟩ := hv
  have hsz := hv.1
  subst hsz
  have hw := pw_entry hF hv
  have hts := atoms_spec (ws := .code yX12_keepsAll cX12_keepsAll 4 none :: pq_U) B.pre
  have hU : ∀ w ∈ pq_U, w.before _ s = true := fun w h => hts w (List.mem_cons_of_mem _ h)
  have hx := B.exec
  have hb := B.bytes
  have hr := B.returns
  have hown : s.vm.findClass RX12 = some m.cls := findClass_of_methodNamed B.named
  have hlk := B.notSynchronized
  have hl := lv_entry ([.ref a0, .int x1, .int x2]) (n := 4) (Nat.le_of_ble_eq_true rfl)
  rw [lg_entry_eq]
  generalize (lg_sl ([.ref a0, .int x1, .int x2]) ++ List.replicate (4 - (lg_sl ([.ref a0, .int x1, .int x2])).length) Slot.unset).toArray = ls at hl ⊢
  have hl : lv_has ls 4 [(0, .ref a0), (1, .int x1), (2, .int x2)] := hl
  have hE : Ext S0 S0 := Ext.rf _
  have cx : Cx p s m _ meth c cX12_keepsAll 4 RX12 none := ⟨hx, hb, hml, hown, hU, hr, hlk⟩
  rw [m_X12_keepsAll] at hm
  refine lv_aload_n hx hb dX12_keepsAll_0 rfl (lv_at hl 0 rfl) ?_
  refine lv_sipush (v := 851) hx hb dX12_keepsAll_1 (by decide) ?_
  refine lv_iload_n hx hb dX12_keepsAll_4 rfl (lv_at hl 1 rfl) ?_
  refine lv_imul hx hb dX12_keepsAll_5 ?_
  refine lv_aload_n hx hb dX12_keepsAll_6 rfl (lv_at hl 0 rfl) ?_
  obtain ⟨q1, hq1, hm⟩ := bd_some hm
  have Tq1 : TY S0 q1 14 := hw.wf.ref (k := 12) (j := 46) Ta0 (by decide) (by decide) hq1
  refine pg_rb (k := 12) (j := 46) (f := 1246) hx hb hown hU iu12 hw Ta0 (by decide) rfl (hU _ tw1517) rfl hq1 dX12_keepsAll_7 ?_
  refine lv_bipush (v := 50) hx hb dX12_keepsAll_10 (by decide) ?_
  refine lv_iload_n hx hb dX12_keepsAll_12 rfl (lv_at hl 2 rfl) ?_
  obtain ⟨r4, S_2, hq3, hm⟩ := cb_some hm
  refine pw_ci (va_runV (As := [.int ((851 : Int32) * x1), .ref q1, .int 50, .int x2]) (rest := []) ⟨hx, hb, hml, hown, hU⟩ (c_X12_keepsRow l C X n S0 hw.wf _ a0 ((851 : Int32) * x1) q1 50 x2 (Ta0) (Tq1) r4 S_2 hq3) (cwV 4 hU (pq_gV tw2133 tw2135 ts181 tw14 tc_X12_keepsRow) rfl rfl rfl cd_X12_keepsRow ⟨Nat.le_of_ble_eq_true rfl, Nat.le_of_ble_eq_true rfl⟩) (pw_preV hw Ta0 (by decide) rfl) rfl rfl hl.1 rfl (lv_room (Nat.le_of_ble_eq_true rfl)) dX12_keepsAll_13 ⟨Nat.zero_le _, Nat.zero_le _⟩) hw (fun H locs hw hx5 => ?_)
  have Ta0 : TY S_2 a0 12 := ty_ext hx5 Ta0
  have hE : Ext S0 S_2 := Ext.tr hE hx5
  refine lv_istore_n (lv' := [(3, .int r4), (0, .ref a0), (1, .int x1), (2, .int x2)]) hx hb dX12_keepsAll_16 rfl hl (by decide) rfl (fun ls hl => ?_)
  refine lv_aload_n hx hb dX12_keepsAll_17 rfl (lv_at hl 1 rfl) ?_
  refine lv_iload_n hx hb dX12_keepsAll_18 rfl (lv_at hl 0 rfl) ?_
  refine lv_aload_n hx hb dX12_keepsAll_19 rfl (lv_at hl 1 rfl) ?_
  obtain ⟨q6, hq6, hm⟩ := bd_some hm
  have Tq6 : TY S_2 q6 14 := hw.wf.ref (k := 12) (j := 48) Ta0 (by decide) (by decide) hq6
  refine pg_rb (k := 12) (j := 48) (f := 1248) hx hb hown hU iu12 hw Ta0 (by decide) rfl (hU _ tw1519) rfl hq6 dX12_keepsAll_20 ?_
  refine lv_sipush (v := 800) hx hb dX12_keepsAll_23 (by decide) ?_
  refine lv_iload_n hx hb dX12_keepsAll_26 rfl (lv_at hl 3 rfl) ?_
  obtain ⟨r9, S_7, hq8, hm⟩ := cb_some hm
  refine pw_ci (va_runV (As := [.int r4, .ref q6, .int 800, .int x2]) (rest := []) ⟨hx, hb, hml, hown, hU⟩ (c_X12_keepsRow l C X n S_2 hw.wf _ a0 r4 q6 800 x2 (Ta0) (Tq6) r9 S_7 hq8) (cwV 4 hU (pq_gV tw2133 tw2135 ts181 tw14 tc_X12_keepsRow) rfl rfl rfl cd_X12_keepsRow ⟨Nat.le_of_ble_eq_true rfl, Nat.le_of_ble_eq_true rfl⟩) (pw_preV hw Ta0 (by decide) rfl) rfl rfl hl.1 rfl (lv_room (Nat.le_of_ble_eq_true rfl)) dX12_keepsAll_27 ⟨Nat.zero_le _, Nat.zero_le _⟩) hw (fun H locs hw hx10 => ?_)
  have Ta0 : TY S_7 a0 12 := ty_ext hx10 Ta0
  have hE : Ext S0 S_7 := Ext.tr hE hx10
  refine lv_istore_n (lv' := [(3, .int r9), (0, .ref a0), (1, .int x1), (2, .int x2)]) hx hb dX12_keepsAll_30 rfl hl (by decide) rfl (fun ls hl => ?_)
  refine lv_iload_n hx hb dX12_keepsAll_31 rfl (lv_at hl 3 rfl) ?_
  refine lv_if_eq (tgt := 48) hx hb dX12_keepsAll_32 (by decide) (fun h11 => ?_) (fun h11 => ?_)
  · rw [if_pos h11] at hm
    refine lv_aload_n hx hb dX12_keepsAll_48 rfl (lv_at hl 1 rfl) ?_
    refine lv_aload_n hx hb dX12_keepsAll_49 rfl (lv_at hl 1 rfl) ?_
    obtain ⟨q12, hq12, hm⟩ := bd_some hm
    have Tq12 : TY S_7 q12 14 := hw.wf.ref (k := 12) (j := 71) Ta0 (by decide) (by decide) hq12
    refine pg_rb (k := 12) (j := 71) (f := 1271) hx hb hown hU iu12 hw Ta0 (by decide) rfl (hU _ tw1542) rfl hq12 dX12_keepsAll_50 ?_
    refine lv_iload_n hx hb dX12_keepsAll_53 rfl (lv_at hl 0 rfl) ?_
    obtain ⟨hi13, hm⟩ := ck_some hm
    refine pw_iald hx hb hw Tq12 hi13 dX12_keepsAll_54 ?_
    refine pp_i (k := 12) (j := 41) (f := 1241) hx hb hown hU iu12 tyX12_ok nmX12 hw Ta0 (by decide) rfl (hU _ tw1512) rfl rfl rfl dX12_keepsAll_55 (fun H locs hw => ?_)
    cases hm
    exact pw_vret hx hb hr hlk hw hE dX12_keepsAll_58
  · rw [if_neg h11] at hm
    refine lv_aload_n hx hb dX12_keepsAll_35 rfl (lv_at hl 1 rfl) ?_
    obtain ⟨q14, hq14, hm⟩ := bd_some hm
    have Tq14 : TY S_7 q14 14 := hw.wf.ref (k := 12) (j := 71) Ta0 (by decide) (by decide) hq14
    refine pg_rb (k := 12) (j := 71) (f := 1271) hx hb hown hU iu12 hw Ta0 (by decide) rfl (hU _ tw1542) rfl hq14 dX12_keepsAll_36 ?_
    refine lv_iload_n hx hb dX12_keepsAll_39 rfl (lv_at hl 0 rfl) ?_
    refine lv_aload_n hx hb dX12_keepsAll_40 rfl (lv_at hl 1 rfl) ?_
    refine pg_i (k := 12) (j := 41) (f := 1241) hx hb hown hU iu12 hw Ta0 (by decide) rfl (hU _ tw1512) rfl dX12_keepsAll_41 ?_
    obtain ⟨hi15, hm⟩ := ck_some hm
    refine pw_iast hx hb hw Tq14 hi15 dX12_keepsAll_44 (fun H locs hw => ?_)
    refine lv_goto (tgt := 58) hx hb dX12_keepsAll_45 (by decide) ?_
    cases hm
    exact pw_vret hx hb hr hlk hw hE dX12_keepsAll_58
abbrev rm_X12_image : Room := { frames := 2, cells := 0, slots := 0, locals := 48 }
def m_X12_image (n : Nat) (a0 : Nat) (S0 : pq_S) : Option (Int32 × pq_S) := if (pI (sI S0 1200 a0 0) 1272 a0) = 3 then some ((-1), (sI S0 1200 a0 0)) else Option.bind (m_X12_keepsAll n a0 (pI (sI S0 1200 a0 0) 1272 a0) 1 (sI S0 1200 a0 0)) fun S_2 => some ((pI (sI S_2 1272 a0 ((pI S_2 1272 a0) + (1 : Int32))) 1272 a0), (sI S_2 1272 a0 ((pI S_2 1272 a0) + (1 : Int32))))
theorem tc_X12_image : Cond.code yX12_image cX12_image 1 (some .int) ∈ pq_U := tw2128
theorem cd_X12_image : yX12_image.cls = RX12 ∧ yX12_image.cls ≠ "java/lang/invoke/MethodHandle" ∧ yX12_image.cls ≠ "java/lang/invoke/VarHandle" ∧ (parseMethodDescriptor yX12_image.desc).map (fun d => d.parameters.length) = some 0 := by decide +kernel
set_option maxHeartbeats 4000000 in
set_option maxRecDepth 100000 in
theorem c_X12_image (l : Launch) (C : pq_C) (X : va_W) (n : Nat) (S0 : pq_S) (hF : WF S0) (sz : Nat) (a0 : Nat) (Ta0 : TY S0 a0 12) (r : Int32) (S1 : pq_S) (hm : m_X12_image n a0 S0 = some (r, S1)) : MI l yX12_image (.code yX12_image cX12_image 1 (some .int) :: pq_U) rm_X12_image C X S0 sz [.ref a0] r S1 0 0 := by
  refine Met.ofW (cc := cX12_image) (maxL := 1) (ret := (some .int)) (by decide) rfl ?_
  intro p e s m args below meth c s₁ B hml hv
  obtain ⟨rfl, hv⟩ := hv
  have hsz := hv.1
  subst hsz
  have hw := pw_entry hF hv
  have hts := atoms_spec (ws := .code yX12_image cX12_image 1 (some .int) :: pq_U) B.pre
  have hU : ∀ w ∈ pq_U, w.before _ s = true := fun w h => hts w (List.mem_cons_of_mem _ h)
  have hx := B.exec
  have hb := B.bytes
  have hr := B.returns
  have hown : s.vm.findClass RX12 = some m.cls := findClass_of_methodNamed B.named
  have hlk := B.notSynchronized
  have hl := lv_entry ([.ref a0]) (n := 1) (Nat.le_of_ble_eq_true rfl)
  rw [lg_entry_eq]
  generalize (lg_sl ([.ref a0]) ++ List.replicate (1 - (lg_sl ([.ref a0])).length) Slot.unset).toArray = ls at hl ⊢
  have hl : lv_has ls 1 [(0, .ref a0)] := hl
  have hE : Ext S0 S0 := Ext.rf _
  have cx : Cx p s m _ meth c cX12_image 1 RX12 (some .int) := ⟨hx, hb, hml, hown, hU, hr, hlk⟩
  rw [m_X12_image] at hm
  refine lv_aload_n hx hb dX12_image_0 rfl (lv_at hl 0 rfl) ?_
  refine lv_iconst (v := 0) hx hb dX12_image_1 (by decide) ?_
  refine pp_i (k := 12) (j := 0) (f := 1200) hx hb hown hU iu12 tyX12_ok nmX12 hw Ta0 (by decide) rfl (hU _ tw1471) rfl rfl rfl dX12_image_2 (fun H locs hw => ?_)
  refine lv_aload_n hx hb dX12_image_5 rfl (lv_at hl 0 rfl) ?_
  refine pg_i (k := 12) (j := 72) (f := 1272) hx hb hown hU iu12 hw Ta0 (by decide) rfl (hU _ tw1543) rfl dX12_image_6 ?_
  refine lv_iconst (v := 3) hx hb dX12_image_9 (by decide) ?_
  refine lv_icmp_ne (tgt := 15) hx hb dX12_image_10 (by decide) (fun h1 => ?_) (fun h1 => ?_)
  · rw [if_neg h1] at hm
    refine lv_aload_n hx hb dX12_image_15 rfl (lv_at hl 0 rfl) ?_
    refine lv_aload_n hx hb dX12_image_16 rfl (lv_at hl 0 rfl) ?_
    refine pg_i (k := 12) (j := 72) (f := 1272) hx hb hown hU iu12 hw Ta0 (by decide) rfl (hU _ tw1543) rfl dX12_image_17 ?_
    refine lv_iconst (v := 1) hx hb dX12_image_20 (by decide) ?_
    obtain ⟨S_2, hq3, hm⟩ := bd_some hm
    refine pw_cv (va_runV (As := [.int (pI (sI S0 1200 a0 0) 1272 a0), .int 1]) (rest := []) ⟨hx, hb, hml, hown, hU⟩ (c_X12_keepsAll l C X n (sI S0 1200 a0 0) hw.wf _ a0 (pI (sI S0 1200 a0 0) 1272 a0) 1 (Ta0) S_2 hq3) (cwV 2 hU (pq_gV tw2129 tw2131 ts180 tw14 tc_X12_keepsAll) rfl rfl rfl cd_X12_keepsAll ⟨Nat.le_of_ble_eq_true rfl, Nat.le_of_ble_eq_true rfl⟩) (pw_preV hw Ta0 (by decide) rfl) rfl rfl hl.1 rfl (lv_room (Nat.le_of_ble_eq_true rfl)) dX12_image_21 ⟨Nat.zero_le _, Nat.zero_le _⟩) hw (fun H locs hw hx4 => ?_)
    have Ta0 : TY S_2 a0 12 := ty_ext hx4 Ta0
    have hE : Ext S0 S_2 := Ext.tr hE hx4
    refine lv_aload_n hx hb dX12_image_24 rfl (lv_at hl 0 rfl) ?_
    refine lv_dup hx hb dX12_image_25 rfl ?_
    refine pg_i (k := 12) (j := 72) (f := 1272) hx hb hown hU iu12 hw Ta0 (by decide) rfl (hU _ tw1543) rfl dX12_image_26 ?_
    refine lv_iconst (v := 1) hx hb dX12_image_29 (by decide) ?_
    refine lv_iadd hx hb dX12_image_30 ?_
    refine pp_i (k := 12) (j := 72) (f := 1272) hx hb hown hU iu12 tyX12_ok nmX12 hw Ta0 (by decide) rfl (hU _ tw1543) rfl rfl rfl dX12_image_31 (fun H locs hw => ?_)
    refine lv_aload_n hx hb dX12_image_34 rfl (lv_at hl 0 rfl) ?_
    refine pg_i (k := 12) (j := 72) (f := 1272) hx hb hown hU iu12 hw Ta0 (by decide) rfl (hU _ tw1543) rfl dX12_image_35 ?_
    cases hm
    exact pw_iret hx hb hr rfl hlk hw hE dX12_image_38
  · rw [if_pos h1] at hm
    refine lv_iconst (v := (-1)) hx hb dX12_image_13 (by decide) ?_
    cases hm
    exact pw_iret hx hb hr rfl hlk hw hE dX12_image_14
abbrev rm_X12_restore : Room := { frames := 2, cells := 0, slots := 0, locals := 48 }
def m_X12_restore (n : Nat) (a0 : Nat) (S0 : pq_S) : Option (Int32 × pq_S) := if (pI (sI S0 1200 a0 0) 1272 a0) = 0 then some ((-1), (sI S0 1200 a0 0)) else lt_ (sI (sI S0 1200 a0 0) 1272 a0 ((pI (sI S0 1200 a0 0) 1272 a0) - (1 : Int32))) fun S_2 => Option.bind (m_X12_keepsAll n a0 (pI S_2 1272 a0) 0 S_2) fun S_3 => some ((pI (sI S_3 1242 a0 0) 1272 a0), (sI S_3 1242 a0 0))
theorem tc_X12_restore : Cond.code yX12_restore cX12_restore 1 (some .int) ∈ pq_U := tw2140
theorem cd_X12_restore : yX12_restore.cls = RX12 ∧ yX12_restore.cls ≠ "java/lang/invoke/MethodHandle" ∧ yX12_restore.cls ≠ "java/lang/invoke/VarHandle" ∧ (parseMethodDescriptor yX12_restore.desc).map (fun d => d.parameters.length) = some 0 := by decide +kernel
set_option maxHeartbeats 4000000 in
set_option maxRecDepth 100000 in
theorem c_X12_restore (l : Launch) (C : pq_C) (X : va_W) (n : Nat) (S0 : pq_S) (hF : WF S0) (sz : Nat) (a0 : Nat) (Ta0 : TY S0 a0 12) (r : Int32) (S1 : pq_S) (hm : m_X12_restore n a0 S0 = some (r, S1)) : MI l yX12_restore (.code yX12_restore cX12_restore 1 (some .int) :: pq_U) rm_X12_restore C X S0 sz [.ref a0] r S1 0 0 := by
  refine Met.ofW (cc := cX12_restore) (maxL := 1) (ret := (some .int)) (by decide) rfl ?_
  intro p e s m args below meth c s₁ B hml hv
  obtain ⟨rfl, hv⟩ := hv
  have hsz := hv.1
  subst hsz
  have hw := pw_entry hF hv
  have hts := atoms_spec (ws := .code yX12_restore cX12_restore 1 (some .int) :: pq_U) B.pre
  have hU : ∀ w ∈ pq_U, w.before _ s = true := fun w h => hts w (List.mem_cons_of_mem _ h)
  have hx := B.exec
  have hb := B.bytes
  have hr := B.returns
  have hown : s.vm.findClass RX12 = some m.cls := findClass_of_methodNamed B.named
  have hlk := B.notSynchronized
  have hl := lv_entry ([.ref a0]) (n := 1) (Nat.le_of_ble_eq_true rfl)
  rw [lg_entry_eq]
  generalize (lg_sl ([.ref a0]) ++ List.replicate (1 - (lg_sl ([.ref a0])).length) Slot.unset).toArray = ls at hl ⊢
  have hl : lv_has ls 1 [(0, .ref a0)] := hl
  have hE : Ext S0 S0 := Ext.rf _
  have cx : Cx p s m _ meth c cX12_restore 1 RX12 (some .int) := ⟨hx, hb, hml, hown, hU, hr, hlk⟩
  rw [m_X12_restore] at hm
  refine lv_aload_n hx hb dX12_restore_0 rfl (lv_at hl 0 rfl) ?_
  refine lv_iconst (v := 0) hx hb dX12_restore_1 (by decide) ?_
  refine pp_i (k := 12) (j := 0) (f := 1200) hx hb hown hU iu12 tyX12_ok nmX12 hw Ta0 (by decide) rfl (hU _ tw1471) rfl rfl rfl dX12_restore_2 (fun H locs hw => ?_)
  refine lv_aload_n hx hb dX12_restore_5 rfl (lv_at hl 0 rfl) ?_
  refine pg_i (k := 12) (j := 72) (f := 1272) hx hb hown hU iu12 hw Ta0 (by decide) rfl (hU _ tw1543) rfl dX12_restore_6 ?_
  refine lv_if_ne (tgt := 14) hx hb dX12_restore_9 (by decide) (fun h1 => ?_) (fun h1 => ?_)
  · rw [if_neg h1] at hm
    refine lv_aload_n hx hb dX12_restore_14 rfl (lv_at hl 0 rfl) ?_
    refine lv_dup hx hb dX12_restore_15 rfl ?_
    refine pg_i (k := 12) (j := 72) (f := 1272) hx hb hown hU iu12 hw Ta0 (by decide) rfl (hU _ tw1543) rfl dX12_restore_16 ?_
    refine lv_iconst (v := 1) hx hb dX12_restore_19 (by decide) ?_
    refine lv_isub hx hb dX12_restore_20 ?_
    refine pp_i (k := 12) (j := 72) (f := 1272) hx hb hown hU iu12 tyX12_ok nmX12 hw Ta0 (by decide) rfl (hU _ tw1543) rfl rfl rfl dX12_restore_21 (fun H locs hw => ?_)
    obtain ⟨S_2, eS_2, hm⟩ := lt_some hm
    rw [← eS_2] at hw
    have Ta0 : TY S_2 a0 12 := by rw [eS_2]; exact Ta0
    have hE : Ext S0 S_2 := by rw [eS_2]; exact hE
    refine lv_aload_n hx hb dX12_restore_24 rfl (lv_at hl 0 rfl) ?_
    refine lv_aload_n hx hb dX12_restore_25 rfl (lv_at hl 0 rfl) ?_
    refine pg_i (k := 12) (j := 72) (f := 1272) hx hb hown hU iu12 hw Ta0 (by decide) rfl (hU _ tw1543) rfl dX12_restore_26 ?_
    refine lv_iconst (v := 0) hx hb dX12_restore_29 (by decide) ?_
    obtain ⟨S_3, hq4, hm⟩ := bd_some hm
    refine pw_cv (va_runV (As := [.int (pI S_2 1272 a0), .int 0]) (rest := []) ⟨hx, hb, hml, hown, hU⟩ (c_X12_keepsAll l C X n S_2 hw.wf _ a0 (pI S_2 1272 a0) 0 (Ta0) S_3 hq4) (cwV 2 hU (pq_gV tw2129 tw2131 ts180 tw14 tc_X12_keepsAll) rfl rfl rfl cd_X12_keepsAll ⟨Nat.le_of_ble_eq_true rfl, Nat.le_of_ble_eq_true rfl⟩) (pw_preV hw Ta0 (by decide) rfl) rfl rfl hl.1 rfl (lv_room (Nat.le_of_ble_eq_true rfl)) dX12_restore_30 ⟨Nat.zero_le _, Nat.zero_le _⟩) hw (fun H locs hw hx5 => ?_)
    have Ta0 : TY S_3 a0 12 := ty_ext hx5 Ta0
    have hE : Ext S0 S_3 := Ext.tr hE hx5
    refine lv_aload_n hx hb dX12_restore_33 rfl (lv_at hl 0 rfl) ?_
    refine lv_iconst (v := 0) hx hb dX12_restore_34 (by decide) ?_
    refine pp_i (k := 12) (j := 42) (f := 1242) hx hb hown hU iu12 tyX12_ok nmX12 hw Ta0 (by decide) rfl (hU _ tw1513) rfl rfl rfl dX12_restore_35 (fun H locs hw => ?_)
    refine lv_aload_n hx hb dX12_restore_38 rfl (lv_at hl 0 rfl) ?_
    refine pg_i (k := 12) (j := 72) (f := 1272) hx hb hown hU iu12 hw Ta0 (by decide) rfl (hU _ tw1543) rfl dX12_restore_39 ?_
    cases hm
    exact pw_iret hx hb hr rfl hlk hw hE dX12_restore_42
  · rw [if_pos h1] at hm
    refine lv_iconst (v := (-1)) hx hb dX12_restore_12 (by decide) ?_
    cases hm
    exact pw_iret hx hb hr rfl hlk hw hE dX12_restore_13
abbrev rm_X12_status : Room := { frames := 1, cells := 0, slots := 0, locals := 22 }
def m_X12_status (n : Nat) (a0 : Nat) (x1 : Int32) (S0 : pq_S) : Option (Int32 × pq_S) := cb (m_X12_within n x1 0 1 (sI S0 1200 a0 0)) fun r3 S_1 => if r3 = 0 then some ((-1), S_1) else Option.bind (pR S_1 1201 a0) fun q7 => ck (ix x1 (pN S_1 q7)) (dix _ _) (some ((pA S_1 q7 (Int32.toNatClampNeg x1)), S_1))
theorem tc_X12_status : Cond.code yX12_status cX12_status 2 (some .int) ∈ pq_U := tw2144
theorem cd_X12_status : yX12_status.cls = RX12 ∧ yX12_status.cls ≠ "java/lang/invoke/MethodHandle" ∧ yX12_status.cls ≠ "java/lang/invoke/VarHandle" ∧ (parseMethodDescriptor yX12_status.desc).map (fun d => d.parameters.length) = some 1 := by decide +kernel
set_option maxHeartbeats 4000000 in
set_option maxRecDepth 100000 in
theorem c_X12_status (l : Launch) (C : pq_C) (X : va_W) (n : Nat) (S0 : pq_S) (hF : WF S0) (sz : Nat) (a0 : Nat) (x1 : Int32) (Ta0 : TY S0 a0 12) (r : Int32) (S1 : pq_S) (hm : m_X12_status n a0 x1 S0 = some (r, S1)) : MI l yX12_status (.code yX12_status cX12_status 2 (some .int) :: pq_U) rm_X12_status C X S0 sz [.ref a0, .int x1] r S1 0 0 := by
  refine Met.ofW (cc := cX12_status) (maxL := 2) (ret := (some .int)) (by decide) rfl ?_
  intro p e s m args below meth c s₁ B hml hv
  obtain ⟨rfl, hv⟩ := hv
  have hsz := hv.1
  subst hsz
  have hw := pw_entry hF hv
  have hts := atoms_spec (ws := .code yX12_status cX12_status 2 (some .int) :: pq_U) B.pre
  have hU : ∀ w ∈ pq_U, w.before _ s = true := fun w h => hts w (List.mem_cons_of_mem _ h)
  have hx := B.exec
  have hb := B.bytes
  have hr := B.returns
  have hown : s.vm.findClass RX12 = some m.cls := findClass_of_methodNamed B.named
  have hlk := B.notSynchronized
  have hl := lv_entry ([.ref a0, .int x1]) (n := 2) (Nat.le_of_ble_eq_true rfl)
  rw [lg_entry_eq]
  generalize (lg_sl ([.ref a0, .int x1]) ++ List.replicate (2 - (lg_sl ([.ref a0, .int x1])).length) Slot.unset).toArray = ls at hl ⊢
  have hl : lv_has ls 2 [(0, .ref a0), (1, .int x1)] := hl
  have hE : Ext S0 S0 := Ext.rf _
  have cx : Cx p s m _ meth c cX12_status 2 RX12 (some .int) := ⟨hx, hb, hml, hown, hU, hr, hlk⟩
  rw [m_X12_status] at hm
  refine lv_aload_n hx hb dX12_status_0 rfl (lv_at hl 0 rfl) ?_
  refine lv_iconst (v := 0) hx hb dX12_status_1 (by decide) ?_
  refine pp_i (k := 12) (j := 0) (f := 1200) hx hb hown hU iu12 tyX12_ok nmX12 hw Ta0 (by decide) rfl (hU _ tw1471) rfl rfl rfl dX12_status_2 (fun H locs hw => ?_)
  refine lv_iload_n hx hb dX12_status_5 rfl (lv_at hl 1 rfl) ?_
  refine lv_iconst (v := 0) hx hb dX12_status_6 (by decide) ?_
  refine lv_iconst (v := 1) hx hb dX12_status_7 (by decide) ?_
  obtain ⟨r3, S_1, hq2, hm⟩ := cb_some hm
  refine pw_cz (va_runS (As := [.int x1, .int 0, .int 1]) (rest := []) ⟨hx, hb, hml, hown, hU⟩ (c_X12_within l C X n (sI S0 1200 a0 0) hw.wf _ x1 0 1  r3 S_1 hq2) ⟨callB_of 3 hU (pq_g1 tc_X12_within) rfl rfl rfl (hU _ tw14) (hU _ tw1776) cd_X12_within.2 ⟨Nat.le_of_ble_eq_true rfl, Nat.le_of_ble_eq_true rfl⟩, hU _ tw1777⟩ (pw_preS hw) rfl rfl hl.1 rfl (lv_room (Nat.le_of_ble_eq_true rfl)) dX12_status_8 ⟨Nat.zero_le _, Nat.zero_le _⟩) hw (fun H locs hw hx4 hz5 => ?_)
  have Ta0 : TY S_1 a0 12 := ty_ext hx4 Ta0
  have hE : Ext S0 S_1 := Ext.tr hE hx4
  refine lv_if_eq (tgt := 23) hx hb dX12_status_11 (by decide) (fun h6 => ?_) (fun h6 => ?_)
  · rw [if_pos h6] at hm
    refine lv_iconst (v := (-1)) hx hb dX12_status_23 (by decide) ?_
    cases hm
    exact pw_iret hx hb hr rfl hlk hw hE dX12_status_24
  · rw [if_neg h6] at hm
    refine lv_aload_n hx hb dX12_status_14 rfl (lv_at hl 0 rfl) ?_
    obtain ⟨q7, hq7, hm⟩ := bd_some hm
    have Tq7 : TY S_1 q7 14 := hw.wf.ref (k := 12) (j := 1) Ta0 (by decide) (by decide) hq7
    refine pg_rb (k := 12) (j := 1) (f := 1201) hx hb hown hU iu12 hw Ta0 (by decide) rfl (hU _ tw1472) rfl hq7 dX12_status_15 ?_
    refine lv_iload_n hx hb dX12_status_18 rfl (lv_at hl 1 rfl) ?_
    obtain ⟨hi8, hm⟩ := ck_some hm
    refine pw_iald hx hb hw Tq7 hi8 dX12_status_19 ?_
    refine lv_goto (tgt := 24) hx hb dX12_status_20 (by decide) ?_
    cases hm
    exact pw_iret hx hb hr rfl hlk hw hE dX12_status_24
abbrev rm_X12_count : Room := { frames := 0, cells := 0, slots := 0, locals := 0 }
def m_X12_count (n : Nat) (a0 : Nat) (x1 : Int32) (S0 : pq_S) : Option (Int32 × pq_S) := if x1 = 0 then some ((pI (sI S0 1200 a0 0) 1272 a0), (sI S0 1200 a0 0)) else if x1 = 1 then some ((pI (sI S0 1200 a0 0) 1202 a0), (sI S0 1200 a0 0)) else if x1 = 2 then some ((pI (sI S0 1200 a0 0) 1241 a0), (sI S0 1200 a0 0)) else some ((-1), (sI S0 1200 a0 0))
theorem tc_X12_count : Cond.code yX12_count cX12_count 2 (some .int) ∈ pq_U := tw2148
theorem cd_X12_count : yX12_count.cls = RX12 ∧ yX12_count.cls ≠ "java/lang/invoke/MethodHandle" ∧ yX12_count.cls ≠ "java/lang/invoke/VarHandle" ∧ (parseMethodDescriptor yX12_count.desc).map (fun d => d.parameters.length) = some 1 := by decide +kernel
set_option maxHeartbeats 4000000 in
set_option maxRecDepth 100000 in
theorem c_X12_count (l : Launch) (C : pq_C) (X : va_W) (n : Nat) (S0 : pq_S) (hF : WF S0) (sz : Nat) (a0 : Nat) (x1 : Int32) (Ta0 : TY S0 a0 12) (r : Int32) (S1 : pq_S) (hm : m_X12_count n a0 x1 S0 = some (r, S1)) : MI l yX12_count (.code yX12_count cX12_count 2 (some .int) :: pq_U) rm_X12_count C X S0 sz [.ref a0, .int x1] r S1 0 0 := by
  refine Met.ofW (cc := cX12_count) (maxL := 2) (ret := (some .int)) (by decide) rfl ?_
  intro p e s m args below meth c s₁ B hml hv
  obtain ⟨rfl, hv⟩ := hv
  have hsz := hv.1
  subst hsz
  have hw := pw_entry hF hv
  have hts := atoms_spec (ws := .code yX12_count cX12_count 2 (some .int) :: pq_U) B.pre
  have hU : ∀ w ∈ pq_U, w.before _ s = true := fun w h => hts w (List.mem_cons_of_mem _ h)
  have hx := B.exec
  have hb := B.bytes
  have hr := B.returns
  have hown : s.vm.findClass RX12 = some m.cls := findClass_of_methodNamed B.named
  have hlk := B.notSynchronized
  have hl := lv_entry ([.ref a0, .int x1]) (n := 2) (Nat.le_of_ble_eq_true rfl)
  rw [lg_entry_eq]
  generalize (lg_sl ([.ref a0, .int x1]) ++ List.replicate (2 - (lg_sl ([.ref a0, .int x1])).length) Slot.unset).toArray = ls at hl ⊢
  have hl : lv_has ls 2 [(0, .ref a0), (1, .int x1)] := hl
  have hE : Ext S0 S0 := Ext.rf _
  have cx : Cx p s m _ meth c cX12_count 2 RX12 (some .int) := ⟨hx, hb, hml, hown, hU, hr, hlk⟩
  rw [m_X12_count] at hm
  refine lv_aload_n hx hb dX12_count_0 rfl (lv_at hl 0 rfl) ?_
  refine lv_iconst (v := 0) hx hb dX12_count_1 (by decide) ?_
  refine pp_i (k := 12) (j := 0) (f := 1200) hx hb hown hU iu12 tyX12_ok nmX12 hw Ta0 (by decide) rfl (hU _ tw1471) rfl rfl rfl dX12_count_2 (fun H locs hw => ?_)
  refine lv_iload_n hx hb dX12_count_5 rfl (lv_at hl 1 rfl) ?_
  refine lv_if_ne (tgt := 16) hx hb dX12_count_6 (by decide) (fun h1 => ?_) (fun h1 => ?_)
  · rw [if_neg h1] at hm
    refine lv_iload_n hx hb dX12_count_16 rfl (lv_at hl 1 rfl) ?_
    refine lv_iconst (v := 1) hx hb dX12_count_17 (by decide) ?_
    refine lv_icmp_ne (tgt := 28) hx hb dX12_count_18 (by decide) (fun h2 => ?_) (fun h2 => ?_)
    · rw [if_neg h2] at hm
      refine lv_iload_n hx hb dX12_count_28 rfl (lv_at hl 1 rfl) ?_
      refine lv_iconst (v := 2) hx hb dX12_count_29 (by decide) ?_
      refine lv_icmp_ne (tgt := 40) hx hb dX12_count_30 (by decide) (fun h3 => ?_) (fun h3 => ?_)
      · rw [if_neg h3] at hm
        refine lv_iconst (v := (-1)) hx hb dX12_count_40 (by decide) ?_
        cases hm
        exact pw_iret hx hb hr rfl hlk hw hE dX12_count_41
      · rw [if_pos h3] at hm
        refine lv_aload_n hx hb dX12_count_33 rfl (lv_at hl 0 rfl) ?_
        refine pg_i (k := 12) (j := 41) (f := 1241) hx hb hown hU iu12 hw Ta0 (by decide) rfl (hU _ tw1512) rfl dX12_count_34 ?_
        refine lv_goto (tgt := 41) hx hb dX12_count_37 (by decide) ?_
        cases hm
        exact pw_iret hx hb hr rfl hlk hw hE dX12_count_41
    · rw [if_pos h2] at hm
      refine lv_aload_n hx hb dX12_count_21 rfl (lv_at hl 0 rfl) ?_
      refine pg_i (k := 12) (j := 2) (f := 1202) hx hb hown hU iu12 hw Ta0 (by decide) rfl (hU _ tw1473) rfl dX12_count_22 ?_
      refine lv_goto (tgt := 41) hx hb dX12_count_25 (by decide) ?_
      cases hm
      exact pw_iret hx hb hr rfl hlk hw hE dX12_count_41
  · rw [if_pos h1] at hm
    refine lv_aload_n hx hb dX12_count_9 rfl (lv_at hl 0 rfl) ?_
    refine pg_i (k := 12) (j := 72) (f := 1272) hx hb hown hU iu12 hw Ta0 (by decide) rfl (hU _ tw1543) rfl dX12_count_10 ?_
    refine lv_goto (tgt := 41) hx hb dX12_count_13 (by decide) ?_
    cases hm
    exact pw_iret hx hb hr rfl hlk hw hE dX12_count_41
