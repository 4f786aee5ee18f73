abbrev rm_X12_chosen : Room := { frames := 1, cells := 0, slots := 0, locals := 23 }
def b_X12_chosen_82 (n : Nat) (k18 : Nat → Int32 → Int32 → Int32 → pq_S → Option (Int32 × pq_S)) (a0 : Nat) (x1 : Int32) (x2 : Int32) (x3 : Int32) (S : pq_S) : Option (Int32 × pq_S) := k18 a0 x1 x2 (x3 + 1) S
set_option maxHeartbeats 4000000 in
set_option maxRecDepth 100000 in
theorem wb_X12_chosen_82 {p : Program} {l : Launch} {e : Env} {s : State} {m : MethodId} {args : Array Value} {below : List Frame} {meth : Method} {c : Code} (cx : Cx p s m args meth c cX12_chosen 4 RX12 (some .int)) (C : pq_C) (X : va_W) (S0 : pq_S) (n : Nat) (r : Int32) (S1 : pq_S) (k18 : Nat → Int32 → Int32 → Int32 → pq_S → Option (Int32 × pq_S)) (hk18 : ∀ (a0 : Nat) (x1 : Int32) (x2 : Int32) (x3 : Int32) (S : pq_S) (H : Heap) (locs : List Loc) (ls : Array Slot), PW C X S (pq_F C X S0 s.heap.size) H locs s → Ext S0 S → TY S a0 12 → lv_has ls 4 [(0, .ref a0), (1, .int x1), (2, .int x2), (3, .int x3)] → k18 a0 x1 x2 x3 S = some (r, S1) → W p l e rm_X12_chosen s m args below meth c H locs 0 0 (MQ below (QcI C X S0 s.heap.size r S1) args s 0 0 (pq_F C X S0 s.heap.size)) (F0 m 26 ls [])) : ∀ (a0 : Nat) (x1 : Int32) (x2 : Int32) (x3 : Int32) (S : pq_S) (H : Heap) (locs : List Loc) (ls : Array Slot), PW C X S (pq_F C X S0 s.heap.size) H locs s → Ext S0 S → TY S a0 12 → lv_has ls 4 [(0, .ref a0), (1, .int x1), (2, .int x2), (3, .int x3)] → b_X12_chosen_82 n k18 a0 x1 x2 x3 S = some (r, S1) → W p l e rm_X12_chosen s m args below meth c H locs 0 0 (MQ below (QcI C X S0 s.heap.size r S1) args s 0 0 (pq_F C X S0 s.heap.size)) (F0 m 82 ls []) := by
  obtain ⟨hx, hb, hml, hown, hU, hr, hlk⟩ := id cx
  intro a0 x1 x2 x3 S H locs ls hw hE Ta0 hl hm
  rw [b_X12_chosen_82] at hm
  refine lv_iinc (v := (x3 + 1)) (lv' := [(3, .int (x3 + 1)), (0, .ref a0), (1, .int x1), (2, .int x2)]) hx hb dX12_chosen_82 hl (k := 3) rfl rfl (by decide) rfl (fun ls hl => ?_)
  refine lv_goto (tgt := 26) hx hb dX12_chosen_85 (by decide) ?_
  exact hk18 a0 x1 x2 (x3 + 1) S _ _ _ hw hE Ta0 (lv_sub hl [1, 2, 3, 0] rfl) hm
def b_X12_chosen_80 (n : Nat) (k18 : Nat → Int32 → Int32 → Int32 → pq_S → Option (Int32 × pq_S)) (a0 : Nat) (x1 : Int32) (x3 : Int32) (S : pq_S) : Option (Int32 × pq_S) := b_X12_chosen_82 n k18 a0 x1 x3 x3 S
set_option maxHeartbeats 4000000 in
set_option maxRecDepth 100000 in
theorem wb_X12_chosen_80 {p : Program} {l : Launch} {e : Env} {s : State} {m : MethodId} {args : Array Value} {below : List Frame} {meth : Method} {c : Code} (cx : Cx p s m args meth c cX12_chosen 4 RX12 (some .int)) (C : pq_C) (X : va_W) (S0 : pq_S) (n : Nat) (r : Int32) (S1 : pq_S) (k18 : Nat → Int32 → Int32 → Int32 → pq_S → Option (Int32 × pq_S)) (hk18 : ∀ (a0 : Nat) (x1 : Int32) (x2 : Int32) (x3 : Int32) (S : pq_S) (H : Heap) (locs : List Loc) (ls : Array Slot), PW C X S (pq_F C X S0 s.heap.size) H locs s → Ext S0 S → TY S a0 12 → lv_has ls 4 [(0, .ref a0), (1, .int x1), (2, .int x2), (3, .int x3)] → k18 a0 x1 x2 x3 S = some (r, S1) → W p l e rm_X12_chosen s m args below meth c H locs 0 0 (MQ below (QcI C X S0 s.heap.size r S1) args s 0 0 (pq_F C X S0 s.heap.size)) (F0 m 26 ls [])) : ∀ (a0 : Nat) (x1 : Int32) (x3 : Int32) (S : pq_S) (H : Heap) (locs : List Loc) (ls : Array Slot), PW C X S (pq_F C X S0 s.heap.size) H locs s → Ext S0 S → TY S a0 12 → lv_has ls 4 [(0, .ref a0), (1, .int x1), (3, .int x3)] → b_X12_chosen_80 n k18 a0 x1 x3 S = some (r, S1) → W p l e rm_X12_chosen s m args below meth c H locs 0 0 (MQ below (QcI C X S0 s.heap.size r S1) args s 0 0 (pq_F C X S0 s.heap.size)) (F0 m 80 ls []) := by
  obtain ⟨hx, hb, hml, hown, hU, hr, hlk⟩ := id cx
  intro a0 x1 x3 S H locs ls hw hE Ta0 hl hm
  rw [b_X12_chosen_80] at hm
  refine lv_iload_n hx hb dX12_chosen_80 rfl (lv_at hl 2 rfl) ?_
  refine lv_istore_n (lv' := [(2, .int x3), (0, .ref a0), (1, .int x1), (3, .int x3)]) hx hb dX12_chosen_81 rfl hl (by decide) rfl (fun ls hl => ?_)
  exact wb_X12_chosen_82 cx C X S0 n r S1 _ hk18 a0 x1 x3 x3 S _ _ _ hw hE Ta0 (lv_sub hl [1, 2, 0, 3] rfl) hm
def b_X12_chosen_65 (n : Nat) (k18 : Nat → Int32 → Int32 → Int32 → pq_S → Option (Int32 × pq_S)) (a0 : Nat) (x1 : Int32) (x2 : Int32) (x3 : Int32) (S : pq_S) : Option (Int32 × pq_S) := if x2 = (-1) then b_X12_chosen_80 n k18 a0 x1 x3 S else cb (m_X12_isAbove n a0 x1 x3 x2 S) fun r21 S_19 => if r21 = 0 then b_X12_chosen_82 n k18 a0 x1 x2 x3 S_19 else b_X12_chosen_80 n k18 a0 x1 x3 S_19
set_option maxHeartbeats 4000000 in
set_option maxRecDepth 100000 in
theorem wb_X12_chosen_65 {p : Program} {l : Launch} {e : Env} {s : State} {m : MethodId} {args : Array Value} {below : List Frame} {meth : Method} {c : Code} (cx : Cx p s m args meth c cX12_chosen 4 RX12 (some .int)) (C : pq_C) (X : va_W) (S0 : pq_S) (n : Nat) (r : Int32) (S1 : pq_S) (k18 : Nat → Int32 → Int32 → Int32 → pq_S → Option (Int32 × pq_S)) (hk18 : ∀ (a0 : Nat) (x1 : Int32) (x2 : Int32) (x3 : Int32) (S : pq_S) (H : Heap) (locs : List Loc) (ls : Array Slot), PW C X S (pq_F C X S0 s.heap.size) H locs s → Ext S0 S → TY S a0 12 → lv_has ls 4 [(0, .ref a0), (1, .int x1), (2, .int x2), (3, .int x3)] → k18 a0 x1 x2 x3 S = some (r, S1) → W p l e rm_X12_chosen s m args below meth c H locs 0 0 (MQ below (QcI C X S0 s.heap.size r S1) args s 0 0 (pq_F C X S0 s.heap.size)) (F0 m 26 ls [])) : ∀ (a0 : Nat) (x1 : Int32) (x2 : Int32) (x3 : Int32) (S : pq_S) (H : Heap) (locs : List Loc) (ls : Array Slot), PW C X S (pq_F C X S0 s.heap.size) H locs s → Ext S0 S → TY S a0 12 → lv_has ls 4 [(0, .ref a0), (1, .int x1), (2, .int x2), (3, .int x3)] → b_X12_chosen_65 n k18 a0 x1 x2 x3 S = some (r, S1) → W p l e rm_X12_chosen s m args below meth c H locs 0 0 (MQ below (QcI C X S0 s.heap.size r S1) args s 0 0 (pq_F C X S0 s.heap.size)) (F0 m 65 ls []) := by
  obtain ⟨hx, hb, hml, hown, hU, hr, hlk⟩ := id cx
  intro a0 x1 x2 x3 S H locs ls hw hE Ta0 hl hm
  rw [b_X12_chosen_65] at hm
  refine lv_iload_n hx hb dX12_chosen_65 rfl (lv_at hl 2 rfl) ?_
  refine lv_iconst (v := (-1)) hx hb dX12_chosen_66 (by decide) ?_
  refine lv_icmp_eq (tgt := 80) hx hb dX12_chosen_67 (by decide) (fun h18 => ?_) (fun h18 => ?_)
  · rw [if_pos h18] at hm
    exact wb_X12_chosen_80 cx C X S0 n r S1 _ hk18 a0 x1 x3 S _ _ _ hw hE Ta0 (lv_sub hl [0, 1, 3] rfl) hm
  · rw [if_neg h18] at hm
    refine lv_aload_n hx hb dX12_chosen_70 rfl (lv_at hl 0 rfl) ?_
    refine lv_iload_n hx hb dX12_chosen_71 rfl (lv_at hl 1 rfl) ?_
    refine lv_iload_n hx hb dX12_chosen_72 rfl (lv_at hl 3 rfl) ?_
    refine lv_iload_n hx hb dX12_chosen_73 rfl (lv_at hl 2 rfl) ?_
    obtain ⟨r21, S_19, hq20, hm⟩ := cb_some hm
    refine pw_cz (va_runV (As := [.int x1, .int x3, .int x2]) (rest := []) ⟨hx, hb, hml, hown, hU⟩ (c_X12_isAbove l C X n S hw.wf _ a0 x1 x3 x2 (Ta0) r21 S_19 hq20) (cwV 3 hU (pq_gV tw2121 tw2123 ts179 tw14 tc_X12_isAbove) rfl rfl rfl cd_X12_isAbove ⟨Nat.le_of_ble_eq_true rfl, Nat.le_of_ble_eq_true rfl⟩) (pw_preV hw Ta0 (by decide) rfl) rfl rfl hl.1 rfl (lv_room (Nat.le_of_ble_eq_true rfl)) dX12_chosen_74 ⟨Nat.zero_le _, Nat.zero_le _⟩) hw (fun H locs hw hx22 hz23 => ?_)
    have Ta0 : TY S_19 a0 12 := ty_ext hx22 Ta0
    have hE : Ext S0 S_19 := Ext.tr hE hx22
    refine lv_if_eq (tgt := 82) hx hb dX12_chosen_77 (by decide) (fun h24 => ?_) (fun h24 => ?_)
    · rw [if_pos h24] at hm
      exact wb_X12_chosen_82 cx C X S0 n r S1 _ hk18 a0 x1 x2 x3 S_19 _ _ _ hw hE Ta0 (lv_sub hl [0, 1, 2, 3] rfl) hm
    · rw [if_neg h24] at hm
      exact wb_X12_chosen_80 cx C X S0 n r S1 _ hk18 a0 x1 x3 S_19 _ _ _ hw hE Ta0 (lv_sub hl [0, 1, 3] rfl) hm
def b_X12_chosen_42 (n : Nat) (k18 : Nat → Int32 → Int32 → Int32 → pq_S → Option (Int32 × pq_S)) (a0 : Nat) (x1 : Int32) (x2 : Int32) (x3 : Int32) (z0 : Int32) (z1 : Int32) (S : pq_S) : Option (Int32 × pq_S) := if z1 ≤ z0 then some (x2, S) else if x1 = 1 then Option.bind (pR S 1246 a0) fun q15 => ck (ix ((18 : Int32) + x3) (pN S q15)) (dix _ _) (if (pA S q15 (Int32.toNatClampNeg ((18 : Int32) + x3))) = 0 then b_X12_chosen_82 n k18 a0 x1 x2 x3 S else b_X12_chosen_65 n k18 a0 x1 x2 x3 S) else b_X12_chosen_65 n k18 a0 x1 x2 x3 S
set_option maxHeartbeats 4000000 in
set_option maxRecDepth 100000 in
theorem wb_X12_chosen_42 {p : Program} {l : Launch} {e : Env} {s : State} {m : MethodId} {args : Array Value} {below : List Frame} {meth : Method} {c : Code} (cx : Cx p s m args meth c cX12_chosen 4 RX12 (some .int)) (C : pq_C) (X : va_W) (S0 : pq_S) (n : Nat) (r : Int32) (S1 : pq_S) (k18 : Nat → Int32 → Int32 → Int32 → pq_S → Option (Int32 × pq_S)) (hk18 : ∀ (a0 : Nat) (x1 : Int32) (x2 : Int32) (x3 : Int32) (S : pq_S) (H : Heap) (locs : List Loc) (ls : Array Slot), PW C X S (pq_F C X S0 s.heap.size) H locs s → Ext S0 S → TY S a0 12 → lv_has ls 4 [(0, .ref a0), (1, .int x1), (2, .int x2), (3, .int x3)] → k18 a0 x1 x2 x3 S = some (r, S1) → W p l e rm_X12_chosen s m args below meth c H locs 0 0 (MQ below (QcI C X S0 s.heap.size r S1) args s 0 0 (pq_F C X S0 s.heap.size)) (F0 m 26 ls [])) : ∀ (a0 : Nat) (x1 : Int32) (x2 : Int32) (x3 : Int32) (z0 : Int32) (z1 : Int32) (S : pq_S) (H : Heap) (locs : List Loc) (ls : Array Slot), PW C X S (pq_F C X S0 s.heap.size) H locs s → Ext S0 S → TY S a0 12 → lv_has ls 4 [(0, .ref a0), (1, .int x1), (2, .int x2), (3, .int x3)] → b_X12_chosen_42 n k18 a0 x1 x2 x3 z0 z1 S = some (r, S1) → W p l e rm_X12_chosen s m args below meth c H locs 0 0 (MQ below (QcI C X S0 s.heap.size r S1) args s 0 0 (pq_F C X S0 s.heap.size)) (F0 m 42 ls [.int z1, .int z0]) := by
  obtain ⟨hx, hb, hml, hown, hU, hr, hlk⟩ := id cx
  intro a0 x1 x2 x3 z0 z1 S H locs ls hw hE Ta0 hl hm
  rw [b_X12_chosen_42] at hm
  refine lv_icmp_ge (tgt := 88) hx hb dX12_chosen_42 (by decide) (fun h13 => ?_) (fun h13 => ?_)
  · rw [if_pos h13] at hm
    refine lv_iload_n hx hb dX12_chosen_88 rfl (lv_at hl 2 rfl) ?_
    cases hm
    exact pw_iret hx hb hr rfl hlk hw hE dX12_chosen_89
  · rw [if_neg h13] at hm
    refine lv_iload_n hx hb dX12_chosen_45 rfl (lv_at hl 1 rfl) ?_
    refine lv_iconst (v := 1) hx hb dX12_chosen_46 (by decide) ?_
    refine lv_icmp_ne (tgt := 65) hx hb dX12_chosen_47 (by decide) (fun h14 => ?_) (fun h14 => ?_)
    · rw [if_neg h14] at hm
      exact wb_X12_chosen_65 cx C X S0 n r S1 _ hk18 a0 x1 x2 x3 S _ _ _ hw hE Ta0 (lv_sub hl [0, 1, 2, 3] rfl) hm
    · rw [if_pos h14] at hm
      refine lv_aload_n hx hb dX12_chosen_50 rfl (lv_at hl 0 rfl) ?_
      obtain ⟨q15, hq15, hm⟩ := bd_some hm
      have Tq15 : TY S q15 14 := hw.wf.ref (k := 12) (j := 46) Ta0 (by decide) (by decide) hq15
      refine pg_rb (k := 12) (j := 46) (f := 1246) hx hb hown hU iu12 hw Ta0 (by decide) rfl (hU _ tw1517) rfl hq15 dX12_chosen_51 ?_
      refine lv_bipush (v := 18) hx hb dX12_chosen_54 (by decide) ?_
      refine lv_iload_n hx hb dX12_chosen_56 rfl (lv_at hl 3 rfl) ?_
      refine lv_iadd hx hb dX12_chosen_57 ?_
      obtain ⟨hi16, hm⟩ := ck_some hm
      refine pw_iald hx hb hw Tq15 hi16 dX12_chosen_58 ?_
      refine lv_if_ne (tgt := 65) hx hb dX12_chosen_59 (by decide) (fun h17 => ?_) (fun h17 => ?_)
      · rw [if_neg h17] at hm
        exact wb_X12_chosen_65 cx C X S0 n r S1 _ hk18 a0 x1 x2 x3 S _ _ _ hw hE Ta0 (lv_sub hl [0, 1, 2, 3] rfl) hm
      · rw [if_pos h17] at hm
        refine lv_goto (tgt := 82) hx hb dX12_chosen_62 (by decide) ?_
        exact wb_X12_chosen_82 cx C X S0 n r S1 _ hk18 a0 x1 x2 x3 S _ _ _ hw hE Ta0 (lv_sub hl [0, 1, 2, 3] rfl) hm
def b_X12_chosen_26 (n : Nat) : Nat → Nat → Int32 → Int32 → Int32 → pq_S → Option (Int32 × pq_S)
  | 0, _, _, _, _, _ => none
  | f + 1, a0, x1, x2, x3, S => if x1 = 0 then b_X12_chosen_42 n (b_X12_chosen_26 n f) a0 x1 x2 x3 x3 (pI S 1224 a0) S else b_X12_chosen_42 n (b_X12_chosen_26 n f) a0 x1 x2 x3 x3 (pI S 1225 a0) S
set_option maxHeartbeats 4000000 in
set_option maxRecDepth 100000 in
theorem wb_X12_chosen_26 {p : Program} {l : Launch} {e : Env} {s : State} {m : MethodId} {args : Array Value} {below : List Frame} {meth : Method} {c : Code} (cx : Cx p s m args meth c cX12_chosen 4 RX12 (some .int)) (C : pq_C) (X : va_W) (S0 : pq_S) (n : Nat) (r : Int32) (S1 : pq_S) : ∀ (f : Nat) (a0 : Nat) (x1 : Int32) (x2 : Int32) (x3 : Int32) (S : pq_S) (H : Heap) (locs : List Loc) (ls : Array Slot), PW C X S (pq_F C X S0 s.heap.size) H locs s → Ext S0 S → TY S a0 12 → lv_has ls 4 [(0, .ref a0), (1, .int x1), (2, .int x2), (3, .int x3)] → b_X12_chosen_26 n f a0 x1 x2 x3 S = some (r, S1) → W p l e rm_X12_chosen s m args below meth c H locs 0 0 (MQ below (QcI C X S0 s.heap.size r S1) args s 0 0 (pq_F C X S0 s.heap.size)) (F0 m 26 ls []) := by
  obtain ⟨hx, hb, hml, hown, hU, hr, hlk⟩ := id cx
  intro f
  induction f with
  | zero =>
    intro a0 x1 x2 x3 S H locs ls hw hE Ta0 hl hm
    cases hm
  | succ f ih =>
    intro a0 x1 x2 x3 S H locs ls hw hE Ta0 hl hm
    rw [b_X12_chosen_26] at hm
    refine lv_iload_n hx hb dX12_chosen_26 rfl (lv_at hl 3 rfl) ?_
    refine lv_iload_n hx hb dX12_chosen_27 rfl (lv_at hl 1 rfl) ?_
    refine lv_if_ne (tgt := 38) hx hb dX12_chosen_28 (by decide) (fun h12 => ?_) (fun h12 => ?_)
    · rw [if_neg h12] at hm
      refine lv_aload_n hx hb dX12_chosen_38 rfl (lv_at hl 0 rfl) ?_
      refine pg_i (k := 12) (j := 25) (f := 1225) hx hb hown hU iu12 hw Ta0 (by decide) rfl (hU _ tw1496) rfl dX12_chosen_39 ?_
      exact wb_X12_chosen_42 cx C X S0 n r S1 _ ih a0 x1 x2 x3 x3 (pI S 1225 a0) S _ _ _ hw hE Ta0 (lv_sub hl [0, 1, 2, 3] rfl) hm
    · rw [if_pos h12] at hm
      refine lv_aload_n hx hb dX12_chosen_31 rfl (lv_at hl 0 rfl) ?_
      refine pg_i (k := 12) (j := 24) (f := 1224) hx hb hown hU iu12 hw Ta0 (by decide) rfl (hU _ tw1495) rfl dX12_chosen_32 ?_
      refine lv_goto (tgt := 42) hx hb dX12_chosen_35 (by decide) ?_
      exact wb_X12_chosen_42 cx C X S0 n r S1 _ ih a0 x1 x2 x3 x3 (pI S 1224 a0) S _ _ _ hw hE Ta0 (lv_sub hl [0, 1, 2, 3] rfl) hm
def m_X12_chosen (n : Nat) (a0 : Nat) (x1 : Int32) (S0 : pq_S) : Option (Int32 × pq_S) := cb (m_X12_within n x1 0 1 (sI S0 1200 a0 0)) fun r3 S_1 => cb (m_X12_may n a0 r3 1 1 S_1) fun r8 S_6 => if r8 = 0 then some (0, S_6) else b_X12_chosen_26 n n a0 x1 (-1) 0 S_6
theorem tc_X12_chosen : Cond.code yX12_chosen cX12_chosen 4 (some .int) ∈ pq_U := tw2120
theorem cd_X12_chosen : yX12_chosen.cls = RX12 ∧ yX12_chosen.cls ≠ "java/lang/invoke/MethodHandle" ∧ yX12_chosen.cls ≠ "java/lang/invoke/VarHandle" ∧ (parseMethodDescriptor yX12_chosen.desc).map (fun d => d.parameters.length) = some 1 := by decide +kernel
set_option maxHeartbeats 4000000 in
set_option maxRecDepth 100000 in
theorem c_X12_chosen (l : Launch) (C : pq_C) (X : va_W) (n : Nat) (S0 : pq_S) (hF : WF S0) (sz : Nat) (a0 : Nat) (x1 : Int32) (Ta0 : TY S0 a0 12) (r : Int32) (S1 : pq_S) (hm : m_X12_chosen n a0 x1 S0 = some (r, S1)) : MI l yX12_chosen (.code yX12_chosen cX12_chosen 4 (some .int) :: pq_U) rm_X12_chosen C X S0 sz [.ref a0, .int x1] r S1 0 0 := by
  refine Met.ofW (cc := cX12_chosen) (maxL := 4) (ret := (some .int)) (by decide) rfl ?_
  intro p e s m args below meth c s₁ B hml hv
  obtain ⟨rfl, hv⟩ := hv
  have hsz := hv.1
  subst hsz
  have hw := pw_entry hF hv
  have hts := atoms_spec (ws := .code yX12_chosen cX12_chosen 4 (some .int) :: pq_U) B.pre
  have hU : ∀ w ∈ pq_U, w.before _ s = true := fun w h => hts w (List.mem_cons_of_mem _ h)
  have hx := B.exec
  have hb := B.bytes
  have hr := B.returns
  have hown : s.vm.findClass RX12 = some m.cls := findClass_of_methodNamed B.named
  have hlk := B.notSynchronized
  have hl := lv_entry ([.ref a0, .int x1]) (n := 4) (Nat.le_of_ble_eq_true rfl)
  rw [lg_entry_eq]
  generalize (lg_sl ([.ref a0, .int x1]) ++ List.replicate (4 - (lg_sl ([.ref a0, .int x1])).length) Slot.unset).toArray = ls at hl ⊢
  have hl : lv_has ls 4 [(0, .ref a0), (1, .int x1)] := hl
  have hE : Ext S0 S0 := Ext.rf _
  have cx : Cx p s m _ meth c cX12_chosen 4 RX12 (some .int) := ⟨hx, hb, hml, hown, hU, hr, hlk⟩
  rw [m_X12_chosen] at hm
  refine lv_aload_n hx hb dX12_chosen_0 rfl (lv_at hl 0 rfl) ?_
  refine lv_iconst (v := 0) hx hb dX12_chosen_1 (by decide) ?_
  refine pp_i (k := 12) (j := 0) (f := 1200) hx hb hown hU iu12 tyX12_ok nmX12 hw Ta0 (by decide) rfl (hU _ tw1471) rfl rfl rfl dX12_chosen_2 (fun H locs hw => ?_)
  refine lv_aload_n hx hb dX12_chosen_5 rfl (lv_at hl 0 rfl) ?_
  refine lv_iload_n hx hb dX12_chosen_6 rfl (lv_at hl 1 rfl) ?_
  refine lv_iconst (v := 0) hx hb dX12_chosen_7 (by decide) ?_
  refine lv_iconst (v := 1) hx hb dX12_chosen_8 (by decide) ?_
  obtain ⟨r3, S_1, hq2, hm⟩ := cb_some hm
  refine pw_cz (va_runS (As := [.int x1, .int 0, .int 1]) (rest := [.ref a0]) ⟨hx, hb, hml, hown, hU⟩ (c_X12_within l C X n (sI S0 1200 a0 0) hw.wf _ x1 0 1  r3 S_1 hq2) ⟨callB_of 3 hU (pq_g1 tc_X12_within) rfl rfl rfl (hU _ tw14) (hU _ tw1776) cd_X12_within.2 ⟨Nat.le_of_ble_eq_true rfl, Nat.le_of_ble_eq_true rfl⟩, hU _ tw1777⟩ (pw_preS hw) rfl rfl hl.1 rfl (lv_room (Nat.le_of_ble_eq_true rfl)) dX12_chosen_9 ⟨Nat.zero_le _, Nat.zero_le _⟩) hw (fun H locs hw hx4 hz5 => ?_)
  have Ta0 : TY S_1 a0 12 := ty_ext hx4 Ta0
  have hE : Ext S0 S_1 := Ext.tr hE hx4
  refine lv_iconst (v := 1) hx hb dX12_chosen_12 (by decide) ?_
  refine lv_iconst (v := 1) hx hb dX12_chosen_13 (by decide) ?_
  obtain ⟨r8, S_6, hq7, hm⟩ := cb_some hm
  refine pw_cz (va_runV (As := [.int r3, .int 1, .int 1]) (rest := []) ⟨hx, hb, hml, hown, hU⟩ (c_X12_may l C X n S_1 hw.wf _ a0 r3 1 1 (Ta0) r8 S_6 hq7) (cwV 3 hU (pq_gV tw1703 tw1705 ts123 tw14 tc_X12_may) rfl rfl rfl cd_X12_may ⟨Nat.le_of_ble_eq_true rfl, Nat.le_of_ble_eq_true rfl⟩) (pw_preV hw Ta0 (by decide) rfl) rfl rfl hl.1 rfl (lv_room (Nat.le_of_ble_eq_true rfl)) dX12_chosen_14 ⟨Nat.zero_le _, Nat.zero_le _⟩) hw (fun H locs hw hx9 hz10 => ?_)
  have Ta0 : TY S_6 a0 12 := ty_ext hx9 Ta0
  have hE : Ext S0 S_6 := Ext.tr hE hx9
  refine lv_if_ne (tgt := 22) hx hb dX12_chosen_17 (by decide) (fun h11 => ?_) (fun h11 => ?_)
  · rw [if_neg h11] at hm
    refine lv_iconst (v := (-1)) hx hb dX12_chosen_22 (by decide) ?_
    refine lv_istore_n (lv' := [(2, .int (-1)), (0, .ref a0), (1, .int x1)]) hx hb dX12_chosen_23 rfl hl (by decide) rfl (fun ls hl => ?_)
    refine lv_iconst (v := 0) hx hb dX12_chosen_24 (by decide) ?_
    refine lv_istore_n (lv' := [(3, .int 0), (2, .int (-1)), (0, .ref a0), (1, .int x1)]) hx hb dX12_chosen_25 rfl hl (by decide) rfl (fun ls hl => ?_)
    exact wb_X12_chosen_26 cx C X S0 n r S1 n a0 x1 (-1) 0 S_6 _ _ _ hw hE Ta0 (lv_sub hl [2, 3, 1, 0] rfl) hm
  · rw [if_pos h11] at hm
    refine lv_iconst (v := 0) hx hb dX12_chosen_20 (by decide) ?_
    cases hm
    exact pw_iret hx hb hr rfl hlk hw hE dX12_chosen_21
abbrev rm_X0_begin : Room := { frames := 1, cells := 0, slots := 0, locals := 22 }
def b_X0_begin_23 (n : Nat) (a1 : Nat) (x3 : Int32) (S : pq_S) : Option pq_S := Option.bind (m_X10_refuse n a1 2 x3 S) fun S_11 => some S_11
set_option maxHeartbeats 4000000 in
set_option maxRecDepth 100000 in
theorem wb_X0_begin_23 {p : Program} {l : Launch} {e : Env} {s : State} {m : MethodId} {args : Array Value} {below : List Frame} {meth : Method} {c : Code} (cx : Cx p s m args meth c cX0_begin 4 RX0 none) (C : pq_C) (X : va_W) (S0 : pq_S) (n : Nat) (S1 : pq_S) : ∀ (a1 : Nat) (x3 : Int32) (S : pq_S) (H : Heap) (locs : List Loc) (ls : Array Slot), PW C X S (pq_F C X S0 s.heap.size) H locs s → Ext S0 S → TY S a1 10 → lv_has ls 4 [(1, .ref a1), (3, .int x3)] → b_X0_begin_23 n a1 x3 S = some S1 → W p l e rm_X0_begin s m args below meth c H locs 0 0 (MQ below (QcV C X S0 s.heap.size S1) args s 0 0 (pq_F C X S0 s.heap.size)) (F0 m 23 ls []) := by
  obtain ⟨hx, hb, hml, hown, hU, hr, hlk⟩ := id cx
  intro a1 x3 S H locs ls hw hE Ta1 hl hm
  rw [b_X0_begin_23] at hm
  refine lv_aload_n hx hb dX0_begin_23 rfl (lv_at hl 0 rfl) ?_
  refine lv_iconst (v := 2) hx hb dX0_begin_24 (by decide) ?_
  refine lv_iload_n hx hb dX0_begin_25 rfl (lv_at hl 1 rfl) ?_
  obtain ⟨S_11, hq12, hm⟩ := bd_some hm
  refine pw_cv (va_runVN (As := [.int 2, .int x3]) (rest := []) ⟨hx, hb, hml, hown, hU⟩ (c_X10_refuse l C X n S hw.wf _ a1 2 x3 (Ta1) S_11 hq12) ⟨va_cnB (host := "WickNights") 2 hU (pq_g1 tc_X10_refuse) rfl rfl rfl (hw.nw 152 rfl) (hU _ tw2) cd_X10_refuse.2 ⟨Nat.le_of_ble_eq_true rfl, Nat.le_of_ble_eq_true rfl⟩, hU _ tw586, hU _ ts15⟩ (pw_preV hw Ta1 (by decide) rfl) rfl rfl hl.1 rfl (lv_room (Nat.le_of_ble_eq_true rfl)) dX0_begin_26 ⟨Nat.zero_le _, Nat.zero_le _⟩) hw (fun H locs hw hx13 => ?_)
  have Ta1 : TY S_11 a1 10 := ty_ext hx13 Ta1
  have hE : Ext S0 S_11 := Ext.tr hE hx13
  refine lv_goto (tgt := 47) hx hb dX0_begin_29 (by decide) ?_
  cases hm
  exact pw_vret hx hb hr hlk hw hE dX0_begin_47
def m_X0_begin (n : Nat) (a0 : Nat) (a1 : Nat) (x2 : Int32) (x3 : Int32) (S0 : pq_S) : Option pq_S := if x2 < 0 then b_X0_begin_23 n a1 x3 S0 else Option.bind (pR S0 0 a0) fun q2 => if (Int32.ofNat (pN S0 q2)) ≤ x2 then b_X0_begin_23 n a1 x3 S0 else Option.bind (pR S0 0 a0) fun q4 => ck (ix x2 (pN S0 q4)) (dix _ _) (if (pA S0 q4 (Int32.toNatClampNeg x2)) = (-1) then if (pI S0 1 a0) < 6 then some S0 else Option.bind (m_X10_refuse n a1 3 x3 S0) fun S_8 => some S_8 else b_X0_begin_23 n a1 x3 S0)
theorem tc_X0_begin : Cond.code yX0_begin cX0_begin 4 none ∈ pq_U := tw968
theorem cd_X0_begin : yX0_begin.cls = RX0 ∧ yX0_begin.cls ≠ "java/lang/invoke/MethodHandle" ∧ yX0_begin.cls ≠ "java/lang/invoke/VarHandle" ∧ (parseMethodDescriptor yX0_begin.desc).map (fun d => d.parameters.length) = some 3 := by decide +kernel
set_option maxHeartbeats 4000000 in
set_option maxRecDepth 100000 in
theorem c_X0_begin (l : Launch) (C : pq_C) (X : va_W) (n : Nat) (S0 : pq_S) (hF : WF S0) (sz : Nat) (a0 : Nat) (a1 : Nat) (x2 : Int32) (x3 : Int32) (Ta0 : TY S0 a0 0) (Ta1 : TY S0 a1 10) (S1 : pq_S) (hm : m_X0_begin n a0 a1 x2 x3 S0 = some S1) : MV l yX0_begin (.code yX0_begin cX0_begin 4 none :: pq_U) rm_X0_begin C X S0 sz [.ref a0, .ref a1, .int x2, .int x3] S1 0 0 := by
  refine Met.ofW (cc := cX0_begin) (maxL := 4) (ret := none) (by decide) rfl ?_
  intro p e s m args below meth c s₁ B hml hv
  obtain ⟨rfl, hv⟩ := hv
  have hsz := hv.1
  subst hsz
  have hw := pw_entry hF hv
  have hts := atoms_spec (ws := .code yX0_begin cX0_begin 4 none :: pq_U) B.pre
  have hU : ∀ w ∈ pq_U, w.before _ s = true := fun w h => hts w (List.mem_cons_of_mem _ h)
  have hx := B.exec
  have hb := B.bytes
  have hr := B.returns
  have hown : s.vm.findClass RX0 = some m.cls := findClass_of_methodNamed B.named
  have hlk := B.notSynchronized
  have hl := lv_entry ([.ref a0, .ref a1, .int x2, .int x3]) (n := 4) (Nat.le_of_ble_eq_true rfl)
  rw [lg_entry_eq]
  generalize (lg_sl ([.ref a0, .ref a1, .int x2, .int x3]) ++ List.replicate (4 - (lg_sl ([.ref a0, .ref a1, .int x2, .int x3])).length) Slot.unset).toArray = ls at hl ⊢
  have hl : lv_has ls 4 [(0, .ref a0), (1, .ref a1), (2, .int x2), (3, .int x3)] := hl
  have hE : Ext S0 S0 := Ext.rf _
  have cx : Cx p s m _ meth c cX0_begin 4 RX0 none := ⟨hx, hb, hml, hown, hU, hr, hlk⟩
  rw [m_X0_begin] at hm
  refine lv_iload_n hx hb dX0_begin_0 rfl (lv_at hl 2 rfl) ?_
  refine lv_if_lt (tgt := 23) hx hb dX0_begin_1 (by decide) (fun h1 => ?_) (fun h1 => ?_)
  · rw [if_pos h1] at hm
    exact wb_X0_begin_23 cx C X S0 n S1 a1 x3 S0 _ _ _ hw hE Ta1 (lv_sub hl [1, 3] rfl) hm
  · rw [if_neg h1] at hm
    refine lv_iload_n hx hb dX0_begin_4 rfl (lv_at hl 2 rfl) ?_
    refine lv_aload_n hx hb dX0_begin_5 rfl (lv_at hl 0 rfl) ?_
    obtain ⟨q2, hq2, hm⟩ := bd_some hm
    have Tq2 : TY S0 q2 14 := hw.wf.ref (k := 0) (j := 0) Ta0 (by decide) (by decide) hq2
    refine pg_rb (k := 0) (j := 0) (f := 0) hx hb hown hU iu0 hw Ta0 (by decide) rfl (hU _ tw338) rfl hq2 dX0_begin_6 ?_
    refine pw_alenI (v := (Int32.ofNat (pN S0 q2))) hx hb hw Tq2 rfl dX0_begin_9 ?_
    refine lv_icmp_ge (tgt := 23) hx hb dX0_begin_10 (by decide) (fun h3 => ?_) (fun h3 => ?_)
    · rw [if_pos h3] at hm
      exact wb_X0_begin_23 cx C X S0 n S1 a1 x3 S0 _ _ _ hw hE Ta1 (lv_sub hl [1, 3] rfl) hm
    · rw [if_neg h3] at hm
      refine lv_aload_n hx hb dX0_begin_13 rfl (lv_at hl 0 rfl) ?_
      obtain ⟨q4, hq4, hm⟩ := bd_some hm
      have Tq4 : TY S0 q4 14 := hw.wf.ref (k := 0) (j := 0) Ta0 (by decide) (by decide) hq4
      refine pg_rb (k := 0) (j := 0) (f := 0) hx hb hown hU iu0 hw Ta0 (by decide) rfl (hU _ tw338) rfl hq4 dX0_begin_14 ?_
      refine lv_iload_n hx hb dX0_begin_17 rfl (lv_at hl 2 rfl) ?_
      obtain ⟨hi5, hm⟩ := ck_some hm
      refine pw_iald hx hb hw Tq4 hi5 dX0_begin_18 ?_
      refine lv_iconst (v := (-1)) hx hb dX0_begin_19 (by decide) ?_
      refine lv_icmp_eq (tgt := 32) hx hb dX0_begin_20 (by decide) (fun h6 => ?_) (fun h6 => ?_)
      · rw [if_pos h6] at hm
        refine lv_aload_n hx hb dX0_begin_32 rfl (lv_at hl 0 rfl) ?_
        refine pg_i (k := 0) (j := 1) (f := 1) hx hb hown hU iu0 hw Ta0 (by decide) rfl (hU _ tw339) rfl dX0_begin_33 ?_
        refine lv_bipush (v := 6) hx hb dX0_begin_36 (by decide) ?_
        refine lv_icmp_lt (tgt := 47) hx hb dX0_begin_38 (by decide) (fun h7 => ?_) (fun h7 => ?_)
        · rw [if_pos h7] at hm
          cases hm
          exact pw_vret hx hb hr hlk hw hE dX0_begin_47
        · rw [if_neg h7] at hm
          refine lv_aload_n hx hb dX0_begin_41 rfl (lv_at hl 1 rfl) ?_
          refine lv_iconst (v := 3) hx hb dX0_begin_42 (by decide) ?_
          refine lv_iload_n hx hb dX0_begin_43 rfl (lv_at hl 3 rfl) ?_
          obtain ⟨S_8, hq9, hm⟩ := bd_some hm
          refine pw_cv (va_runVN (As := [.int 3, .int x3]) (rest := []) ⟨hx, hb, hml, hown, hU⟩ (c_X10_refuse l C X n S0 hw.wf _ a1 3 x3 (Ta1) S_8 hq9) ⟨va_cnB (host := "WickNights") 2 hU (pq_g1 tc_X10_refuse) rfl rfl rfl (hw.nw 152 rfl) (hU _ tw2) cd_X10_refuse.2 ⟨Nat.le_of_ble_eq_true rfl, Nat.le_of_ble_eq_true rfl⟩, hU _ tw586, hU _ ts15⟩ (pw_preV hw Ta1 (by decide) rfl) rfl rfl hl.1 rfl (lv_room (Nat.le_of_ble_eq_true rfl)) dX0_begin_44 ⟨Nat.zero_le _, Nat.zero_le _⟩) hw (fun H locs hw hx10 => ?_)
          have Ta0 : TY S_8 a0 0 := ty_ext hx10 Ta0
          have Ta1 : TY S_8 a1 10 := ty_ext hx10 Ta1
          have hE : Ext S0 S_8 := Ext.tr hE hx10
          cases hm
          exact pw_vret hx hb hr hlk hw hE dX0_begin_47
      · rw [if_neg h6] at hm
        exact wb_X0_begin_23 cx C X S0 n S1 a1 x3 S0 _ _ _ hw hE Ta1 (lv_sub hl [1, 3] rfl) hm
abbrev rm_X1_readSetting : Room := { frames := 2, cells := 0, slots := 0, locals := 64 }
def b_X1_readSetting_13 (n : Nat) (a0 : Nat) (x2 : Int32) (S : pq_S) : Option (Int32 × pq_S) := cb (m_X10_takeNumber n a0 0 x2 S) fun r7 S_5 => some (r7, S_5)
set_option maxHeartbeats 4000000 in
set_option maxRecDepth 100000 in
theorem wb_X1_readSetting_13 {p : Program} {l : Launch} {e : Env} {s : State} {m : MethodId} {args : Array Value} {below : List Frame} {meth : Method} {c : Code} (cx : Cx p s m args meth c cX1_readSetting 3 RX1 (some .int)) (C : pq_C) (X : va_W) (S0 : pq_S) (n : Nat) (r : Int32) (S1 : pq_S) : ∀ (a0 : Nat) (x2 : Int32) (S : pq_S) (H : Heap) (locs : List Loc) (ls : Array Slot), PW C X S (pq_F C X S0 s.heap.size) H locs s → Ext S0 S → TY S a0 10 → lv_has ls 3 [(0, .ref a0), (2, .int x2)] → b_X1_readSetting_13 n a0 x2 S = some (r, S1) → W p l e rm_X1_readSetting s m args below meth c H locs 0 0 (MQ below (QcI C X S0 s.heap.size r S1) args s 0 0 (pq_F C X S0 s.heap.size)) (F0 m 13 ls []) := by
  obtain ⟨hx, hb, hml, hown, hU, hr, hlk⟩ := id cx
  intro a0 x2 S H locs ls hw hE Ta0 hl hm
  rw [b_X1_readSetting_13] at hm
  refine lv_aload_n hx hb dX1_readSetting_13 rfl (lv_at hl 0 rfl) ?_
  refine lv_iconst (v := 0) hx hb dX1_readSetting_14 (by decide) ?_
  refine lv_iload_n hx hb dX1_readSetting_15 rfl (lv_at hl 1 rfl) ?_
  obtain ⟨r7, S_5, hq6, hm⟩ := cb_some hm
  refine pw_ci (va_runVN (As := [.int 0, .int x2]) (rest := []) ⟨hx, hb, hml, hown, hU⟩ (c_X10_takeNumber l C X n S hw.wf _ a0 0 x2 (Ta0) r7 S_5 hq6) ⟨va_cnB (host := "WickNights") 2 hU (pq_g1 tc_X10_takeNumber) rfl rfl rfl (hw.nw 101 rfl) (hU _ tw2) cd_X10_takeNumber.2 ⟨Nat.le_of_ble_eq_true rfl, Nat.le_of_ble_eq_true rfl⟩, hU _ tw668, hU _ ts22⟩ (pw_preV hw Ta0 (by decide) rfl) rfl rfl hl.1 rfl (lv_room (Nat.le_of_ble_eq_true rfl)) dX1_readSetting_16 ⟨Nat.zero_le _, Nat.zero_le _⟩) hw (fun H locs hw hx8 => ?_)
  have Ta0 : TY S_5 a0 10 := ty_ext hx8 Ta0
  have hE : Ext S0 S_5 := Ext.tr hE hx8
  cases hm
  exact pw_iret hx hb hr rfl hlk hw hE dX1_readSetting_19
def m_X1_readSetting (n : Nat) (a0 : Nat) (x1 : Int32) (x2 : Int32) (S0 : pq_S) : Option (Int32 × pq_S) := if x1 = 0 then b_X1_readSetting_13 n a0 x2 S0 else Option.bind (m_X10_refuse n a0 3 (pI S0 1004 a0) S0) fun S_2 => b_X1_readSetting_13 n a0 x2 S_2
theorem tc_X1_readSetting : Cond.code yX1_readSetting cX1_readSetting 3 (some .int) ∈ pq_U := tw693
theorem cd_X1_readSetting : yX1_readSetting.cls = RX1 ∧ yX1_readSetting.cls ≠ "java/lang/invoke/MethodHandle" ∧ yX1_readSetting.cls ≠ "java/lang/invoke/VarHandle" ∧ (parseMethodDescriptor yX1_readSetting.desc).map (fun d => d.parameters.length) = some 3 := by decide +kernel
set_option maxHeartbeats 4000000 in
set_option maxRecDepth 100000 in
theorem c_X1_readSetting (l : Launch) (C : pq_C) (X : va_W) (n : Nat) (S0 : pq_S) (hF : WF S0) (sz : Nat) (a0 : Nat) (x1 : Int32) (x2 : Int32) (Ta0 : TY S0 a0 10) (r : Int32) (S1 : pq_S) (hm : m_X1_readSetting n a0 x1 x2 S0 = some (r, S1)) : MI l yX1_readSetting (.code yX1_readSetting cX1_readSetting 3 (some .int) :: pq_U) rm_X1_readSetting C X S0 sz [.ref a0, .int x1, .int x2] r S1 0 0 := by
  refine Met.ofW (cc := cX1_readSetting) (maxL := 3) (ret := (some .int)) (by decide) rfl ?_
  intro p e s m args below meth c s₁ B hml hv
  obtain ⟨rfl, hv⟩ := hv
  have hsz := hv.1
  subst hsz
  have hw := pw_entry hF hv
  have hts := atoms_spec (ws := .code yX1_readSetting cX1_readSetting 3 (some .int) :: pq_U) B.pre
  have hU : ∀ w ∈ pq_U, w.before _ s = true := fun w h => hts w (List.mem_cons_of_mem _ h)
  have hx := B.exec
  have hb := B.bytes
  have hr := B.returns
  have hown : s.vm.findClass RX1 = some m.cls := findClass_of_methodNamed B.named
  have hlk := B.notSynchronized
  have hl := lv_entry ([.ref a0, .int x1, .int x2]) (n := 3) (Nat.le_of_ble_eq_true rfl)
  rw [lg_entry_eq]
  generalize (lg_sl ([.ref a0, .int x1, .int x2]) ++ List.replicate (3 - (lg_sl ([.ref a0, .int x1, .int x2])).length) Slot.unset).toArray = ls at hl ⊢
  have hl : lv_has ls 3 [(0, .ref a0), (1, .int x1), (2, .int x2)] := hl
  have hE : Ext S0 S0 := Ext.rf _
  have cx : Cx p s m _ meth c cX1_readSetting 3 RX1 (some .int) := ⟨hx, hb, hml, hown, hU, hr, hlk⟩
  rw [m_X1_readSetting] at hm
  refine lv_iload_n hx hb dX1_readSetting_0 rfl (lv_at hl 1 rfl) ?_
  refine lv_if_eq (tgt := 13) hx hb dX1_readSetting_1 (by decide) (fun h1 => ?_) (fun h1 => ?_)
  · rw [if_pos h1] at hm
    exact wb_X1_readSetting_13 cx C X S0 n r S1 a0 x2 S0 _ _ _ hw hE Ta0 (lv_sub hl [0, 2] rfl) hm
  · rw [if_neg h1] at hm
    refine lv_aload_n hx hb dX1_readSetting_4 rfl (lv_at hl 0 rfl) ?_
    refine lv_iconst (v := 3) hx hb dX1_readSetting_5 (by decide) ?_
    refine lv_aload_n hx hb dX1_readSetting_6 rfl (lv_at hl 0 rfl) ?_
    refine pgN_i (k := 10) (j := 4) (f := 1004) hx hb hown hU iu10 hw Ta0 (by decide) rfl 5 rfl rfl dX1_readSetting_7 ?_
    obtain ⟨S_2, hq3, hm⟩ := bd_some hm
    refine pw_cv (va_runVN (As := [.int 3, .int (pI S0 1004 a0)]) (rest := []) ⟨hx, hb, hml, hown, hU⟩ (c_X10_refuse l C X n S0 hw.wf _ a0 3 (pI S0 1004 a0) (Ta0) S_2 hq3) ⟨va_cnB (host := "WickNights") 2 hU (pq_g1 tc_X10_refuse) rfl rfl rfl (hw.nw 99 rfl) (hU _ tw2) cd_X10_refuse.2 ⟨Nat.le_of_ble_eq_true rfl, Nat.le_of_ble_eq_true rfl⟩, hU _ tw586, hU _ ts15⟩ (pw_preV hw Ta0 (by decide) rfl) rfl rfl hl.1 rfl (lv_room (Nat.le_of_ble_eq_true rfl)) dX1_readSetting_10 ⟨Nat.zero_le _, Nat.zero_le _⟩) hw (fun H locs hw hx4 => ?_)
    have Ta0 : TY S_2 a0 10 := ty_ext hx4 Ta0
    have hE : Ext S0 S_2 := Ext.tr hE hx4
    exact wb_X1_readSetting_13 cx C X S0 n r S1 a0 x2 S_2 _ _ _ hw hE Ta0 (lv_sub hl [0, 2] rfl) hm
abbrev rm_X1_beginRow : Room := { frames := 2, cells := 0, slots := 0, locals := 40 }
def b_X1_beginRow_20 (n : Nat) (a1 : Nat) (S : pq_S) : Option (Int32 × pq_S) := cb (m_X9_newRow n a1 S) fun r10 S_8 => some (r10, S_8)
set_option maxHeartbeats 4000000 in
set_option maxRecDepth 100000 in
theorem wb_X1_beginRow_20 {p : Program} {l : Launch} {e : Env} {s : State} {m : MethodId} {args : Array Value} {below : List Frame} {meth : Method} {c : Code} (cx : Cx p s m args meth c cX1_beginRow 3 RX1 (some .int)) (C : pq_C) (X : va_W) (S0 : pq_S) (n : Nat) (r : Int32) (S1 : pq_S) : ∀ (a1 : Nat) (S : pq_S) (H : Heap) (locs : List Loc) (ls : Array Slot), PW C X S (pq_F C X S0 s.heap.size) H locs s → Ext S0 S → TY S a1 9 → lv_has ls 3 [(1, .ref a1)] → b_X1_beginRow_20 n a1 S = some (r, S1) → W p l e rm_X1_beginRow s m args below meth c H locs 0 0 (MQ below (QcI C X S0 s.heap.size r S1) args s 0 0 (pq_F C X S0 s.heap.size)) (F0 m 20 ls []) := by
  obtain ⟨hx, hb, hml, hown, hU, hr, hlk⟩ := id cx
  intro a1 S H locs ls hw hE Ta1 hl hm
  rw [b_X1_beginRow_20] at hm
  refine lv_aload_n hx hb dX1_beginRow_20 rfl (lv_at hl 0 rfl) ?_
  obtain ⟨r10, S_8, hq9, hm⟩ := cb_some hm
  refine pw_ci (va_runVN (As := []) (rest := []) ⟨hx, hb, hml, hown, hU⟩ (c_X9_newRow l C X n S hw.wf _ a1 (Ta1) r10 S_8 hq9) ⟨va_cnB (host := "WickNights") 0 hU (pq_g1 tc_X9_newRow) rfl rfl rfl (hw.nw 100 rfl) (hU _ tw5) cd_X9_newRow.2 ⟨Nat.le_of_ble_eq_true rfl, Nat.le_of_ble_eq_true rfl⟩, hU _ tw663, hU _ ts21⟩ (pw_preV hw Ta1 (by decide) rfl) rfl rfl hl.1 rfl (lv_room (Nat.le_of_ble_eq_true rfl)) dX1_beginRow_21 ⟨Nat.zero_le _, Nat.zero_le _⟩) hw (fun H locs hw hx11 => ?_)
  have Ta1 : TY S_8 a1 9 := ty_ext hx11 Ta1
  have hE : Ext S0 S_8 := Ext.tr hE hx11
  cases hm
  exact pw_iret hx hb hr rfl hlk hw hE dX1_beginRow_24
def b_X1_beginRow_11 (n : Nat) (a0 : Nat) (a1 : Nat) (S : pq_S) : Option (Int32 × pq_S) := Option.bind (m_X10_refuse n a0 3 (pI S 1004 a0) S) fun S_12 => b_X1_beginRow_20 n a1 S_12
set_option maxHeartbeats 4000000 in
set_option maxRecDepth 100000 in
theorem wb_X1_beginRow_11 {p : Program} {l : Launch} {e : Env} {s : State} {m : MethodId} {args : Array Value} {below : List Frame} {meth : Method} {c : Code} (cx : Cx p s m args meth c cX1_beginRow 3 RX1 (some .int)) (C : pq_C) (X : va_W) (S0 : pq_S) (n : Nat) (r : Int32) (S1 : pq_S) : ∀ (a0 : Nat) (a1 : Nat) (S : pq_S) (H : Heap) (locs : List Loc) (ls : Array Slot), PW C X S (pq_F C X S0 s.heap.size) H locs s → Ext S0 S → TY S a0 10 → TY S a1 9 → lv_has ls 3 [(0, .ref a0), (1, .ref a1)] → b_X1_beginRow_11 n a0 a1 S = some (r, S1) → W p l e rm_X1_beginRow s m args below meth c H locs 0 0 (MQ below (QcI C X S0 s.heap.size r S1) args s 0 0 (pq_F C X S0 s.heap.size)) (F0 m 11 ls []) := by
  obtain ⟨hx, hb, hml, hown, hU, hr, hlk⟩ := id cx
  intro a0 a1 S H locs ls hw hE Ta0 Ta1 hl hm
  rw [b_X1_beginRow_11] at hm
  refine lv_aload_n hx hb dX1_beginRow_11 rfl (lv_at hl 0 rfl) ?_
  refine lv_iconst (v := 3) hx hb dX1_beginRow_12 (by decide) ?_
  refine lv_aload_n hx hb dX1_beginRow_13 rfl (lv_at hl 0 rfl) ?_
  refine pgN_i (k := 10) (j := 4) (f := 1004) hx hb hown hU iu10 hw Ta0 (by decide) rfl 5 rfl rfl dX1_beginRow_14 ?_
  obtain ⟨S_12, hq13, hm⟩ := bd_some hm
  refine pw_cv (va_runVN (As := [.int 3, .int (pI S 1004 a0)]) (rest := []) ⟨hx, hb, hml, hown, hU⟩ (c_X10_refuse l C X n S hw.wf _ a0 3 (pI S 1004 a0) (Ta0) S_12 hq13) ⟨va_cnB (host := "WickNights") 2 hU (pq_g1 tc_X10_refuse) rfl rfl rfl (hw.nw 99 rfl) (hU _ tw2) cd_X10_refuse.2 ⟨Nat.le_of_ble_eq_true rfl, Nat.le_of_ble_eq_true rfl⟩, hU _ tw586, hU _ ts15⟩ (pw_preV hw Ta0 (by decide) rfl) rfl rfl hl.1 rfl (lv_room (Nat.le_of_ble_eq_true rfl)) dX1_beginRow_17 ⟨Nat.zero_le _, Nat.zero_le _⟩) hw (fun H locs hw hx14 => ?_)
  have Ta0 : TY S_12 a0 10 := ty_ext hx14 Ta0
  have Ta1 : TY S_12 a1 9 := ty_ext hx14 Ta1
  have hE : Ext S0 S_12 := Ext.tr hE hx14
  exact wb_X1_beginRow_20 cx C X S0 n r S1 a1 S_12 _ _ _ hw hE Ta1 (lv_sub hl [1] rfl) hm
def m_X1_beginRow (n : Nat) (a0 : Nat) (a1 : Nat) (x2 : Int32) (S0 : pq_S) : Option (Int32 × pq_S) := if x2 = 0 then cb (m_X9_isFull n a1 S0) fun r4 S_2 => if r4 = 0 then b_X1_beginRow_20 n a1 S_2 else b_X1_beginRow_11 n a0 a1 S_2 else b_X1_beginRow_11 n a0 a1 S0
theorem tc_X1_beginRow : Cond.code yX1_beginRow cX1_beginRow 3 (some .int) ∈ pq_U := tw655
theorem cd_X1_beginRow : yX1_beginRow.cls = RX1 ∧ yX1_beginRow.cls ≠ "java/lang/invoke/MethodHandle" ∧ yX1_beginRow.cls ≠ "java/lang/invoke/VarHandle" ∧ (parseMethodDescriptor yX1_beginRow.desc).map (fun d => d.parameters.length) = some 3 := by decide +kernel
set_option maxHeartbeats 4000000 in
set_option maxRecDepth 100000 in
theorem c_X1_beginRow (l : Launch) (C : pq_C) (X : va_W) (n : Nat) (S0 : pq_S) (hF : WF S0) (sz : Nat) (a0 : Nat) (a1 : Nat) (x2 : Int32) (Ta0 : TY S0 a0 10) (Ta1 : TY S0 a1 9) (r : Int32) (S1 : pq_S) (hm : m_X1_beginRow n a0 a1 x2 S0 = some (r, S1)) : MI l yX1_beginRow (.code yX1_beginRow cX1_beginRow 3 (some .int) :: pq_U) rm_X1_beginRow C X S0 sz [.ref a0, .ref a1, .int x2] r S1 0 0 := by
  refine Met.ofW (cc := cX1_beginRow) (maxL := 3) (ret := (some .int)) (by decide) rfl ?_
  intro p e s m args below meth c s₁ B hml hv
  obtain ⟨rfl, hv⟩ := hv
  have hsz := hv.1
  subst hsz
  have hw := pw_entry hF hv
  have hts := atoms_spec (ws := .code yX1_beginRow cX1_beginRow 3 (some .int) :: pq_U) B.pre
  have hU : ∀ w ∈ pq_U, w.before _ s = true := fun w h => hts w (List.mem_cons_of_mem _ h)
  have hx := B.exec
  have hb := B.bytes
  have hr := B.returns
  have hown : s.vm.findClass RX1 = some m.cls := findClass_of_methodNamed B.named
  have hlk := B.notSynchronized
  have hl := lv_entry ([.ref a0, .ref a1, .int x2]) (n := 3) (Nat.le_of_ble_eq_true rfl)
  rw [lg_entry_eq]
  generalize (lg_sl ([.ref a0, .ref a1, .int x2]) ++ List.replicate (3 - (lg_sl ([.ref a0, .ref a1, .int x2])).length) Slot.unset).toArray = ls at hl ⊢
  have hl : lv_has ls 3 [(0, .ref a0), (1, .ref a1), (2, .int x2)] := hl
  have hE : Ext S0 S0 := Ext.rf _
  have cx : Cx p s m _ meth c cX1_beginRow 3 RX1 (some .int) := ⟨hx, hb, hml, hown, hU, hr, hlk⟩
  rw [m_X1_beginRow] at hm
  refine lv_iload_n hx hb dX1_beginRow_0 rfl (lv_at hl 2 rfl) ?_
  refine lv_if_ne (tgt := 11) hx hb dX1_beginRow_1 (by decide) (fun h1 => ?_) (fun h1 => ?_)
  · rw [if_neg h1] at hm
    exact wb_X1_beginRow_11 cx C X S0 n r S1 a0 a1 S0 _ _ _ hw hE Ta0 Ta1 (lv_sub hl [0, 1] rfl) hm
  · rw [if_pos h1] at hm
    refine lv_aload_n hx hb dX1_beginRow_4 rfl (lv_at hl 1 rfl) ?_
    obtain ⟨r4, S_2, hq3, hm⟩ := cb_some hm
    refine pw_cz (va_runVN (As := []) (rest := []) ⟨hx, hb, hml, hown, hU⟩ (c_X9_isFull l C X n S0 hw.wf _ a1 (Ta1) r4 S_2 hq3) ⟨va_cnB (host := "WickNights") 0 hU (pq_g1 tc_X9_isFull) rfl rfl rfl (hw.nw 98 rfl) (hU _ tw5) cd_X9_isFull.2 ⟨Nat.le_of_ble_eq_true rfl, Nat.le_of_ble_eq_true rfl⟩, hU _ tw658, hU _ ts20⟩ (pw_preV hw Ta1 (by decide) rfl) rfl rfl hl.1 rfl (lv_room (Nat.le_of_ble_eq_true rfl)) dX1_beginRow_5 ⟨Nat.zero_le _, Nat.zero_le _⟩) hw (fun H locs hw hx5 hz6 => ?_)
    have Ta0 : TY S_2 a0 10 := ty_ext hx5 Ta0
    have Ta1 : TY S_2 a1 9 := ty_ext hx5 Ta1
    have hE : Ext S0 S_2 := Ext.tr hE hx5
    refine lv_if_eq (tgt := 20) hx hb dX1_beginRow_8 (by decide) (fun h7 => ?_) (fun h7 => ?_)
    · rw [if_pos h7] at hm
      exact wb_X1_beginRow_20 cx C X S0 n r S1 a1 S_2 _ _ _ hw hE Ta1 (lv_sub hl [1] rfl) hm
    · rw [if_neg h7] at hm
      exact wb_X1_beginRow_11 cx C X S0 n r S1 a0 a1 S_2 _ _ _ hw hE Ta0 Ta1 (lv_sub hl [0, 1] rfl) hm
abbrev rm_X1_copyFrom : Room := { frames := 2, cells := 0, slots := 0, locals := 101 }
def m_X1_copyFrom (n : Nat) (a0 : Nat) (a1 : Nat) (S0 : pq_S) : Option pq_S := Option.bind (pR S0 100 a0) fun q1 => Option.bind (pR S0 100 a1) fun q2 => Option.bind (m_X9_copyFrom n q1 q2 S0) fun S_3 => Option.bind (pR S_3 101 a0) fun q6 => Option.bind (pR S_3 101 a1) fun q7 => Option.bind (m_X9_copyFrom n q6 q7 S_3) fun S_8 => Option.bind (pR S_8 102 a0) fun q11 => Option.bind (pR S_8 102 a1) fun q12 => Option.bind (m_X9_copyFrom n q11 q12 S_8) fun S_13 => Option.bind (pR S_13 103 a0) fun q16 => Option.bind (pR S_13 103 a1) fun q17 => Option.bind (m_X9_copyFrom n q16 q17 S_13) fun S_18 => lt_ (sI (sI S_18 104 a0 (pI S_18 104 a1)) 105 a0 (pI (sI S_18 104 a0 (pI S_18 104 a1)) 105 a1)) fun S_21 => some S_21
theorem tc_X1_copyFrom : Cond.code yX1_copyFrom cX1_copyFrom 2 none ∈ pq_U := tw710
theorem cd_X1_copyFrom : yX1_copyFrom.cls = RX1 ∧ yX1_copyFrom.cls ≠ "java/lang/invoke/MethodHandle" ∧ yX1_copyFrom.cls ≠ "java/lang/invoke/VarHandle" ∧ (parseMethodDescriptor yX1_copyFrom.desc).map (fun d => d.parameters.length) = some 1 := by decide +kernel
set_option maxHeartbeats 4000000 in
set_option maxRecDepth 100000 in
theorem c_X1_copyFrom (l : Launch) (C : pq_C) (X : va_W) (n : Nat) (S0 : pq_S) (hF : WF S0) (sz : Nat) (a0 : Nat) (a1 : Nat) (Ta0 : TY S0 a0 1) (Ta1 : TY S0 a1 1) (S1 : pq_S) (hm : m_X1_copyFrom n a0 a1 S0 = some S1) : MV l yX1_copyFrom (.code yX1_copyFrom cX1_copyFrom 2 none :: pq_U) rm_X1_copyFrom C X S0 sz [.ref a0, .ref a1] S1 0 0 := by
  refine Met.ofW (cc := cX1_copyFrom) (maxL := 2) (ret := none) (by decide) rfl ?_
  intro p e s m args below meth c s₁ B hml hv
  obtain ⟨rfl, hv⟩ := hv
  have hsz := hv.1
  subst hsz
  have hw := pw_entry hF hv
  have hts := atoms_spec (ws := .code yX1_copyFrom cX1_copyFrom 2 none :: pq_U) B.pre
  have hU : ∀ w ∈ pq_U, w.before _ s = true := fun w h => hts w (List.mem_cons_of_mem _ h)
  have hx := B.exec
  have hb := B.bytes
  have hr := B.returns
  have hown : s.vm.findClass RX1 = some m.cls := findClass_of_methodNamed B.named
  have hlk := B.notSynchronized
  have hl := lv_entry ([.ref a0, .ref a1]) (n := 2) (Nat.le_of_ble_eq_true rfl)
  rw [lg_entry_eq]
  generalize (lg_sl ([.ref a0, .ref a1]) ++ List.replicate (2 - (lg_sl ([.ref a0, .ref a1])).length) Slot.unset).toArray = ls at hl ⊢
  have hl : lv_has ls 2 [(0, .ref a0), (1, .ref a1)] := hl
  have hE : Ext S0 S0 := Ext.rf _
  have cx : Cx p s m _ meth c cX1_copyFrom 2 RX1 none := ⟨hx, hb, hml, hown, hU, hr, hlk⟩
  rw [m_X1_copyFrom] at hm
  refine lv_aload_n hx hb dX1_copyFrom_0 rfl (lv_at hl 0 rfl) ?_
  obtain ⟨q1, hq1, hm⟩ := bd_some hm
  have Tq1 : TY S0 q1 9 := hw.wf.ref (k := 1) (j := 0) Ta0 (by decide) (by decide) hq1
  refine pg_rb (k := 1) (j := 0) (f := 100) hx hb hown hU iu1 hw Ta0 (by decide) rfl (hU _ tw109) rfl hq1 dX1_copyFrom_1 ?_
  refine lv_aload_n hx hb dX1_copyFrom_4 rfl (lv_at hl 1 rfl) ?_
  obtain ⟨q2, hq2, hm⟩ := bd_some hm
  have Tq2 : TY S0 q2 9 := hw.wf.ref (k := 1) (j := 0) Ta1 (by decide) (by decide) hq2
  refine pg_rb (k := 1) (j := 0) (f := 100) hx hb hown hU iu1 hw Ta1 (by decide) rfl (hU _ tw109) rfl hq2 dX1_copyFrom_5 ?_
  obtain ⟨S_3, hq4, hm⟩ := bd_some hm
  refine pw_cv (va_runVN (As := [.ref q2]) (rest := []) ⟨hx, hb, hml, hown, hU⟩ (c_X9_copyFrom l C X n S0 hw.wf _ q1 q2 (Tq1) (Tq2) S_3 hq4) ⟨va_cnB (host := "WickNights") 1 hU (pq_g1 tc_X9_copyFrom) rfl rfl rfl (hw.nw 106 rfl) (hU _ tw5) cd_X9_copyFrom.2 ⟨Nat.le_of_ble_eq_true rfl, Nat.le_of_ble_eq_true rfl⟩, hU _ tw441, hU _ ts3⟩ (pw_preV hw Tq1 (by decide) rfl) rfl rfl hl.1 rfl (lv_room (Nat.le_of_ble_eq_true rfl)) dX1_copyFrom_8 ⟨Nat.zero_le _, Nat.zero_le _⟩) hw (fun H locs hw hx5 => ?_)
  have Ta0 : TY S_3 a0 1 := ty_ext hx5 Ta0
  have Ta1 : TY S_3 a1 1 := ty_ext hx5 Ta1
  have hE : Ext S0 S_3 := Ext.tr hE hx5
  refine lv_aload_n hx hb dX1_copyFrom_11 rfl (lv_at hl 0 rfl) ?_
  obtain ⟨q6, hq6, hm⟩ := bd_some hm
  have Tq6 : TY S_3 q6 9 := hw.wf.ref (k := 1) (j := 1) Ta0 (by decide) (by decide) hq6
  refine pg_rb (k := 1) (j := 1) (f := 101) hx hb hown hU iu1 hw Ta0 (by decide) rfl (hU _ tw116) rfl hq6 dX1_copyFrom_12 ?_
  refine lv_aload_n hx hb dX1_copyFrom_15 rfl (lv_at hl 1 rfl) ?_
  obtain ⟨q7, hq7, hm⟩ := bd_some hm
  have Tq7 : TY S_3 q7 9 := hw.wf.ref (k := 1) (j := 1) Ta1 (by decide) (by decide) hq7
  refine pg_rb (k := 1) (j := 1) (f := 101) hx hb hown hU iu1 hw Ta1 (by decide) rfl (hU _ tw116) rfl hq7 dX1_copyFrom_16 ?_
  obtain ⟨S_8, hq9, hm⟩ := bd_some hm
  refine pw_cv (va_runVN (As := [.ref q7]) (rest := []) ⟨hx, hb, hml, hown, hU⟩ (c_X9_copyFrom l C X n S_3 hw.wf _ q6 q7 (Tq6) (Tq7) S_8 hq9) ⟨va_cnB (host := "WickNights") 1 hU (pq_g1 tc_X9_copyFrom) rfl rfl rfl (hw.nw 106 rfl) (hU _ tw5) cd_X9_copyFrom.2 ⟨Nat.le_of_ble_eq_true rfl, Nat.le_of_ble_eq_true rfl⟩, hU _ tw441, hU _ ts3⟩ (pw_preV hw Tq6 (by decide) rfl) rfl rfl hl.1 rfl (lv_room (Nat.le_of_ble_eq_true rfl)) dX1_copyFrom_19 ⟨Nat.zero_le _, Nat.zero_le _⟩) hw (fun H locs hw hx10 => ?_)
  have Ta0 : TY S_8 a0 1 := ty_ext hx10 Ta0
  have Ta1 : TY S_8 a1 1 := ty_ext hx10 Ta1
  have hE : Ext S0 S_8 := Ext.tr hE hx10
  refine lv_aload_n hx hb dX1_copyFrom_22 rfl (lv_at hl 0 rfl) ?_
  obtain ⟨q11, hq11, hm⟩ := bd_some hm
  have Tq11 : TY S_8 q11 9 := hw.wf.ref (k := 1) (j := 2) Ta0 (by decide) (by decide) hq11
  refine pg_rb (k := 1) (j := 2) (f := 102) hx hb hown hU iu1 hw Ta0 (by decide) rfl (hU _ tw123) rfl hq11 dX1_copyFrom_23 ?_
  refine lv_aload_n hx hb dX1_copyFrom_26 rfl (lv_at hl 1 rfl) ?_
  obtain ⟨q12, hq12, hm⟩ := bd_some hm
  have Tq12 : TY S_8 q12 9 := hw.wf.ref (k := 1) (j := 2) Ta1 (by decide) (by decide) hq12
  refine pg_rb (k := 1) (j := 2) (f := 102) hx hb hown hU iu1 hw Ta1 (by decide) rfl (hU _ tw123) rfl hq12 dX1_copyFrom_27 ?_
  obtain ⟨S_13, hq14, hm⟩ := bd_some hm
  refine pw_cv (va_runVN (As := [.ref q12]) (rest := []) ⟨hx, hb, hml, hown, hU⟩ (c_X9_copyFrom l C X n S_8 hw.wf _ q11 q12 (Tq11) (Tq12) S_13 hq14) ⟨va_cnB (host := "WickNights") 1 hU (pq_g1 tc_X9_copyFrom) rfl rfl rfl (hw.nw 106 rfl) (hU _ tw5) cd_X9_copyFrom.2 ⟨Nat.le_of_ble_eq_true rfl, Nat.le_of_ble_eq_true rfl⟩, hU _ tw441, hU _ ts3⟩ (pw_preV hw Tq11 (by decide) rfl) rfl rfl hl.1 rfl (lv_room (Nat.le_of_ble_eq_true rfl)) dX1_copyFrom_30 ⟨Nat.zero_le _, Nat.zero_le _⟩) hw (fun H locs hw hx15 => ?_)
  have Ta0 : TY S_13 a0 1 := ty_ext hx15 Ta0
  have Ta1 : TY S_13 a1 1 := ty_ext hx15 Ta1
  have hE : Ext S0 S_13 := Ext.tr hE hx15
  refine lv_aload_n hx hb dX1_copyFrom_33 rfl (lv_at hl 0 rfl) ?_
  obtain ⟨q16, hq16, hm⟩ := bd_some hm
  have Tq16 : TY S_13 q16 9 := hw.wf.ref (k := 1) (j := 3) Ta0 (by decide) (by decide) hq16
  refine pg_rb (k := 1) (j := 3) (f := 103) hx hb hown hU iu1 hw Ta0 (by decide) rfl (hU _ tw128) rfl hq16 dX1_copyFrom_34 ?_
  refine lv_aload_n hx hb dX1_copyFrom_37 rfl (lv_at hl 1 rfl) ?_
  obtain ⟨q17, hq17, hm⟩ := bd_some hm
  have Tq17 : TY S_13 q17 9 := hw.wf.ref (k := 1) (j := 3) Ta1 (by decide) (by decide) hq17
  refine pg_rb (k := 1) (j := 3) (f := 103) hx hb hown hU iu1 hw Ta1 (by decide) rfl (hU _ tw128) rfl hq17 dX1_copyFrom_38 ?_
  obtain ⟨S_18, hq19, hm⟩ := bd_some hm
  refine pw_cv (va_runVN (As := [.ref q17]) (rest := []) ⟨hx, hb, hml, hown, hU⟩ (c_X9_copyFrom l C X n S_13 hw.wf _ q16 q17 (Tq16) (Tq17) S_18 hq19) ⟨va_cnB (host := "WickNights") 1 hU (pq_g1 tc_X9_copyFrom) rfl rfl rfl (hw.nw 106 rfl) (hU _ tw5) cd_X9_copyFrom.2 ⟨Nat.le_of_ble_eq_true rfl, Nat.le_of_ble_eq_true rfl⟩, hU _ tw441, hU _ ts3⟩ (pw_preV hw Tq16 (by decide) rfl) rfl rfl hl.1 rfl (lv_room (Nat.le_of_ble_eq_true rfl)) dX1_copyFrom_41 ⟨Nat.zero_le _, Nat.zero_le _⟩) hw (fun H locs hw hx20 => ?_)
  have Ta0 : TY S_18 a0 1 := ty_ext hx20 Ta0
  have Ta1 : TY S_18 a1 1 := ty_ext hx20 Ta1
  have hE : Ext S0 S_18 := Ext.tr hE hx20
  refine lv_aload_n hx hb dX1_copyFrom_44 rfl (lv_at hl 0 rfl) ?_
  refine lv_aload_n hx hb dX1_copyFrom_45 rfl (lv_at hl 1 rfl) ?_
  refine pg_i (k := 1) (j := 4) (f := 104) hx hb hown hU iu1 hw Ta1 (by decide) rfl (hU _ tw130) rfl dX1_copyFrom_46 ?_
  refine pp_i (k := 1) (j := 4) (f := 104) hx hb hown hU iu1 tyX1_ok nmX1 hw Ta0 (by decide) rfl (hU _ tw130) rfl rfl rfl dX1_copyFrom_49 (fun H locs hw => ?_)
  refine lv_aload_n hx hb dX1_copyFrom_52 rfl (lv_at hl 0 rfl) ?_
  refine lv_aload_n hx hb dX1_copyFrom_53 rfl (lv_at hl 1 rfl) ?_
  refine pg_i (k := 1) (j := 5) (f := 105) hx hb hown hU iu1 hw Ta1 (by decide) rfl (hU _ tw132) rfl dX1_copyFrom_54 ?_
  refine pp_i (k := 1) (j := 5) (f := 105) hx hb hown hU iu1 tyX1_ok nmX1 hw Ta0 (by decide) rfl (hU _ tw132) rfl rfl rfl dX1_copyFrom_57 (fun H locs hw => ?_)
  obtain ⟨S_21, eS_21, hm⟩ := lt_some hm
  rw [← eS_21] at hw
  have Ta0 : TY S_21 a0 1 := by rw [eS_21]; exact Ta0
  have Ta1 : TY S_21 a1 1 := by rw [eS_21]; exact Ta1
  have hE : Ext S0 S_21 := by rw [eS_21]; exact hE
  cases hm
  exact pw_vret hx hb hr hlk hw hE dX1_copyFrom_60
abbrev rm_X1_milesBetween : Room := { frames := 1, cells := 0, slots := 0, locals := 40 }
def m_X1_milesBetween (n : Nat) (a0 : Nat) (x1 : Int32) (x2 : Int32) (S0 : pq_S) : Option (Int32 × pq_S) := Option.bind (pR S0 100 a0) fun q1 => cb (m_X9_at n q1 x1 0 S0) fun r4 S_2 => Option.bind (pR S_2 100 a0) fun q6 => cb (m_X9_at n q6 x2 0 S_2) fun r9 S_7 => some ((if 0 ≤ (r4 - r9) then (r4 - r9) else 0 - (r4 - r9)), S_7)
theorem tc_X1_milesBetween : Cond.code yX1_milesBetween cX1_milesBetween 3 (some .int) ∈ pq_U := tw868
theorem cd_X1_milesBetween : yX1_milesBetween.cls = RX1 ∧ yX1_milesBetween.cls ≠ "java/lang/invoke/MethodHandle" ∧ yX1_milesBetween.cls ≠ "java/lang/invoke/VarHandle" ∧ (parseMethodDescriptor yX1_milesBetween.desc).map (fun d => d.parameters.length) = some 2 := by decide +kernel
set_option maxHeartbeats 4000000 in
set_option maxRecDepth 100000 in
theorem c_X1_milesBetween (l : Launch) (C : pq_C) (X : va_W) (n : Nat) (S0 : pq_S) (hF : WF S0) (sz : Nat) (a0 : Nat) (x1 : Int32) (x2 : Int32) (Ta0 : TY S0 a0 1) (r : Int32) (S1 : pq_S) (hm : m_X1_milesBetween n a0 x1 x2 S0 = some (r, S1)) : MI l yX1_milesBetween (.code yX1_milesBetween cX1_milesBetween 3 (some .int) :: pq_U) rm_X1_milesBetween C X S0 sz [.ref a0, .int x1, .int x2] r S1 0 0 := by
  refine Met.ofW (cc := cX1_milesBetween) (maxL := 3) (ret := (some .int)) (by decide) rfl ?_
  intro p e s m args below meth c s₁ B hml hv
  obtain ⟨rfl, hv⟩ := hv
  have hsz := hv.1
  subst hsz
  have hw := pw_entry hF hv
  have hts := atoms_spec (ws := .code yX1_milesBetween cX1_milesBetween 3 (some .int) :: pq_U) B.pre
  have hU : ∀ w ∈ pq_U, w.before _ s = true := fun w h => hts w (List.mem_cons_of_mem _ h)
  have hx := B.exec
  have hb := B.bytes
  have hr := B.returns
  have hown : s.vm.findClass RX1 = some m.cls := findClass_of_methodNamed B.named
  have hlk := B.notSynchronized
  have hl := lv_entry ([.ref a0, .int x1, .int x2]) (n := 3) (Nat.le_of_ble_eq_true rfl)
  rw [lg_entry_eq]
  generalize (lg_sl ([.ref a0, .int x1, .int x2]) ++ List.replicate (3 - (lg_sl ([.ref a0, .int x1, .int x2])).length) Slot.unset).toArray = ls at hl ⊢
  have hl : lv_has ls 3 [(0, .ref a0), (1, .int x1), (2, .int x2)] := hl
  have hE : Ext S0 S0 := Ext.rf _
  have cx : Cx p s m _ meth c cX1_milesBetween 3 RX1 (some .int) := ⟨hx, hb, hml, hown, hU, hr, hlk⟩
  rw [m_X1_milesBetween] at hm
  refine lv_aload_n hx hb dX1_milesBetween_0 rfl (lv_at hl 0 rfl) ?_
  obtain ⟨q1, hq1, hm⟩ := bd_some hm
  have Tq1 : TY S0 q1 9 := hw.wf.ref (k := 1) (j := 0) Ta0 (by decide) (by decide) hq1
  refine pg_rb (k := 1) (j := 0) (f := 100) hx hb hown hU iu1 hw Ta0 (by decide) rfl (hU _ tw109) rfl hq1 dX1_milesBetween_1 ?_
  refine lv_iload_n hx hb dX1_milesBetween_4 rfl (lv_at hl 1 rfl) ?_
  refine lv_iconst (v := 0) hx hb dX1_milesBetween_5 (by decide) ?_
  obtain ⟨r4, S_2, hq3, hm⟩ := cb_some hm
  refine pw_ci (va_runVN (As := [.int x1, .int 0]) (rest := []) ⟨hx, hb, hml, hown, hU⟩ (c_X9_at l C X n S0 hw.wf _ q1 x1 0 (Tq1) r4 S_2 hq3) ⟨va_cnB (host := "WickNights") 2 hU (pq_g1 tc_X9_at) rfl rfl rfl (hw.nw 138 rfl) (hU _ tw5) cd_X9_at.2 ⟨Nat.le_of_ble_eq_true rfl, Nat.le_of_ble_eq_true rfl⟩, hU _ tw719, hU _ ts32⟩ (pw_preV hw Tq1 (by decide) rfl) rfl rfl hl.1 rfl (lv_room (Nat.le_of_ble_eq_true rfl)) dX1_milesBetween_6 ⟨Nat.zero_le _, Nat.zero_le _⟩) hw (fun H locs hw hx5 => ?_)
  have Ta0 : TY S_2 a0 1 := ty_ext hx5 Ta0
  have hE : Ext S0 S_2 := Ext.tr hE hx5
  refine lv_aload_n hx hb dX1_milesBetween_9 rfl (lv_at hl 0 rfl) ?_
  obtain ⟨q6, hq6, hm⟩ := bd_some hm
  have Tq6 : TY S_2 q6 9 := hw.wf.ref (k := 1) (j := 0) Ta0 (by decide) (by decide) hq6
  refine pg_rb (k := 1) (j := 0) (f := 100) hx hb hown hU iu1 hw Ta0 (by decide) rfl (hU _ tw109) rfl hq6 dX1_milesBetween_10 ?_
  refine lv_iload_n hx hb dX1_milesBetween_13 rfl (lv_at hl 2 rfl) ?_
  refine lv_iconst (v := 0) hx hb dX1_milesBetween_14 (by decide) ?_
  obtain ⟨r9, S_7, hq8, hm⟩ := cb_some hm
  refine pw_ci (va_runVN (As := [.int x2, .int 0]) (rest := [.int r4]) ⟨hx, hb, hml, hown, hU⟩ (c_X9_at l C X n S_2 hw.wf _ q6 x2 0 (Tq6) r9 S_7 hq8) ⟨va_cnB (host := "WickNights") 2 hU (pq_g1 tc_X9_at) rfl rfl rfl (hw.nw 138 rfl) (hU _ tw5) cd_X9_at.2 ⟨Nat.le_of_ble_eq_true rfl, Nat.le_of_ble_eq_true rfl⟩, hU _ tw719, hU _ ts32⟩ (pw_preV hw Tq6 (by decide) rfl) rfl rfl hl.1 rfl (lv_room (Nat.le_of_ble_eq_true rfl)) dX1_milesBetween_15 ⟨Nat.zero_le _, Nat.zero_le _⟩) hw (fun H locs hw hx10 => ?_)
  have Ta0 : TY S_7 a0 1 := ty_ext hx10 Ta0
  have hE : Ext S0 S_7 := Ext.tr hE hx10
  refine lv_isub hx hb dX1_milesBetween_18 ?_
  refine va_mabs hx hb (by rw [hml]; exact hl.1.symm) hown (hU _ tw870) (hU _ twm_abs_s) (hU _ twm_i) (hU _ twm_abs_c) (Nat.le_of_ble_eq_true rfl) (Nat.le_of_ble_eq_true rfl) (Nat.zero_le _) (Nat.zero_le _) dX1_milesBetween_19 ?_
  cases hm
  exact pw_iret hx hb hr rfl hlk hw hE dX1_milesBetween_22
abbrev rm_X1_standsAhead : Room := { frames := 1, cells := 0, slots := 0, locals := 23 }
def b_X1_standsAhead_38 (n : Nat)  (S : pq_S) : Option (Int32 × pq_S) := some (1, S)
set_option maxHeartbeats 4000000 in
set_option maxRecDepth 100000 in
theorem wb_X1_standsAhead_38 {p : Program} {l : Launch} {e : Env} {s : State} {m : MethodId} {args : Array Value} {below : List Frame} {meth : Method} {c : Code} (cx : Cx p s m args meth c cX1_standsAhead 5 RX1 (some .boolean)) (C : pq_C) (X : va_W) (S0 : pq_S) (n : Nat) (r : Int32) (S1 : pq_S) : ∀  (S : pq_S) (H : Heap) (locs : List Loc) (ls : Array Slot), PW C X S (pq_F C X S0 s.heap.size) H locs s → Ext S0 S → lv_has ls 5 [] → b_X1_standsAhead_38 n  S = some (r, S1) → W p l e rm_X1_standsAhead s m args below meth c H locs 0 0 (MQ below (QcZ C X S0 s.heap.size r S1) args s 0 0 (pq_F C X S0 s.heap.size)) (F0 m 38 ls []) := by
  obtain ⟨hx, hb, hml, hown, hU, hr, hlk⟩ := id cx
  intro S H locs ls hw hE hl hm
  rw [b_X1_standsAhead_38] at hm
  refine lv_iconst (v := 1) hx hb dX1_standsAhead_38 (by decide) ?_
  refine lv_goto (tgt := 43) hx hb dX1_standsAhead_39 (by decide) ?_
  cases hm
  exact pw_zret hx hb hr bz_1 hlk hw hE dX1_standsAhead_43
def m_X1_standsAhead (n : Nat) (a0 : Nat) (x1 : Int32) (x2 : Int32) (S0 : pq_S) : Option (Int32 × pq_S) := Option.bind (pR S0 100 a0) fun q1 => cb (m_X9_at n q1 x1 0 S0) fun r4 S_2 => Option.bind (pR S_2 100 a0) fun q6 => cb (m_X9_at n q6 x2 0 S_2) fun r9 S_7 => if r4 < r9 then b_X1_standsAhead_38 n  S_7 else if r4 = r9 then if x2 ≤ x1 then some (0, S_7) else b_X1_standsAhead_38 n  S_7 else some (0, S_7)
theorem tc_X1_standsAhead : Cond.code yX1_standsAhead cX1_standsAhead 5 (some .boolean) ∈ pq_U := tw1299
theorem cd_X1_standsAhead : yX1_standsAhead.cls = RX1 ∧ yX1_standsAhead.cls ≠ "java/lang/invoke/MethodHandle" ∧ yX1_standsAhead.cls ≠ "java/lang/invoke/VarHandle" ∧ (parseMethodDescriptor yX1_standsAhead.desc).map (fun d => d.parameters.length) = some 2 := by decide +kernel
set_option maxHeartbeats 4000000 in
set_option maxRecDepth 100000 in
theorem c_X1_standsAhead (l : Launch) (C : pq_C) (X : va_W) (n : Nat) (S0 : pq_S) (hF : WF S0) (sz : Nat) (a0 : Nat) (x1 : Int32) (x2 : Int32) (Ta0 : TY S0 a0 1) (r : Int32) (S1 : pq_S) (hm : m_X1_standsAhead n a0 x1 x2 S0 = some (r, S1)) : MZ l yX1_standsAhead (.code yX1_standsAhead cX1_standsAhead 5 (some .boolean) :: pq_U) rm_X1_standsAhead C X S0 sz [.ref a0, .int x1, .int x2] r S1 0 0 := by
  refine Met.ofW (cc := cX1_standsAhead) (maxL := 5) (ret := (some .boolean)) (by decide) rfl ?_
  intro p e s m args below meth c s₁ B hml hv
  obtain ⟨rfl, hv⟩ := hv
  have hsz := hv.1
  subst hsz
  have hw := pw_entry hF hv
  have hts := atoms_spec (ws := .code yX1_standsAhead cX1_standsAhead 5 (some .boolean) :: pq_U) B.pre
  have hU : ∀ w ∈ pq_U, w.before _ s = true := fun w h => hts w (List.mem_cons_of_mem _ h)
  have hx := B.exec
  have hb := B.bytes
  have hr := B.returns
  have hown : s.vm.findClass RX1 = some m.cls := findClass_of_methodNamed B.named
  have hlk := B.notSynchronized
  have hl := lv_entry ([.ref a0, .int x1, .int x2]) (n := 5) (Nat.le_of_ble_eq_true rfl)
  rw [lg_entry_eq]
  generalize (lg_sl ([.ref a0, .int x1, .int x2]) ++ List.replicate (5 - (lg_sl ([.ref a0, .int x1, .int x2])).length) Slot.unset).toArray = ls at hl ⊢
  have hl : lv_has ls 5 [(0, .ref a0), (1, .int x1), (2, .int x2)] := hl
  have hE : Ext S0 S0 := Ext.rf _
  have cx : Cx p s m _ meth c cX1_standsAhead 5 RX1 (some .boolean) := ⟨hx, hb, hml, hown, hU, hr, hlk⟩
  rw [m_X1_standsAhead] at hm
  refine lv_aload_n hx hb dX1_standsAhead_0 rfl (lv_at hl 0 rfl) ?_
  obtain ⟨q1, hq1, hm⟩ := bd_some hm
  have Tq1 : TY S0 q1 9 := hw.wf.ref (k := 1) (j := 0) Ta0 (by decide) (by decide) hq1
  refine pg_rb (k := 1) (j := 0) (f := 100) hx hb hown hU iu1 hw Ta0 (by decide) rfl (hU _ tw109) rfl hq1 dX1_standsAhead_1 ?_
  refine lv_iload_n hx hb dX1_standsAhead_4 rfl (lv_at hl 1 rfl) ?_
  refine lv_iconst (v := 0) hx hb dX1_standsAhead_5 (by decide) ?_
  obtain ⟨r4, S_2, hq3, hm⟩ := cb_some hm
  refine pw_ci (va_runVN (As := [.int x1, .int 0]) (rest := []) ⟨hx, hb, hml, hown, hU⟩ (c_X9_at l C X n S0 hw.wf _ q1 x1 0 (Tq1) r4 S_2 hq3) ⟨va_cnB (host := "WickNights") 2 hU (pq_g1 tc_X9_at) rfl rfl rfl (hw.nw 138 rfl) (hU _ tw5) cd_X9_at.2 ⟨Nat.le_of_ble_eq_true rfl, Nat.le_of_ble_eq_true rfl⟩, hU _ tw719, hU _ ts32⟩ (pw_preV hw Tq1 (by decide) rfl) rfl rfl hl.1 rfl (lv_room (Nat.le_of_ble_eq_true rfl)) dX1_standsAhead_6 ⟨Nat.zero_le _, Nat.zero_le _⟩) hw (fun H locs hw hx5 => ?_)
  have Ta0 : TY S_2 a0 1 := ty_ext hx5 Ta0
  have hE : Ext S0 S_2 := Ext.tr hE hx5
  refine lv_istore_n (lv' := [(3, .int r4), (0, .ref a0), (1, .int x1), (2, .int x2)]) hx hb dX1_standsAhead_9 rfl hl (by decide) rfl (fun ls hl => ?_)
  refine lv_aload_n hx hb dX1_standsAhead_10 rfl (lv_at hl 1 rfl) ?_
  obtain ⟨q6, hq6, hm⟩ := bd_some hm
  have Tq6 : TY S_2 q6 9 := hw.wf.ref (k := 1) (j := 0) Ta0 (by decide) (by decide) hq6
  refine pg_rb (k := 1) (j := 0) (f := 100) hx hb hown hU iu1 hw Ta0 (by decide) rfl (hU _ tw109) rfl hq6 dX1_standsAhead_11 ?_
  refine lv_iload_n hx hb dX1_standsAhead_14 rfl (lv_at hl 3 rfl) ?_
  refine lv_iconst (v := 0) hx hb dX1_standsAhead_15 (by decide) ?_
  obtain ⟨r9, S_7, hq8, hm⟩ := cb_some hm
  refine pw_ci (va_runVN (As := [.int x2, .int 0]) (rest := []) ⟨hx, hb, hml, hown, hU⟩ (c_X9_at l C X n S_2 hw.wf _ q6 x2 0 (Tq6) r9 S_7 hq8) ⟨va_cnB (host := "WickNights") 2 hU (pq_g1 tc_X9_at) rfl rfl rfl (hw.nw 138 rfl) (hU _ tw5) cd_X9_at.2 ⟨Nat.le_of_ble_eq_true rfl, Nat.le_of_ble_eq_true rfl⟩, hU _ tw719, hU _ ts32⟩ (pw_preV hw Tq6 (by decide) rfl) rfl rfl hl.1 rfl (lv_room (Nat.le_of_ble_eq_true rfl)) dX1_standsAhead_16 ⟨Nat.zero_le _, Nat.zero_le _⟩) hw (fun H locs hw hx10 => ?_)
  have Ta0 : TY S_7 a0 1 := ty_ext hx10 Ta0
  have hE : Ext S0 S_7 := Ext.tr hE hx10
  refine lv_istore (lv' := [(4, .int r9), (3, .int r4), (0, .ref a0), (1, .int x1), (2, .int x2)]) hx hb dX1_standsAhead_19 hl (by decide) rfl (fun ls hl => ?_)
  refine lv_iload_n hx hb dX1_standsAhead_21 rfl (lv_at hl 1 rfl) ?_
  refine lv_iload hx hb dX1_standsAhead_22 (lv_at hl 0 rfl) ?_
  refine lv_icmp_lt (tgt := 38) hx hb dX1_standsAhead_24 (by decide) (fun h11 => ?_) (fun h11 => ?_)
  · rw [if_pos h11] at hm
    exact wb_X1_standsAhead_38 cx C X S0 n r S1  S_7 _ _ _ hw hE  (lv_sub hl [] rfl) hm
  · rw [if_neg h11] at hm
    refine lv_iload_n hx hb dX1_standsAhead_27 rfl (lv_at hl 1 rfl) ?_
    refine lv_iload hx hb dX1_standsAhead_28 (lv_at hl 0 rfl) ?_
    refine lv_icmp_ne (tgt := 42) hx hb dX1_standsAhead_30 (by decide) (fun h12 => ?_) (fun h12 => ?_)
    · rw [if_neg h12] at hm
      refine lv_iconst (v := 0) hx hb dX1_standsAhead_42 (by decide) ?_
      cases hm
      exact pw_zret hx hb hr bz_0 hlk hw hE dX1_standsAhead_43
    · rw [if_pos h12] at hm
      refine lv_iload_n hx hb dX1_standsAhead_33 rfl (lv_at hl 3 rfl) ?_
      refine lv_iload_n hx hb dX1_standsAhead_34 rfl (lv_at hl 4 rfl) ?_
      refine lv_icmp_ge (tgt := 42) hx hb dX1_standsAhead_35 (by decide) (fun h13 => ?_) (fun h13 => ?_)
      · rw [if_pos h13] at hm
        refine lv_iconst (v := 0) hx hb dX1_standsAhead_42 (by decide) ?_
        cases hm
        exact pw_zret hx hb hr bz_0 hlk hw hE dX1_standsAhead_43
      · rw [if_neg h13] at hm
        exact wb_X1_standsAhead_38 cx C X S0 n r S1  S_7 _ _ _ hw hE  (lv_sub hl [] rfl) hm
abbrev rm_X1_neighbour : Room := { frames := 2, cells := 0, slots := 0, locals := 47 }
def b_X1_neighbour_53 (n : Nat) (k4 : Nat → Int32 → Int32 → Int32 → Int32 → pq_S → Option (Int32 × pq_S)) (a0 : Nat) (x1 : Int32) (x2 : Int32) (x3 : Int32) (x4 : Int32) (S : pq_S) : Option (Int32 × pq_S) := k4 a0 x1 x2 x3 (x4 + 1) S
set_option maxHeartbeats 4000000 in
set_option maxRecDepth 100000 in
theorem wb_X1_neighbour_53 {p : Program} {l : Launch} {e : Env} {s : State} {m : MethodId} {args : Array Value} {below : List Frame} {meth : Method} {c : Code} (cx : Cx p s m args meth c cX1_neighbour 5 RX1 (some .int)) (C : pq_C) (X : va_W) (S0 : pq_S) (n : Nat) (r : Int32) (S1 : pq_S) (k4 : Nat → Int32 → Int32 → Int32 → Int32 → pq_S → Option (Int32 × pq_S)) (hk4 : ∀ (a0 : Nat) (x1 : Int32) (x2 : Int32) (x3 : Int32) (x4 : Int32) (S : pq_S) (H : Heap) (locs : List Loc) (ls : Array Slot), PW C X S (pq_F C X S0 s.heap.size) H locs s → Ext S0 S → TY S a0 1 → lv_has ls 5 [(0, .ref a0), (1, .int x1), (2, .int x2), (3, .int x3), (4, .int x4)] → k4 a0 x1 x2 x3 x4 S = some (r, S1) → W p l e rm_X1_neighbour s m args below meth c H locs 0 0 (MQ below (QcI C X S0 s.heap.size r S1) args s 0 0 (pq_F C X S0 s.heap.size)) (F0 m 5 ls [])) : ∀ (a0 : Nat) (x1 : Int32) (x2 : Int32) (x3 : Int32) (x4 : Int32) (S : pq_S) (H : Heap) (locs : List Loc) (ls : Array Slot), PW C X S (pq_F C X S0 s.heap.size) H locs s → Ext S0 S → TY S a0 1 → lv_has ls 5 [(0, .ref a0), (1, .int x1), (2, .int x2), (3, .int x3), (4, .int x4)] → b_X1_neighbour_53 n k4 a0 x1 x2 x3 x4 S = some (r, S1) → W p l e rm_X1_neighbour s m args below meth c H locs 0 0 (MQ below (QcI C X S0 s.heap.size r S1) args s 0 0 (pq_F C X S0 s.heap.size)) (F0 m 53 ls []) := by
  obtain ⟨hx, hb, hml, hown, hU, hr, hlk⟩ := id cx
  intro a0 x1 x2 x3 x4 S H locs ls hw hE Ta0 hl hm
  rw [b_X1_neighbour_53] at hm
  refine lv_iinc (v := (x4 + 1)) (lv' := [(4, .int (x4 + 1)), (0, .ref a0), (1, .int x1), (2, .int x2), (3, .int x3)]) hx hb dX1_neighbour_53 hl (k := 4) rfl rfl (by decide) rfl (fun ls hl => ?_)
  refine lv_goto (tgt := 5) hx hb dX1_neighbour_56 (by decide) ?_
  exact hk4 a0 x1 x2 x3 (x4 + 1) S _ _ _ hw hE Ta0 (lv_sub hl [1, 2, 3, 4, 0] rfl) hm
def b_X1_neighbour_50 (n : Nat) (k4 : Nat → Int32 → Int32 → Int32 → Int32 → pq_S → Option (Int32 × pq_S)) (a0 : Nat) (x1 : Int32) (x2 : Int32) (x4 : Int32) (S : pq_S) : Option (Int32 × pq_S) := b_X1_neighbour_53 n k4 a0 x1 x2 x4 x4 S
set_option maxHeartbeats 4000000 in
set_option maxRecDepth 100000 in
theorem wb_X1_neighbour_50 {p : Program} {l : Launch} {e : Env} {s : State} {m : MethodId} {args : Array Value} {below : List Frame} {meth : Method} {c : Code} (cx : Cx p s m args meth c cX1_neighbour 5 RX1 (some .int)) (C : pq_C) (X : va_W) (S0 : pq_S) (n : Nat) (r : Int32) (S1 : pq_S) (k4 : Nat → Int32 → Int32 → Int32 → Int32 → pq_S → Option (Int32 × pq_S)) (hk4 : ∀ (a0 : Nat) (x1 : Int32) (x2 : Int32) (x3 : Int32) (x4 : Int32) (S : pq_S) (H : Heap) (locs : List Loc) (ls : Array Slot), PW C X S (pq_F C X S0 s.heap.size) H locs s → Ext S0 S → TY S a0 1 → lv_has ls 5 [(0, .ref a0), (1, .int x1), (2, .int x2), (3, .int x3), (4, .int x4)] → k4 a0 x1 x2 x3 x4 S = some (r, S1) → W p l e rm_X1_neighbour s m args below meth c H locs 0 0 (MQ below (QcI C X S0 s.heap.size r S1) args s 0 0 (pq_F C X S0 s.heap.size)) (F0 m 5 ls [])) : ∀ (a0 : Nat) (x1 : Int32) (x2 : Int32) (x4 : Int32) (S : pq_S) (H : Heap) (locs : List Loc) (ls : Array Slot), PW C X S (pq_F C X S0 s.heap.size) H locs s → Ext S0 S → TY S a0 1 → lv_has ls 5 [(0, .ref a0), (1, .int x1), (2, .int x2), (4, .int x4)] → b_X1_neighbour_50 n k4 a0 x1 x2 x4 S = some (r, S1) → W p l e rm_X1_neighbour s m args below meth c H locs 0 0 (MQ below (QcI C X S0 s.heap.size r S1) args s 0 0 (pq_F C X S0 s.heap.size)) (F0 m 50 ls []) := by
  obtain ⟨hx, hb, hml, hown, hU, hr, hlk⟩ := id cx
  intro a0 x1 x2 x4 S H locs ls hw hE Ta0 hl hm
  rw [b_X1_neighbour_50] at hm
  refine lv_iload hx hb dX1_neighbour_50 (lv_at hl 3 rfl) ?_
  refine lv_istore_n (lv' := [(3, .int x4), (0, .ref a0), (1, .int x1), (2, .int x2), (4, .int x4)]) hx hb dX1_neighbour_52 rfl hl (by decide) rfl (fun ls hl => ?_)
  exact wb_X1_neighbour_53 cx C X S0 n r S1 _ hk4 a0 x1 x2 x4 x4 S _ _ _ hw hE Ta0 (lv_sub hl [1, 2, 3, 0, 4] rfl) hm
def b_X1_neighbour_5 (n : Nat) : Nat → Nat → Int32 → Int32 → Int32 → Int32 → pq_S → Option (Int32 × pq_S)
  | 0, _, _, _, _, _, _ => none
  | f + 1, a0, x1, x2, x3, x4, S => Option.bind (pR S 100 a0) fun q1 => if (pI S 902 q1) ≤ x4 then some (x3, S) else if x4 = x1 then b_X1_neighbour_53 n (b_X1_neighbour_5 n f) a0 x1 x2 x3 x4 S else cb (m_X1_standsAhead n a0 x4 x1 S) fun r6 S_4 => if r6 = x2 then if x3 = (-1) then b_X1_neighbour_50 n (b_X1_neighbour_5 n f) a0 x1 x2 x4 S_4 else cb (m_X1_standsAhead n a0 x3 x4 S_4) fun r13 S_11 => if r13 = x2 then b_X1_neighbour_50 n (b_X1_neighbour_5 n f) a0 x1 x2 x4 S_11 else b_X1_neighbour_53 n (b_X1_neighbour_5 n f) a0 x1 x2 x3 x4 S_11 else b_X1_neighbour_53 n (b_X1_neighbour_5 n f) a0 x1 x2 x3 x4 S_4
set_option maxHeartbeats 4000000 in
set_option maxRecDepth 100000 in
theorem wb_X1_neighbour_5 {p : Program} {l : Launch} {e : Env} {s : State} {m : MethodId} {args : Array Value} {below : List Frame} {meth : Method} {c : Code} (cx : Cx p s m args meth c cX1_neighbour 5 RX1 (some .int)) (C : pq_C) (X : va_W) (S0 : pq_S) (n : Nat) (r : Int32) (S1 : pq_S) : ∀ (f : Nat) (a0 : Nat) (x1 : Int32) (x2 : Int32) (x3 : Int32) (x4 : Int32) (S : pq_S) (H : Heap) (locs : List Loc) (ls : Array Slot), PW C X S (pq_F C X S0 s.heap.size) H locs s → Ext S0 S → TY S a0 1 → lv_has ls 5 [(0, .ref a0), (1, .int x1), (2, .int x2), (3, .int x3), (4, .int x4)] → b_X1_neighbour_5 n f a0 x1 x2 x3 x4 S = some (r, S1) → W p l e rm_X1_neighbour s m args below meth c H locs 0 0 (MQ below (QcI C X S0 s.heap.size r S1) args s 0 0 (pq_F C X S0 s.heap.size)) (F0 m 5 ls []) := by
  obtain ⟨hx, hb, hml, hown, hU, hr, hlk⟩ := id cx
  intro f
  induction f with
  | zero =>
    intro a0 x1 x2 x3 x4 S H locs ls hw hE Ta0 hl hm
    cases hm
  | succ f ih =>
    intro a0 x1 x2 x3 x4 S H locs ls hw hE Ta0 hl hm
    rw [b_X1_neighbour_5] at hm
    refine lv_iload hx hb dX1_neighbour_5 (lv_at hl 4 rfl) ?_
    refine lv_aload_n hx hb dX1_neighbour_7 rfl (lv_at hl 0 rfl) ?_
    obtain ⟨q1, hq1, hm⟩ := bd_some hm
    have Tq1 : TY S q1 9 := hw.wf.ref (k := 1) (j := 0) Ta0 (by decide) (by decide) hq1
    refine pg_rb (k := 1) (j := 0) (f := 100) hx hb hown hU iu1 hw Ta0 (by decide) rfl (hU _ tw109) rfl hq1 dX1_neighbour_8 ?_
    refine pgN_i (k := 9) (j := 2) (f := 902) hx hb hown hU iu9 hw Tq1 (by decide) rfl 18 rfl rfl dX1_neighbour_11 ?_
    refine lv_icmp_ge (tgt := 59) hx hb dX1_neighbour_14 (by decide) (fun h2 => ?_) (fun h2 => ?_)
    · rw [if_pos h2] at hm
      refine lv_iload_n hx hb dX1_neighbour_59 rfl (lv_at hl 3 rfl) ?_
      cases hm
      exact pw_iret hx hb hr rfl hlk hw hE dX1_neighbour_60
    · rw [if_neg h2] at hm
      refine lv_iload hx hb dX1_neighbour_17 (lv_at hl 4 rfl) ?_
      refine lv_iload_n hx hb dX1_neighbour_19 rfl (lv_at hl 1 rfl) ?_
      refine lv_icmp_eq (tgt := 53) hx hb dX1_neighbour_20 (by decide) (fun h3 => ?_) (fun h3 => ?_)
      · rw [if_pos h3] at hm
        exact wb_X1_neighbour_53 cx C X S0 n r S1 _ ih a0 x1 x2 x3 x4 S _ _ _ hw hE Ta0 (lv_sub hl [0, 1, 2, 3, 4] rfl) hm
      · rw [if_neg h3] at hm
        refine lv_aload_n hx hb dX1_neighbour_23 rfl (lv_at hl 0 rfl) ?_
        refine lv_iload hx hb dX1_neighbour_24 (lv_at hl 4 rfl) ?_
        refine lv_iload_n hx hb dX1_neighbour_26 rfl (lv_at hl 1 rfl) ?_
        obtain ⟨r6, S_4, hq5, hm⟩ := cb_some hm
        refine pw_cz (va_runV (As := [.int x4, .int x1]) (rest := []) ⟨hx, hb, hml, hown, hU⟩ (c_X1_standsAhead l C X n S hw.wf _ a0 x4 x1 (Ta0) r6 S_4 hq5) (cwV 2 hU (pq_gV tw1296 tw1298 ts106 tw4 tc_X1_standsAhead) rfl rfl rfl cd_X1_standsAhead ⟨Nat.le_of_ble_eq_true rfl, Nat.le_of_ble_eq_true rfl⟩) (pw_preV hw Ta0 (by decide) rfl) rfl rfl hl.1 rfl (lv_room (Nat.le_of_ble_eq_true rfl)) dX1_neighbour_27 ⟨Nat.zero_le _, Nat.zero_le _⟩) hw (fun H locs hw hx7 hz8 => ?_)
        have Ta0 : TY S_4 a0 1 := ty_ext hx7 Ta0
        have hE : Ext S0 S_4 := Ext.tr hE hx7
        refine lv_iload_n hx hb dX1_neighbour_30 rfl (lv_at hl 2 rfl) ?_
        refine lv_icmp_ne (tgt := 53) hx hb dX1_neighbour_31 (by decide) (fun h9 => ?_) (fun h9 => ?_)
        · rw [if_neg h9] at hm
          exact wb_X1_neighbour_53 cx C X S0 n r S1 _ ih a0 x1 x2 x3 x4 S_4 _ _ _ hw hE Ta0 (lv_sub hl [0, 1, 2, 3, 4] rfl) hm
        · rw [if_pos h9] at hm
          refine lv_iload_n hx hb dX1_neighbour_34 rfl (lv_at hl 3 rfl) ?_
          refine lv_iconst (v := (-1)) hx hb dX1_neighbour_35 (by decide) ?_
          refine lv_icmp_eq (tgt := 50) hx hb dX1_neighbour_36 (by decide) (fun h10 => ?_) (fun h10 => ?_)
          · rw [if_pos h10] at hm
            exact wb_X1_neighbour_50 cx C X S0 n r S1 _ ih a0 x1 x2 x4 S_4 _ _ _ hw hE Ta0 (lv_sub hl [0, 1, 2, 4] rfl) hm
          · rw [if_neg h10] at hm
            refine lv_aload_n hx hb dX1_neighbour_39 rfl (lv_at hl 0 rfl) ?_
            refine lv_iload_n hx hb dX1_neighbour_40 rfl (lv_at hl 3 rfl) ?_
            refine lv_iload hx hb dX1_neighbour_41 (lv_at hl 4 rfl) ?_
            obtain ⟨r13, S_11, hq12, hm⟩ := cb_some hm
            refine pw_cz (va_runV (As := [.int x3, .int x4]) (rest := []) ⟨hx, hb, hml, hown, hU⟩ (c_X1_standsAhead l C X n S_4 hw.wf _ a0 x3 x4 (Ta0) r13 S_11 hq12) (cwV 2 hU (pq_gV tw1296 tw1298 ts106 tw4 tc_X1_standsAhead) rfl rfl rfl cd_X1_standsAhead ⟨Nat.le_of_ble_eq_true rfl, Nat.le_of_ble_eq_true rfl⟩) (pw_preV hw Ta0 (by decide) rfl) rfl rfl hl.1 rfl (lv_room (Nat.le_of_ble_eq_true rfl)) dX1_neighbour_43 ⟨Nat.zero_le _, Nat.zero_le _⟩) hw (fun H locs hw hx14 hz15 => ?_)
            have Ta0 : TY S_11 a0 1 := ty_ext hx14 Ta0
            have hE : Ext S0 S_11 := Ext.tr hE hx14
            refine lv_iload_n hx hb dX1_neighbour_46 rfl (lv_at hl 2 rfl) ?_
            refine lv_icmp_ne (tgt := 53) hx hb dX1_neighbour_47 (by decide) (fun h16 => ?_) (fun h16 => ?_)
            · rw [if_neg h16] at hm
              exact wb_X1_neighbour_53 cx C X S0 n r S1 _ ih a0 x1 x2 x3 x4 S_11 _ _ _ hw hE Ta0 (lv_sub hl [0, 1, 2, 3, 4] rfl) hm
            · rw [if_pos h16] at hm
              exact wb_X1_neighbour_50 cx C X S0 n r S1 _ ih a0 x1 x2 x4 S_11 _ _ _ hw hE Ta0 (lv_sub hl [0, 1, 2, 4] rfl) hm
def m_X1_neighbour (n : Nat) (a0 : Nat) (x1 : Int32) (x2 : Int32) (S0 : pq_S) : Option (Int32 × pq_S) := b_X1_neighbour_5 n n a0 x1 x2 (-1) 0 S0
theorem tc_X1_neighbour : Cond.code yX1_neighbour cX1_neighbour 5 (some .int) ∈ pq_U := tw1295
theorem cd_X1_neighbour : yX1_neighbour.cls = RX1 ∧ yX1_neighbour.cls ≠ "java/lang/invoke/MethodHandle" ∧ yX1_neighbour.cls ≠ "java/lang/invoke/VarHandle" ∧ (parseMethodDescriptor yX1_neighbour.desc).map (fun d => d.parameters.length) = some 2 := by decide +kernel
set_option maxHeartbeats 4000000 in
set_option maxRecDepth 100000 in
theorem c_X1_neighbour (l : Launch) (C : pq_C) (X : va_W) (n : Nat) (S0 : pq_S) (hF : WF S0) (sz : Nat) (a0 : Nat) (x1 : Int32) (x2 : Int32) (Ta0 : TY S0 a0 1) (r : Int32) (S1 : pq_S) (hm : m_X1_neighbour n a0 x1 x2 S0 = some (r, S1)) : MI l yX1_neighbour (.code yX1_neighbour cX1_neighbour 5 (some .int) :: pq_U) rm_X1_neighbour C X S0 sz [.ref a0, .int x1, .int x2] r S1 0 0 := by
  refine Met.ofW (cc := cX1_neighbour) (maxL := 5) (ret := (some .int)) (by decide) rfl ?_
  intro p e s m args below meth c s₁ B hml hv
  obtain ⟨rfl, hv⟩ := hv
  have hsz := hv.1
  subst hsz
  have hw := pw_entry hF hv
  have hts := atoms_spec (ws := .code yX1_neighbour cX1_neighbour 5 (some .int) :: pq_U) B.pre
  have hU : ∀ w ∈ pq_U, w.before _ s = true := fun w h => hts w (List.mem_cons_of_mem _ h)
  have hx := B.exec
  have hb := B.bytes
  have hr := B.returns
  have hown : s.vm.findClass RX1 = some m.cls := findClass_of_methodNamed B.named
  have hlk := B.notSynchronized
  have hl := lv_entry ([.ref a0, .int x1, .int x2]) (n := 5) (Nat.le_of_ble_eq_true rfl)
  rw [lg_entry_eq]
  generalize (lg_sl ([.ref a0, .int x1, .int x2]) ++ List.replicate (5 - (lg_sl ([.ref a0, .int x1, .int x2])).length) Slot.unset).toArray = ls at hl ⊢
  have hl : lv_has ls 5 [(0, .ref a0), (1, .int x1), (2, .int x2)] := hl
  have hE : Ext S0 S0 := Ext.rf _
  have cx : Cx p s m _ meth c cX1_neighbour 5 RX1 (some .int) := ⟨hx, hb, hml, hown, hU, hr, hlk⟩
  rw [m_X1_neighbour] at hm
  refine lv_iconst (v := (-1)) hx hb dX1_neighbour_0 (by decide) ?_
  refine lv_istore_n (lv' := [(3, .int (-1)), (0, .ref a0), (1, .int x1), (2, .int x2)]) hx hb dX1_neighbour_1 rfl hl (by decide) rfl (fun ls hl => ?_)
  refine lv_iconst (v := 0) hx hb dX1_neighbour_2 (by decide) ?_
  refine lv_istore (lv' := [(4, .int 0), (3, .int (-1)), (0, .ref a0), (1, .int x1), (2, .int x2)]) hx hb dX1_neighbour_3 hl (by decide) rfl (fun ls hl => ?_)
  exact wb_X1_neighbour_5 cx C X S0 n r S1 n a0 x1 x2 (-1) 0 S0 _ _ _ hw hE Ta0 (lv_sub hl [2, 3, 4, 1, 0] rfl) hm
abbrev rm_X1_missing : Room := { frames := 3, cells := 0, slots := 0, locals := 71 }
def m_X1_missing (n : Nat) (a0 : Nat) (x1 : Int32) (x2 : Int32) (S0 : pq_S) : Option (Int32 × pq_S) := cb (m_X1_bitOf n x2 x1 S0) fun r3 S_1 => cb (m_X1_neighbour n a0 x1 1 S_1) fun r7 S_5 => cb (m_X1_bitOf n x2 r7 S_5) fun r11 S_9 => cb (m_X1_neighbour n a0 x1 0 S_9) fun r15 S_13 => cb (m_X1_bitOf n x2 r15 S_13) fun r19 S_17 => some (((((2 : Int32) * r3) + r11) + r19), S_17)
theorem tc_X1_missing : Cond.code yX1_missing cX1_missing 3 (some .int) ∈ pq_U := tw1288
theorem cd_X1_missing : yX1_missing.cls = RX1 ∧ yX1_missing.cls ≠ "java/lang/invoke/MethodHandle" ∧ yX1_missing.cls ≠ "java/lang/invoke/VarHandle" ∧ (parseMethodDescriptor yX1_missing.desc).map (fun d => d.parameters.length) = some 2 := by decide +kernel
set_option maxHeartbeats 4000000 in
set_option maxRecDepth 100000 in
theorem c_X1_missing (l : Launch) (C : pq_C) (X : va_W) (n : Nat) (S0 : pq_S) (hF : WF S0) (sz : Nat) (a0 : Nat) (x1 : Int32) (x2 : Int32) (Ta0 : TY S0 a0 1) (r : Int32) (S1 : pq_S) (hm : m_X1_missing n a0 x1 x2 S0 = some (r, S1)) : MI l yX1_missing (.code yX1_missing cX1_missing 3 (some .int) :: pq_U) rm_X1_missing C X S0 sz [.ref a0, .int x1, .int x2] r S1 0 0 := by
  refine Met.ofW (cc := cX1_missing) (maxL := 3) (ret := (some .int)) (by decide) rfl ?_
  intro p e s m args below meth c s₁ B hml hv
  obtain ⟨rfl, hv⟩ := hv
  have hsz := hv.1
  subst hsz
  have hw := pw_entry hF hv
  have hts := atoms_spec (ws := .code yX1_missing cX1_missing 3 (some .int) :: pq_U) B.pre
  have hU : ∀ w ∈ pq_U, w.before _ s = true := fun w h => hts w (List.mem_cons_of_mem _ h)
  have hx := B.exec
  have hb := B.bytes
  have hr := B.returns
  have hown : s.vm.findClass RX1 = some m.cls := findClass_of_methodNamed B.named
  have hlk := B.notSynchronized
  have hl := lv_entry ([.ref a0, .int x1, .int x2]) (n := 3) (Nat.le_of_ble_eq_true rfl)
  rw [lg_entry_eq]
  generalize (lg_sl ([.ref a0, .int x1, .int x2]) ++ List.replicate (3 - (lg_sl ([.ref a0, .int x1, .int x2])).length) Slot.unset).toArray = ls at hl ⊢
  have hl : lv_has ls 3 [(0, .ref a0), (1, .int x1), (2, .int x2)] := hl
  have hE : Ext S0 S0 := Ext.rf _
  have cx : Cx p s m _ meth c cX1_missing 3 RX1 (some .int) := ⟨hx, hb, hml, hown, hU, hr, hlk⟩
  rw [m_X1_missing] at hm
  refine lv_iconst (v := 2) hx hb dX1_missing_0 (by decide) ?_
  refine lv_iload_n hx hb dX1_missing_1 rfl (lv_at hl 2 rfl) ?_
  refine lv_iload_n hx hb dX1_missing_2 rfl (lv_at hl 1 rfl) ?_
  obtain ⟨r3, S_1, hq2, hm⟩ := cb_some hm
  refine pw_ci (va_runS (As := [.int x2, .int x1]) (rest := [.int 2]) ⟨hx, hb, hml, hown, hU⟩ (c_X1_bitOf l C X n S0 hw.wf _ x2 x1  r3 S_1 hq2) ⟨callB_of 2 hU (pq_g1 tc_X1_bitOf) rfl rfl rfl (hU _ tw4) (hU _ tw1289) cd_X1_bitOf.2 ⟨Nat.le_of_ble_eq_true rfl, Nat.le_of_ble_eq_true rfl⟩, hU _ tw1290⟩ (pw_preS hw) rfl rfl hl.1 rfl (lv_room (Nat.le_of_ble_eq_true rfl)) dX1_missing_3 ⟨Nat.zero_le _, Nat.zero_le _⟩) hw (fun H locs hw hx4 => ?_)
  have Ta0 : TY S_1 a0 1 := ty_ext hx4 Ta0
  have hE : Ext S0 S_1 := Ext.tr hE hx4
  refine lv_imul hx hb dX1_missing_6 ?_
  refine lv_iload_n hx hb dX1_missing_7 rfl (lv_at hl 2 rfl) ?_
  refine lv_aload_n hx hb dX1_missing_8 rfl (lv_at hl 0 rfl) ?_
  refine lv_iload_n hx hb dX1_missing_9 rfl (lv_at hl 1 rfl) ?_
  refine lv_iconst (v := 1) hx hb dX1_missing_10 (by decide) ?_
  obtain ⟨r7, S_5, hq6, hm⟩ := cb_some hm
  refine pw_ci (va_runV (As := [.int x1, .int 1]) (rest := [.int x2, .int ((2 : Int32) * r3)]) ⟨hx, hb, hml, hown, hU⟩ (c_X1_neighbour l C X n S_1 hw.wf _ a0 x1 1 (Ta0) r7 S_5 hq6) (cwV 2 hU (pq_gV tw1292 tw1294 ts105 tw4 tc_X1_neighbour) rfl rfl rfl cd_X1_neighbour ⟨Nat.le_of_ble_eq_true rfl, Nat.le_of_ble_eq_true rfl⟩) (pw_preV hw Ta0 (by decide) rfl) rfl rfl hl.1 rfl (lv_room (Nat.le_of_ble_eq_true rfl)) dX1_missing_11 ⟨Nat.zero_le _, Nat.zero_le _⟩) hw (fun H locs hw hx8 => ?_)
  have Ta0 : TY S_5 a0 1 := ty_ext hx8 Ta0
  have hE : Ext S0 S_5 := Ext.tr hE hx8
  obtain ⟨r11, S_9, hq10, hm⟩ := cb_some hm
  refine pw_ci (va_runS (As := [.int x2, .int r7]) (rest := [.int ((2 : Int32) * r3)]) ⟨hx, hb, hml, hown, hU⟩ (c_X1_bitOf l C X n S_5 hw.wf _ x2 r7  r11 S_9 hq10) ⟨callB_of 2 hU (pq_g1 tc_X1_bitOf) rfl rfl rfl (hU _ tw4) (hU _ tw1289) cd_X1_bitOf.2 ⟨Nat.le_of_ble_eq_true rfl, Nat.le_of_ble_eq_true rfl⟩, hU _ tw1290⟩ (pw_preS hw) rfl rfl hl.1 rfl (lv_room (Nat.le_of_ble_eq_true rfl)) dX1_missing_14 ⟨Nat.zero_le _, Nat.zero_le _⟩) hw (fun H locs hw hx12 => ?_)
  have Ta0 : TY S_9 a0 1 := ty_ext hx12 Ta0
  have hE : Ext S0 S_9 := Ext.tr hE hx12
  refine lv_iadd hx hb dX1_missing_17 ?_
  refine lv_iload_n hx hb dX1_missing_18 rfl (lv_at hl 2 rfl) ?_
  refine lv_aload_n hx hb dX1_missing_19 rfl (lv_at hl 0 rfl) ?_
  refine lv_iload_n hx hb dX1_missing_20 rfl (lv_at hl 1 rfl) ?_
  refine lv_iconst (v := 0) hx hb dX1_missing_21 (by decide) ?_
  obtain ⟨r15, S_13, hq14, hm⟩ := cb_some hm
  refine pw_ci (va_runV (As := [.int x1, .int 0]) (rest := [.int x2, .int (((2 : Int32) * r3) + r11)]) ⟨hx, hb, hml, hown, hU⟩ (c_X1_neighbour l C X n S_9 hw.wf _ a0 x1 0 (Ta0) r15 S_13 hq14) (cwV 2 hU (pq_gV tw1292 tw1294 ts105 tw4 tc_X1_neighbour) rfl rfl rfl cd_X1_neighbour ⟨Nat.le_of_ble_eq_true rfl, Nat.le_of_ble_eq_true rfl⟩) (pw_preV hw Ta0 (by decide) rfl) rfl rfl hl.1 rfl (lv_room (Nat.le_of_ble_eq_true rfl)) dX1_missing_22 ⟨Nat.zero_le _, Nat.zero_le _⟩) hw (fun H locs hw hx16 => ?_)
  have Ta0 : TY S_13 a0 1 := ty_ext hx16 Ta0
  have hE : Ext S0 S_13 := Ext.tr hE hx16
  obtain ⟨r19, S_17, hq18, hm⟩ := cb_some hm
  refine pw_ci (va_runS (As := [.int x2, .int r15]) (rest := [.int (((2 : Int32) * r3) + r11)]) ⟨hx, hb, hml, hown, hU⟩ (c_X1_bitOf l C X n S_13 hw.wf _ x2 r15  r19 S_17 hq18) ⟨callB_of 2 hU (pq_g1 tc_X1_bitOf) rfl rfl rfl (hU _ tw4) (hU _ tw1289) cd_X1_bitOf.2 ⟨Nat.le_of_ble_eq_true rfl, Nat.le_of_ble_eq_true rfl⟩, hU _ tw1290⟩ (pw_preS hw) rfl rfl hl.1 rfl (lv_room (Nat.le_of_ble_eq_true rfl)) dX1_missing_25 ⟨Nat.zero_le _, Nat.zero_le _⟩) hw (fun H locs hw hx20 => ?_)
  have Ta0 : TY S_17 a0 1 := ty_ext hx20 Ta0
  have hE : Ext S0 S_17 := Ext.tr hE hx20
  refine lv_iadd hx hb dX1_missing_28 ?_
  cases hm
  exact pw_iret hx hb hr rfl hlk hw hE dX1_missing_29
abbrev rm_X1_moonsOn : Room := { frames := 1, cells := 0, slots := 0, locals := 23 }
def b_X1_moonsOn_53 (n : Nat) (k4 : Nat → Int32 → Int32 → Int32 → pq_S → Option (Int32 × pq_S)) (a0 : Nat) (x1 : Int32) (x2 : Int32) (x3 : Int32) (S : pq_S) : Option (Int32 × pq_S) := k4 a0 x1 x2 (x3 + 1) S
set_option maxHeartbeats 4000000 in
set_option maxRecDepth 100000 in
theorem wb_X1_moonsOn_53 {p : Program} {l : Launch} {e : Env} {s : State} {m : MethodId} {args : Array Value} {below : List Frame} {meth : Method} {c : Code} (cx : Cx p s m args meth c cX1_moonsOn 5 RX1 (some .int)) (C : pq_C) (X : va_W) (S0 : pq_S) (n : Nat) (r : Int32) (S1 : pq_S) (k4 : Nat → Int32 → Int32 → Int32 → pq_S → Option (Int32 × pq_S)) (hk4 : ∀ (a0 : Nat) (x1 : Int32) (x2 : Int32) (x3 : Int32) (S : pq_S) (H : Heap) (locs : List Loc) (ls : Array Slot), PW C X S (pq_F C X S0 s.heap.size) H locs s → Ext S0 S → TY S a0 1 → lv_has ls 5 [(0, .ref a0), (1, .int x1), (2, .int x2), (3, .int x3)] → k4 a0 x1 x2 x3 S = some (r, S1) → W p l e rm_X1_moonsOn s m args below meth c H locs 0 0 (MQ below (QcI C X S0 s.heap.size r S1) args s 0 0 (pq_F C X S0 s.heap.size)) (F0 m 4 ls [])) : ∀ (a0 : Nat) (x1 : Int32) (x2 : Int32) (x3 : Int32) (S : pq_S) (H : Heap) (locs : List Loc) (ls : Array Slot), PW C X S (pq_F C X S0 s.heap.size) H locs s → Ext S0 S → TY S a0 1 → lv_has ls 5 [(0, .ref a0), (1, .int x1), (2, .int x2), (3, .int x3)] → b_X1_moonsOn_53 n k4 a0 x1 x2 x3 S = some (r, S1) → W p l e rm_X1_moonsOn s m args below meth c H locs 0 0 (MQ below (QcI C X S0 s.heap.size r S1) args s 0 0 (pq_F C X S0 s.heap.size)) (F0 m 53 ls []) := by
  obtain ⟨hx, hb, hml, hown, hU, hr, hlk⟩ := id cx
  intro a0 x1 x2 x3 S H locs ls hw hE Ta0 hl hm
  rw [b_X1_moonsOn_53] at hm
  refine lv_iinc (v := (x3 + 1)) (lv' := [(3, .int (x3 + 1)), (0, .ref a0), (1, .int x1), (2, .int x2)]) hx hb dX1_moonsOn_53 hl (k := 3) rfl rfl (by decide) rfl (fun ls hl => ?_)
  refine lv_goto (tgt := 4) hx hb dX1_moonsOn_56 (by decide) ?_
  exact hk4 a0 x1 x2 (x3 + 1) S _ _ _ hw hE Ta0 (lv_sub hl [1, 2, 3, 0] rfl) hm
def b_X1_moonsOn_4 (n : Nat) : Nat → Nat → Int32 → Int32 → Int32 → pq_S → Option (Int32 × pq_S)
  | 0, _, _, _, _, _ => none
  | f + 1, a0, x1, x2, x3, S => Option.bind (pR S 103 a0) fun q1 => if (pI S 902 q1) ≤ x3 then some (x2, S) else Option.bind (pR S 103 a0) fun q3 => cb (m_X9_at n q3 x3 0 S) fun r6 S_4 => if r6 ≤ 0 then b_X1_moonsOn_53 n (b_X1_moonsOn_4 n f) a0 x1 x2 x3 S_4 else ck (¬ r6 = 0) (dne _) (Option.bind (pR S_4 103 a0) fun q10 => cb (m_X9_at n q10 x3 1 S_4) fun r13 S_11 => if (x1 - x1 / r6 * r6) = r13 then lt_ (x2 ||| ((1 : Int32) <<< (x3 &&& (31 : Int32)))) fun v16 => b_X1_moonsOn_53 n (b_X1_moonsOn_4 n f) a0 x1 v16 x3 S_11 else b_X1_moonsOn_53 n (b_X1_moonsOn_4 n f) a0 x1 x2 x3 S_11)
set_option maxHeartbeats 4000000 in
set_option maxRecDepth 100000 in
theorem wb_X1_moonsOn_4 {p : Program} {l : Launch} {e : Env} {s : State} {m : MethodId} {args : Array Value} {below : List Frame} {meth : Method} {c : Code} (cx : Cx p s m args meth c cX1_moonsOn 5 RX1 (some .int)) (C : pq_C) (X : va_W) (S0 : pq_S) (n : Nat) (r : Int32) (S1 : pq_S) : ∀ (f : Nat) (a0 : Nat) (x1 : Int32) (x2 : Int32) (x3 : Int32) (S : pq_S) (H : Heap) (locs : List Loc) (ls : Array Slot), PW C X S (pq_F C X S0 s.heap.size) H locs s → Ext S0 S → TY S a0 1 → lv_has ls 5 [(0, .ref a0), (1, .int x1), (2, .int x2), (3, .int x3)] → b_X1_moonsOn_4 n f a0 x1 x2 x3 S = some (r, S1) → W p l e rm_X1_moonsOn s m args below meth c H locs 0 0 (MQ below (QcI C X S0 s.heap.size r S1) args s 0 0 (pq_F C X S0 s.heap.size)) (F0 m 4 ls []) := by
  obtain ⟨hx, hb, hml, hown, hU, hr, hlk⟩ := id cx
  intro f
  induction f with
  | zero =>
    intro a0 x1 x2 x3 S H locs ls hw hE Ta0 hl hm
    cases hm
  | succ f ih =>
    intro a0 x1 x2 x3 S H locs ls hw hE Ta0 hl hm
    rw [b_X1_moonsOn_4] at hm
    refine lv_iload_n hx hb dX1_moonsOn_4 rfl (lv_at hl 3 rfl) ?_
    refine lv_aload_n hx hb dX1_moonsOn_5 rfl (lv_at hl 0 rfl) ?_
    obtain ⟨q1, hq1, hm⟩ := bd_some hm
    have Tq1 : TY S q1 9 := hw.wf.ref (k := 1) (j := 3) Ta0 (by decide) (by decide) hq1
    refine pg_rb (k := 1) (j := 3) (f := 103) hx hb hown hU iu1 hw Ta0 (by decide) rfl (hU _ tw128) rfl hq1 dX1_moonsOn_6 ?_
    refine pgN_i (k := 9) (j := 2) (f := 902) hx hb hown hU iu9 hw Tq1 (by decide) rfl 18 rfl rfl dX1_moonsOn_9 ?_
    refine lv_icmp_ge (tgt := 59) hx hb dX1_moonsOn_12 (by decide) (fun h2 => ?_) (fun h2 => ?_)
    · rw [if_pos h2] at hm
      refine lv_iload_n hx hb dX1_moonsOn_59 rfl (lv_at hl 2 rfl) ?_
      cases hm
      exact pw_iret hx hb hr rfl hlk hw hE dX1_moonsOn_60
    · rw [if_neg h2] at hm
      refine lv_aload_n hx hb dX1_moonsOn_15 rfl (lv_at hl 0 rfl) ?_
      obtain ⟨q3, hq3, hm⟩ := bd_some hm
      have Tq3 : TY S q3 9 := hw.wf.ref (k := 1) (j := 3) Ta0 (by decide) (by decide) hq3
      refine pg_rb (k := 1) (j := 3) (f := 103) hx hb hown hU iu1 hw Ta0 (by decide) rfl (hU _ tw128) rfl hq3 dX1_moonsOn_16 ?_
      refine lv_iload_n hx hb dX1_moonsOn_19 rfl (lv_at hl 3 rfl) ?_
      refine lv_iconst (v := 0) hx hb dX1_moonsOn_20 (by decide) ?_
      obtain ⟨r6, S_4, hq5, hm⟩ := cb_some hm
      refine pw_ci (va_runVN (As := [.int x3, .int 0]) (rest := []) ⟨hx, hb, hml, hown, hU⟩ (c_X9_at l C X n S hw.wf _ q3 x3 0 (Tq3) r6 S_4 hq5) ⟨va_cnB (host := "WickNights") 2 hU (pq_g1 tc_X9_at) rfl rfl rfl (hw.nw 138 rfl) (hU _ tw5) cd_X9_at.2 ⟨Nat.le_of_ble_eq_true rfl, Nat.le_of_ble_eq_true rfl⟩, hU _ tw719, hU _ ts32⟩ (pw_preV hw Tq3 (by decide) rfl) rfl rfl hl.1 rfl (lv_room (Nat.le_of_ble_eq_true rfl)) dX1_moonsOn_21 ⟨Nat.zero_le _, Nat.zero_le _⟩) hw (fun H locs hw hx7 => ?_)
      have Ta0 : TY S_4 a0 1 := ty_ext hx7 Ta0
      have hE : Ext S0 S_4 := Ext.tr hE hx7
      refine lv_istore (lv' := [(4, .int r6), (0, .ref a0), (1, .int x1), (2, .int x2), (3, .int x3)]) hx hb dX1_moonsOn_24 hl (by decide) rfl (fun ls hl => ?_)
      refine lv_iload hx hb dX1_moonsOn_26 (lv_at hl 0 rfl) ?_
      refine lv_if_le (tgt := 53) hx hb dX1_moonsOn_28 (by decide) (fun h8 => ?_) (fun h8 => ?_)
      · rw [if_pos h8] at hm
        exact wb_X1_moonsOn_53 cx C X S0 n r S1 _ ih a0 x1 x2 x3 S_4 _ _ _ hw hE Ta0 (lv_sub hl [1, 2, 3, 4] rfl) hm
      · rw [if_neg h8] at hm
        refine lv_iload_n hx hb dX1_moonsOn_31 rfl (lv_at hl 2 rfl) ?_
        refine lv_iload hx hb dX1_moonsOn_32 (lv_at hl 0 rfl) ?_
        obtain ⟨hn9, hm⟩ := ck_some hm
        refine lv_irem hx hb dX1_moonsOn_34 hn9 ?_
        refine lv_aload_n hx hb dX1_moonsOn_35 rfl (lv_at hl 1 rfl) ?_
        obtain ⟨q10, hq10, hm⟩ := bd_some hm
        have Tq10 : TY S_4 q10 9 := hw.wf.ref (k := 1) (j := 3) Ta0 (by decide) (by decide) hq10
        refine pg_rb (k := 1) (j := 3) (f := 103) hx hb hown hU iu1 hw Ta0 (by decide) rfl (hU _ tw128) rfl hq10 dX1_moonsOn_36 ?_
        refine lv_iload_n hx hb dX1_moonsOn_39 rfl (lv_at hl 4 rfl) ?_
        refine lv_iconst (v := 1) hx hb dX1_moonsOn_40 (by decide) ?_
        obtain ⟨r13, S_11, hq12, hm⟩ := cb_some hm
        refine pw_ci (va_runVN (As := [.int x3, .int 1]) (rest := [.int (x1 - x1 / r6 * r6)]) ⟨hx, hb, hml, hown, hU⟩ (c_X9_at l C X n S_4 hw.wf _ q10 x3 1 (Tq10) r13 S_11 hq12) ⟨va_cnB (host := "WickNights") 2 hU (pq_g1 tc_X9_at) rfl rfl rfl (hw.nw 138 rfl) (hU _ tw5) cd_X9_at.2 ⟨Nat.le_of_ble_eq_true rfl, Nat.le_of_ble_eq_true rfl⟩, hU _ tw719, hU _ ts32⟩ (pw_preV hw Tq10 (by decide) rfl) rfl rfl hl.1 rfl (lv_room (Nat.le_of_ble_eq_true rfl)) dX1_moonsOn_41 ⟨Nat.zero_le _, Nat.zero_le _⟩) hw (fun H locs hw hx14 => ?_)
        have Ta0 : TY S_11 a0 1 := ty_ext hx14 Ta0
        have hE : Ext S0 S_11 := Ext.tr hE hx14
        refine lv_icmp_ne (tgt := 53) hx hb dX1_moonsOn_44 (by decide) (fun h15 => ?_) (fun h15 => ?_)
        · rw [if_neg h15] at hm
          exact wb_X1_moonsOn_53 cx C X S0 n r S1 _ ih a0 x1 x2 x3 S_11 _ _ _ hw hE Ta0 (lv_sub hl [1, 2, 3, 4] rfl) hm
        · rw [if_pos h15] at hm
          refine lv_iload_n hx hb dX1_moonsOn_47 rfl (lv_at hl 3 rfl) ?_
          refine lv_iconst (v := 1) hx hb dX1_moonsOn_48 (by decide) ?_
          refine lv_iload_n hx hb dX1_moonsOn_49 rfl (lv_at hl 4 rfl) ?_
          refine lv_ishl hx hb dX1_moonsOn_50 ?_
          refine lv_ior hx hb dX1_moonsOn_51 ?_
          obtain ⟨v16, ev16, hm⟩ := lt_some hm
          refine lv_nmI ev16 ?_
          refine lv_istore_n (lv' := [(2, .int v16), (4, .int r6), (0, .ref a0), (1, .int x1), (3, .int x3)]) hx hb dX1_moonsOn_52 rfl hl (by decide) rfl (fun ls hl => ?_)
          exact wb_X1_moonsOn_53 cx C X S0 n r S1 _ ih a0 x1 v16 x3 S_11 _ _ _ hw hE Ta0 (lv_sub hl [2, 3, 0, 4] rfl) hm
def m_X1_moonsOn (n : Nat) (a0 : Nat) (x1 : Int32) (S0 : pq_S) : Option (Int32 × pq_S) := b_X1_moonsOn_4 n n a0 x1 0 0 S0
theorem tc_X1_moonsOn : Cond.code yX1_moonsOn cX1_moonsOn 5 (some .int) ∈ pq_U := tw1371
theorem cd_X1_moonsOn : yX1_moonsOn.cls = RX1 ∧ yX1_moonsOn.cls ≠ "java/lang/invoke/MethodHandle" ∧ yX1_moonsOn.cls ≠ "java/lang/invoke/VarHandle" ∧ (parseMethodDescriptor yX1_moonsOn.desc).map (fun d => d.parameters.length) = some 1 := by decide +kernel
set_option maxHeartbeats 4000000 in
set_option maxRecDepth 100000 in
theorem c_X1_moonsOn (l : Launch) (C : pq_C) (X : va_W) (n : Nat) (S0 : pq_S) (hF : WF S0) (sz : Nat) (a0 : Nat) (x1 : Int32) (Ta0 : TY S0 a0 1) (r : Int32) (S1 : pq_S) (hm : m_X1_moonsOn n a0 x1 S0 = some (r, S1)) : MI l yX1_moonsOn (.code yX1_moonsOn cX1_moonsOn 5 (some .int) :: pq_U) rm_X1_moonsOn C X S0 sz [.ref a0, .int x1] r S1 0 0 := by
  refine Met.ofW (cc := cX1_moonsOn) (maxL := 5) (ret := (some .int)) (by decide) rfl ?_
  intro p e s m args below meth c s₁ B hml hv
  obtain ⟨rfl, hv⟩ := hv
  have hsz := hv.1
  subst hsz
  have hw := pw_entry hF hv
  have hts := atoms_spec (ws := .code yX1_moonsOn cX1_moonsOn 5 (some .int) :: pq_U) B.pre
  have hU : ∀ w ∈ pq_U, w.before _ s = true := fun w h => hts w (List.mem_cons_of_mem _ h)
  have hx := B.exec
  have hb := B.bytes
  have hr := B.returns
  have hown : s.vm.findClass RX1 = some m.cls := findClass_of_methodNamed B.named
  have hlk := B.notSynchronized
  have hl := lv_entry ([.ref a0, .int x1]) (n := 5) (Nat.le_of_ble_eq_true rfl)
  rw [lg_entry_eq]
  generalize (lg_sl ([.ref a0, .int x1]) ++ List.replicate (5 - (lg_sl ([.ref a0, .int x1])).length) Slot.unset).toArray = ls at hl ⊢
  have hl : lv_has ls 5 [(0, .ref a0), (1, .int x1)] := hl
  have hE : Ext S0 S0 := Ext.rf _
  have cx : Cx p s m _ meth c cX1_moonsOn 5 RX1 (some .int) := ⟨hx, hb, hml, hown, hU, hr, hlk⟩
  rw [m_X1_moonsOn] at hm
  refine lv_iconst (v := 0) hx hb dX1_moonsOn_0 (by decide) ?_
  refine lv_istore_n (lv' := [(2, .int 0), (0, .ref a0), (1, .int x1)]) hx hb dX1_moonsOn_1 rfl hl (by decide) rfl (fun ls hl => ?_)
  refine lv_iconst (v := 0) hx hb dX1_moonsOn_2 (by decide) ?_
  refine lv_istore_n (lv' := [(3, .int 0), (2, .int 0), (0, .ref a0), (1, .int x1)]) hx hb dX1_moonsOn_3 rfl hl (by decide) rfl (fun ls hl => ?_)
  exact wb_X1_moonsOn_4 cx C X S0 n r S1 n a0 x1 0 0 S0 _ _ _ hw hE Ta0 (lv_sub hl [2, 3, 1, 0] rfl) hm
abbrev rm_X1_firstDay : Room := { frames := 2, cells := 0, slots := 0, locals := 47 }
def b_X1_firstDay_2 (n : Nat) : Nat → Nat → Int32 → Int32 → pq_S → Option (Int32 × pq_S)
  | 0, _, _, _, _ => none
  | f + 1, a0, x2, x3, S => if 9999 < x3 then some ((-1), S) else cb (m_X1_moonsOn n a0 x3 S) fun r4 S_2 => if r4 = x2 then some (x3, S_2) else b_X1_firstDay_2 n f a0 x2 (x3 + 1) S_2
set_option maxHeartbeats 4000000 in
set_option maxRecDepth 100000 in
theorem wb_X1_firstDay_2 {p : Program} {l : Launch} {e : Env} {s : State} {m : MethodId} {args : Array Value} {below : List Frame} {meth : Method} {c : Code} (cx : Cx p s m args meth c cX1_firstDay 4 RX1 (some .int)) (C : pq_C) (X : va_W) (S0 : pq_S) (n : Nat) (r : Int32) (S1 : pq_S) : ∀ (f : Nat) (a0 : Nat) (x2 : Int32) (x3 : Int32) (S : pq_S) (H : Heap) (locs : List Loc) (ls : Array Slot), PW C X S (pq_F C X S0 s.heap.size) H locs s → Ext S0 S → TY S a0 1 → lv_has ls 4 [(0, .ref a0), (2, .int x2), (3, .int x3)] → b_X1_firstDay_2 n f a0 x2 x3 S = some (r, S1) → W p l e rm_X1_firstDay s m args below meth c H locs 0 0 (MQ below (QcI C X S0 s.heap.size r S1) args s 0 0 (pq_F C X S0 s.heap.size)) (F0 m 2 ls []) := by
  obtain ⟨hx, hb, hml, hown, hU, hr, hlk⟩ := id cx
  intro f
  induction f with
  | zero =>
    intro a0 x2 x3 S H locs ls hw hE Ta0 hl hm
    cases hm
  | succ f ih =>
    intro a0 x2 x3 S H locs ls hw hE Ta0 hl hm
    rw [b_X1_firstDay_2] at hm
    refine lv_iload_n hx hb dX1_firstDay_2 rfl (lv_at hl 2 rfl) ?_
    refine lv_sipush (v := 9999) hx hb dX1_firstDay_3 (by decide) ?_
    refine lv_icmp_gt (tgt := 26) hx hb dX1_firstDay_6 (by decide) (fun h1 => ?_) (fun h1 => ?_)
    · rw [if_pos h1] at hm
      refine lv_iconst (v := (-1)) hx hb dX1_firstDay_26 (by decide) ?_
      cases hm
      exact pw_iret hx hb hr rfl hlk hw hE dX1_firstDay_27
    · rw [if_neg h1] at hm
      refine lv_aload_n hx hb dX1_firstDay_9 rfl (lv_at hl 0 rfl) ?_
      refine lv_iload_n hx hb dX1_firstDay_10 rfl (lv_at hl 2 rfl) ?_
      obtain ⟨r4, S_2, hq3, hm⟩ := cb_some hm
      refine pw_ci (va_runV (As := [.int x3]) (rest := []) ⟨hx, hb, hml, hown, hU⟩ (c_X1_moonsOn l C X n S hw.wf _ a0 x3 (Ta0) r4 S_2 hq3) (cwV 1 hU (pq_gV tw1383 tw1370 ts114 tw4 tc_X1_moonsOn) rfl rfl rfl cd_X1_moonsOn ⟨Nat.le_of_ble_eq_true rfl, Nat.le_of_ble_eq_true rfl⟩) (pw_preV hw Ta0 (by decide) rfl) rfl rfl hl.1 rfl (lv_room (Nat.le_of_ble_eq_true rfl)) dX1_firstDay_11 ⟨Nat.zero_le _, Nat.zero_le _⟩) hw (fun H locs hw hx5 => ?_)
      have Ta0 : TY S_2 a0 1 := ty_ext hx5 Ta0
      have hE : Ext S0 S_2 := Ext.tr hE hx5
      refine lv_iload_n hx hb dX1_firstDay_14 rfl (lv_at hl 1 rfl) ?_
      refine lv_icmp_ne (tgt := 20) hx hb dX1_firstDay_15 (by decide) (fun h6 => ?_) (fun h6 => ?_)
      · rw [if_neg h6] at hm
        refine lv_iinc (v := (x3 + 1)) (lv' := [(3, .int (x3 + 1)), (0, .ref a0), (2, .int x2)]) hx hb dX1_firstDay_20 hl (k := 2) rfl rfl (by decide) rfl (fun ls hl => ?_)
        refine lv_goto (tgt := 2) hx hb dX1_firstDay_23 (by decide) ?_
        exact ih a0 x2 (x3 + 1) S_2 _ _ _ hw hE Ta0 (lv_sub hl [1, 2, 0] rfl) hm
      · rw [if_pos h6] at hm
        refine lv_iload_n hx hb dX1_firstDay_18 rfl (lv_at hl 2 rfl) ?_
        cases hm
        exact pw_iret hx hb hr rfl hlk hw hE dX1_firstDay_19
def m_X1_firstDay (n : Nat) (a0 : Nat) (x1 : Int32) (x2 : Int32) (S0 : pq_S) : Option (Int32 × pq_S) := b_X1_firstDay_2 n n a0 x2 x1 S0
theorem tc_X1_firstDay : Cond.code yX1_firstDay cX1_firstDay 4 (some .int) ∈ pq_U := tw1382
theorem cd_X1_firstDay : yX1_firstDay.cls = RX1 ∧ yX1_firstDay.cls ≠ "java/lang/invoke/MethodHandle" ∧ yX1_firstDay.cls ≠ "java/lang/invoke/VarHandle" ∧ (parseMethodDescriptor yX1_firstDay.desc).map (fun d => d.parameters.length) = some 2 := by decide +kernel
set_option maxHeartbeats 4000000 in
set_option maxRecDepth 100000 in
theorem c_X1_firstDay (l : Launch) (C : pq_C) (X : va_W) (n : Nat) (S0 : pq_S) (hF : WF S0) (sz : Nat) (a0 : Nat) (x1 : Int32) (x2 : Int32) (Ta0 : TY S0 a0 1) (r : Int32) (S1 : pq_S) (hm : m_X1_firstDay n a0 x1 x2 S0 = some (r, S1)) : MI l yX1_firstDay (.code yX1_firstDay cX1_firstDay 4 (some .int) :: pq_U) rm_X1_firstDay C X S0 sz [.ref a0, .int x1, .int x2] r S1 0 0 := by
  refine Met.ofW (cc := cX1_firstDay) (maxL := 4) (ret := (some .int)) (by decide) rfl ?_
  intro p e s m args below meth c s₁ B hml hv
  obtain ⟨rfl, hv⟩ := hv
  have hsz := hv.1
  subst hsz
  have hw := pw_entry hF hv
  have hts := atoms_spec (ws := .code yX1_firstDay cX1_firstDay 4 (some .int) :: pq_U) B.pre
  have hU : ∀ w ∈ pq_U, w.before _ s = true := fun w h => hts w (List.mem_cons_of_mem _ h)
  have hx := B.exec
  have hb := B.bytes
  have hr := B.returns
  have hown : s.vm.findClass RX1 = some m.cls := findClass_of_methodNamed B.named
  have hlk := B.notSynchronized
  have hl := lv_entry ([.ref a0, .int x1, .int x2]) (n := 4) (Nat.le_of_ble_eq_true rfl)
  rw [lg_entry_eq]
  generalize (lg_sl ([.ref a0, .int x1, .int x2]) ++ List.replicate (4 - (lg_sl ([.ref a0, .int x1, .int x2])).length) Slot.unset).toArray = ls at hl ⊢
  have hl : lv_has ls 4 [(0, .ref a0), (1, .int x1), (2, .int x2)] := hl
  have hE : Ext S0 S0 := Ext.rf _
  have cx : Cx p s m _ meth c cX1_firstDay 4 RX1 (some .int) := ⟨hx, hb, hml, hown, hU, hr, hlk⟩
  rw [m_X1_firstDay] at hm
  refine lv_iload_n hx hb dX1_firstDay_0 rfl (lv_at hl 1 rfl) ?_
  refine lv_istore_n (lv' := [(3, .int x1), (0, .ref a0), (1, .int x1), (2, .int x2)]) hx hb dX1_firstDay_1 rfl hl (by decide) rfl (fun ls hl => ?_)
  exact wb_X1_firstDay_2 cx C X S0 n r S1 n a0 x2 x1 S0 _ _ _ hw hE Ta0 (lv_sub hl [1, 3, 0] rfl) hm
abbrev rm_X1_clouded : Room := { frames := 2, cells := 0, slots := 0, locals := 47 }
def b_X1_clouded_138 (n : Nat) (k12 : Nat → Int32 → Int32 → Int32 → Int32 → Int32 → Int32 → Int32 → Int32 → Int32 → Int32 → pq_S → Option (Int32 × pq_S)) (a0 : Nat) (x2 : Int32) (x3 : Int32) (x4 : Int32) (x5 : Int32) (x6 : Int32) (x7 : Int32) (x8 : Int32) (x9 : Int32) (x11 : Int32) (z0 : Int32) (z1 : Int32) (S : pq_S) : Option (Int32 × pq_S) := k12 a0 x2 x3 x4 x5 x6 x7 x8 x9 (z0 + z1) (x11 + 1) S
set_option maxHeartbeats 4000000 in
set_option maxRecDepth 100000 in
theorem wb_X1_clouded_138 {p : Program} {l : Launch} {e : Env} {s : State} {m : MethodId} {args : Array Value} {below : List Frame} {meth : Method} {c : Code} (cx : Cx p s m args meth c cX1_clouded 14 RX1 (some .int)) (C : pq_C) (X : va_W) (S0 : pq_S) (n : Nat) (r : Int32) (S1 : pq_S) (k12 : Nat → Int32 → Int32 → Int32 → Int32 → Int32 → Int32 → Int32 → Int32 → Int32 → Int32 → pq_S → Option (Int32 × pq_S)) (hk12 : ∀ (a0 : Nat) (x2 : Int32) (x3 : Int32) (x4 : Int32) (x5 : Int32) (x6 : Int32) (x7 : Int32) (x8 : Int32) (x9 : Int32) (x10 : Int32) (x11 : Int32) (S : pq_S) (H : Heap) (locs : List Loc) (ls : Array Slot), PW C X S (pq_F C X S0 s.heap.size) H locs s → Ext S0 S → TY S a0 1 → lv_has ls 14 [(0, .ref a0), (2, .int x2), (3, .int x3), (4, .int x4), (5, .int x5), (6, .int x6), (7, .int x7), (8, .int x8), (9, .int x9), (10, .int x10), (11, .int x11)] → k12 a0 x2 x3 x4 x5 x6 x7 x8 x9 x10 x11 S = some (r, S1) → W p l e rm_X1_clouded s m args below meth c H locs 0 0 (MQ below (QcI C X S0 s.heap.size r S1) args s 0 0 (pq_F C X S0 s.heap.size)) (F0 m 18 ls [])) : ∀ (a0 : Nat) (x2 : Int32) (x3 : Int32) (x4 : Int32) (x5 : Int32) (x6 : Int32) (x7 : Int32) (x8 : Int32) (x9 : Int32) (x11 : Int32) (z0 : Int32) (z1 : Int32) (S : pq_S) (H : Heap) (locs : List Loc) (ls : Array Slot), PW C X S (pq_F C X S0 s.heap.size) H locs s → Ext S0 S → TY S a0 1 → lv_has ls 14 [(0, .ref a0), (2, .int x2), (3, .int x3), (4, .int x4), (5, .int x5), (6, .int x6), (7, .int x7), (8, .int x8), (9, .int x9), (11, .int x11)] → b_X1_clouded_138 n k12 a0 x2 x3 x4 x5 x6 x7 x8 x9 x11 z0 z1 S = some (r, S1) → W p l e rm_X1_clouded s m args below meth c H locs 0 0 (MQ below (QcI C X S0 s.heap.size r S1) args s 0 0 (pq_F C X S0 s.heap.size)) (F0 m 138 ls [.int z1, .int z0]) := by
  obtain ⟨hx, hb, hml, hown, hU, hr, hlk⟩ := id cx
  intro a0 x2 x3 x4 x5 x6 x7 x8 x9 x11 z0 z1 S H locs ls hw hE Ta0 hl hm
  rw [b_X1_clouded_138] at hm
  refine lv_iadd hx hb dX1_clouded_138 ?_
  refine lv_istore (lv' := [(10, .int (z0 + z1)), (0, .ref a0), (2, .int x2), (3, .int x3), (4, .int x4), (5, .int x5), (6, .int x6), (7, .int x7), (8, .int x8), (9, .int x9), (11, .int x11)]) hx hb dX1_clouded_139 hl (by decide) rfl (fun ls hl => ?_)
  refine lv_iinc (v := (x11 + 1)) (lv' := [(11, .int (x11 + 1)), (10, .int (z0 + z1)), (0, .ref a0), (2, .int x2), (3, .int x3), (4, .int x4), (5, .int x5), (6, .int x6), (7, .int x7), (8, .int x8), (9, .int x9)]) hx hb dX1_clouded_141 hl (k := 10) rfl rfl (by decide) rfl (fun ls hl => ?_)
  refine lv_goto (tgt := 18) hx hb dX1_clouded_144 (by decide) ?_
  exact hk12 a0 x2 x3 x4 x5 x6 x7 x8 x9 (z0 + z1) (x11 + 1) S _ _ _ hw hE Ta0 (lv_sub hl [2, 3, 4, 5, 6, 7, 8, 9, 10, 1, 0] rfl) hm
def b_X1_clouded_137 (n : Nat) (k12 : Nat → Int32 → Int32 → Int32 → Int32 → Int32 → Int32 → Int32 → Int32 → Int32 → Int32 → pq_S → Option (Int32 × pq_S)) (a0 : Nat) (x2 : Int32) (x3 : Int32) (x4 : Int32) (x5 : Int32) (x6 : Int32) (x7 : Int32) (x8 : Int32) (x9 : Int32) (x11 : Int32) (z0 : Int32) (S : pq_S) : Option (Int32 × pq_S) := b_X1_clouded_138 n k12 a0 x2 x3 x4 x5 x6 x7 x8 x9 x11 z0 0 S
set_option maxHeartbeats 4000000 in
set_option maxRecDepth 100000 in
theorem wb_X1_clouded_137 {p : Program} {l : Launch} {e : Env} {s : State} {m : MethodId} {args : Array Value} {below : List Frame} {meth : Method} {c : Code} (cx : Cx p s m args meth c cX1_clouded 14 RX1 (some .int)) (C : pq_C) (X : va_W) (S0 : pq_S) (n : Nat) (r : Int32) (S1 : pq_S) (k12 : Nat → Int32 → Int32 → Int32 → Int32 → Int32 → Int32 → Int32 → Int32 → Int32 → Int32 → pq_S → Option (Int32 × pq_S)) (hk12 : ∀ (a0 : Nat) (x2 : Int32) (x3 : Int32) (x4 : Int32) (x5 : Int32) (x6 : Int32) (x7 : Int32) (x8 : Int32) (x9 : Int32) (x10 : Int32) (x11 : Int32) (S : pq_S) (H : Heap) (locs : List Loc) (ls : Array Slot), PW C X S (pq_F C X S0 s.heap.size) H locs s → Ext S0 S → TY S a0 1 → lv_has ls 14 [(0, .ref a0), (2, .int x2), (3, .int x3), (4, .int x4), (5, .int x5), (6, .int x6), (7, .int x7), (8, .int x8), (9, .int x9), (10, .int x10), (11, .int x11)] → k12 a0 x2 x3 x4 x5 x6 x7 x8 x9 x10 x11 S = some (r, S1) → W p l e rm_X1_clouded s m args below meth c H locs 0 0 (MQ below (QcI C X S0 s.heap.size r S1) args s 0 0 (pq_F C X S0 s.heap.size)) (F0 m 18 ls [])) : ∀ (a0 : Nat) (x2 : Int32) (x3 : Int32) (x4 : Int32) (x5 : Int32) (x6 : Int32) (x7 : Int32) (x8 : Int32) (x9 : Int32) (x11 : Int32) (z0 : Int32) (S : pq_S) (H : Heap) (locs : List Loc) (ls : Array Slot), PW C X S (pq_F C X S0 s.heap.size) H locs s → Ext S0 S → TY S a0 1 → lv_has ls 14 [(0, .ref a0), (2, .int x2), (3, .int x3), (4, .int x4), (5, .int x5), (6, .int x6), (7, .int x7), (8, .int x8), (9, .int x9), (11, .int x11)] → b_X1_clouded_137 n k12 a0 x2 x3 x4 x5 x6 x7 x8 x9 x11 z0 S = some (r, S1) → W p l e rm_X1_clouded s m args below meth c H locs 0 0 (MQ below (QcI C X S0 s.heap.size r S1) args s 0 0 (pq_F C X S0 s.heap.size)) (F0 m 137 ls [.int z0]) := by
  obtain ⟨hx, hb, hml, hown, hU, hr, hlk⟩ := id cx
  intro a0 x2 x3 x4 x5 x6 x7 x8 x9 x11 z0 S H locs ls hw hE Ta0 hl hm
  rw [b_X1_clouded_137] at hm
  refine lv_iconst (v := 0) hx hb dX1_clouded_137 (by decide) ?_
  exact wb_X1_clouded_138 cx C X S0 n r S1 _ hk12 a0 x2 x3 x4 x5 x6 x7 x8 x9 x11 z0 0 S _ _ _ hw hE Ta0 (lv_sub hl [0, 1, 2, 3, 4, 5, 6, 7, 8, 9] rfl) hm
def b_X1_clouded_109 (n : Nat) (k12 : Nat → Int32 → Int32 → Int32 → Int32 → Int32 → Int32 → Int32 → Int32 → Int32 → Int32 → pq_S → Option (Int32 × pq_S)) (a0 : Nat) (x2 : Int32) (x3 : Int32) (x4 : Int32) (x5 : Int32) (x6 : Int32) (x8 : Int32) (x9 : Int32) (x10 : Int32) (x11 : Int32) (x12 : Int32) (x13 : Int32) (z0 : Int32) (z1 : Int32) (S : pq_S) : Option (Int32 × pq_S) := if x12 = 0 then b_X1_clouded_137 n k12 a0 x2 x3 x4 x5 x6 (z0 + z1) x8 (if x9 < x8 then x8 else x9) x11 x10 S else if x13 = 0 then b_X1_clouded_137 n k12 a0 x2 x3 x4 x5 x6 (z0 + z1) x8 (if x9 < x8 then x8 else x9) x11 x10 S else b_X1_clouded_138 n k12 a0 x2 x3 x4 x5 x6 (z0 + z1) x8 (if x9 < x8 then x8 else x9) x11 x10 1 S
set_option maxHeartbeats 4000000 in
set_option maxRecDepth 100000 in
theorem wb_X1_clouded_109 {p : Program} {l : Launch} {e : Env} {s : State} {m : MethodId} {args : Array Value} {below : List Frame} {meth : Method} {c : Code} (cx : Cx p s m args meth c cX1_clouded 14 RX1 (some .int)) (C : pq_C) (X : va_W) (S0 : pq_S) (n : Nat) (r : Int32) (S1 : pq_S) (k12 : Nat → Int32 → Int32 → Int32 → Int32 → Int32 → Int32 → Int32 → Int32 → Int32 → Int32 → pq_S → Option (Int32 × pq_S)) (hk12 : ∀ (a0 : Nat) (x2 : Int32) (x3 : Int32) (x4 : Int32) (x5 : Int32) (x6 : Int32) (x7 : Int32) (x8 : Int32) (x9 : Int32) (x10 : Int32) (x11 : Int32) (S : pq_S) (H : Heap) (locs : List Loc) (ls : Array Slot), PW C X S (pq_F C X S0 s.heap.size) H locs s → Ext S0 S → TY S a0 1 → lv_has ls 14 [(0, .ref a0), (2, .int x2), (3, .int x3), (4, .int x4), (5, .int x5), (6, .int x6), (7, .int x7), (8, .int x8), (9, .int x9), (10, .int x10), (11, .int x11)] → k12 a0 x2 x3 x4 x5 x6 x7 x8 x9 x10 x11 S = some (r, S1) → W p l e rm_X1_clouded s m args below meth c H locs 0 0 (MQ below (QcI C X S0 s.heap.size r S1) args s 0 0 (pq_F C X S0 s.heap.size)) (F0 m 18 ls [])) : ∀ (a0 : Nat) (x2 : Int32) (x3 : Int32) (x4 : Int32) (x5 : Int32) (x6 : Int32) (x8 : Int32) (x9 : Int32) (x10 : Int32) (x11 : Int32) (x12 : Int32) (x13 : Int32) (z0 : Int32) (z1 : Int32) (S : pq_S) (H : Heap) (locs : List Loc) (ls : Array Slot), PW C X S (pq_F C X S0 s.heap.size) H locs s → Ext S0 S → TY S a0 1 → lv_has ls 14 [(0, .ref a0), (2, .int x2), (3, .int x3), (4, .int x4), (5, .int x5), (6, .int x6), (8, .int x8), (9, .int x9), (10, .int x10), (11, .int x11), (12, .int x12), (13, .int x13)] → b_X1_clouded_109 n k12 a0 x2 x3 x4 x5 x6 x8 x9 x10 x11 x12 x13 z0 z1 S = some (r, S1) → W p l e rm_X1_clouded s m args below meth c H locs 0 0 (MQ below (QcI C X S0 s.heap.size r S1) args s 0 0 (pq_F C X S0 s.heap.size)) (F0 m 109 ls [.int z1, .int z0]) := by
  obtain ⟨hx, hb, hml, hown, hU, hr, hlk⟩ := id cx
  intro a0 x2 x3 x4 x5 x6 x8 x9 x10 x11 x12 x13 z0 z1 S H locs ls hw hE Ta0 hl hm
  rw [b_X1_clouded_109] at hm
  refine lv_iadd hx hb dX1_clouded_109 ?_
  refine lv_istore (lv' := [(7, .int (z0 + z1)), (0, .ref a0), (2, .int x2), (3, .int x3), (4, .int x4), (5, .int x5), (6, .int x6), (8, .int x8), (9, .int x9), (10, .int x10), (11, .int x11), (12, .int x12), (13, .int x13)]) hx hb dX1_clouded_110 hl (by decide) rfl (fun ls hl => ?_)
  refine lv_iload hx hb dX1_clouded_112 (lv_at hl 8 rfl) ?_
  refine lv_iload hx hb dX1_clouded_114 (lv_at hl 7 rfl) ?_
  refine va_mmax hx hb (by rw [hml]; exact hl.1.symm) hown (hU _ tw1413) (hU _ twm_max_s) (hU _ twm_i) (hU _ twm_max_c) (Nat.le_of_ble_eq_true rfl) (Nat.le_of_ble_eq_true rfl) (Nat.zero_le _) (Nat.zero_le _) dX1_clouded_116 ?_
  refine lv_istore (lv' := [(9, .int (if x9 < x8 then x8 else x9)), (7, .int (z0 + z1)), (0, .ref a0), (2, .int x2), (3, .int x3), (4, .int x4), (5, .int x5), (6, .int x6), (8, .int x8), (10, .int x10), (11, .int x11), (12, .int x12), (13, .int x13)]) hx hb dX1_clouded_119 hl (by decide) rfl (fun ls hl => ?_)
  refine lv_iload hx hb dX1_clouded_121 (lv_at hl 9 rfl) ?_
  refine lv_iload hx hb dX1_clouded_123 (lv_at hl 11 rfl) ?_
  refine lv_if_eq (tgt := 137) hx hb dX1_clouded_125 (by decide) (fun h12 => ?_) (fun h12 => ?_)
  · rw [if_pos h12] at hm
    exact wb_X1_clouded_137 cx C X S0 n r S1 _ hk12 a0 x2 x3 x4 x5 x6 (z0 + z1) x8 (if x9 < x8 then x8 else x9) x11 x10 S _ _ _ hw hE Ta0 (lv_sub hl [2, 3, 4, 5, 6, 7, 1, 8, 0, 10] rfl) hm
  · rw [if_neg h12] at hm
    refine lv_iload hx hb dX1_clouded_128 (lv_at hl 12 rfl) ?_
    refine lv_if_eq (tgt := 137) hx hb dX1_clouded_130 (by decide) (fun h13 => ?_) (fun h13 => ?_)
    · rw [if_pos h13] at hm
      exact wb_X1_clouded_137 cx C X S0 n r S1 _ hk12 a0 x2 x3 x4 x5 x6 (z0 + z1) x8 (if x9 < x8 then x8 else x9) x11 x10 S _ _ _ hw hE Ta0 (lv_sub hl [2, 3, 4, 5, 6, 7, 1, 8, 0, 10] rfl) hm
    · rw [if_neg h13] at hm
      refine lv_iconst (v := 1) hx hb dX1_clouded_133 (by decide) ?_
      refine lv_goto (tgt := 138) hx hb dX1_clouded_134 (by decide) ?_
      exact wb_X1_clouded_138 cx C X S0 n r S1 _ hk12 a0 x2 x3 x4 x5 x6 (z0 + z1) x8 (if x9 < x8 then x8 else x9) x11 x10 1 S _ _ _ hw hE Ta0 (lv_sub hl [2, 3, 4, 5, 6, 7, 1, 8, 0, 10] rfl) hm
def b_X1_clouded_95 (n : Nat) (k12 : Nat → Int32 → Int32 → Int32 → Int32 → Int32 → Int32 → Int32 → Int32 → Int32 → Int32 → pq_S → Option (Int32 × pq_S)) (a0 : Nat) (x2 : Int32) (x3 : Int32) (x4 : Int32) (x5 : Int32) (x6 : Int32) (x7 : Int32) (x9 : Int32) (x10 : Int32) (x11 : Int32) (x12 : Int32) (x13 : Int32) (z0 : Int32) (S : pq_S) : Option (Int32 × pq_S) := if z0 ≤ 0 then b_X1_clouded_109 n k12 a0 x2 x3 x4 x5 x6 z0 x9 x10 x11 x12 x13 x7 0 S else b_X1_clouded_109 n k12 a0 x2 x3 x4 x5 x6 z0 x9 x10 x11 x12 x13 x7 1 S
set_option maxHeartbeats 4000000 in
set_option maxRecDepth 100000 in
theorem wb_X1_clouded_95 {p : Program} {l : Launch} {e : Env} {s : State} {m : MethodId} {args : Array Value} {below : List Frame} {meth : Method} {c : Code} (cx : Cx p s m args meth c cX1_clouded 14 RX1 (some .int)) (C : pq_C) (X : va_W) (S0 : pq_S) (n : Nat) (r : Int32) (S1 : pq_S) (k12 : Nat → Int32 → Int32 → Int32 → Int32 → Int32 → Int32 → Int32 → Int32 → Int32 → Int32 → pq_S → Option (Int32 × pq_S)) (hk12 : ∀ (a0 : Nat) (x2 : Int32) (x3 : Int32) (x4 : Int32) (x5 : Int32) (x6 : Int32) (x7 : Int32) (x8 : Int32) (x9 : Int32) (x10 : Int32) (x11 : Int32) (S : pq_S) (H : Heap) (locs : List Loc) (ls : Array Slot), PW C X S (pq_F C X S0 s.heap.size) H locs s → Ext S0 S → TY S a0 1 → lv_has ls 14 [(0, .ref a0), (2, .int x2), (3, .int x3), (4, .int x4), (5, .int x5), (6, .int x6), (7, .int x7), (8, .int x8), (9, .int x9), (10, .int x10), (11, .int x11)] → k12 a0 x2 x3 x4 x5 x6 x7 x8 x9 x10 x11 S = some (r, S1) → W p l e rm_X1_clouded s m args below meth c H locs 0 0 (MQ below (QcI C X S0 s.heap.size r S1) args s 0 0 (pq_F C X S0 s.heap.size)) (F0 m 18 ls [])) : ∀ (a0 : Nat) (x2 : Int32) (x3 : Int32) (x4 : Int32) (x5 : Int32) (x6 : Int32) (x7 : Int32) (x9 : Int32) (x10 : Int32) (x11 : Int32) (x12 : Int32) (x13 : Int32) (z0 : Int32) (S : pq_S) (H : Heap) (locs : List Loc) (ls : Array Slot), PW C X S (pq_F C X S0 s.heap.size) H locs s → Ext S0 S → TY S a0 1 → lv_has ls 14 [(0, .ref a0), (2, .int x2), (3, .int x3), (4, .int x4), (5, .int x5), (6, .int x6), (7, .int x7), (9, .int x9), (10, .int x10), (11, .int x11), (12, .int x12), (13, .int x13)] → b_X1_clouded_95 n k12 a0 x2 x3 x4 x5 x6 x7 x9 x10 x11 x12 x13 z0 S = some (r, S1) → W p l e rm_X1_clouded s m args below meth c H locs 0 0 (MQ below (QcI C X S0 s.heap.size r S1) args s 0 0 (pq_F C X S0 s.heap.size)) (F0 m 95 ls [.int z0]) := by
  obtain ⟨hx, hb, hml, hown, hU, hr, hlk⟩ := id cx
  intro a0 x2 x3 x4 x5 x6 x7 x9 x10 x11 x12 x13 z0 S H locs ls hw hE Ta0 hl hm
  rw [b_X1_clouded_95] at hm
  refine lv_istore (lv' := [(8, .int z0), (0, .ref a0), (2, .int x2), (3, .int x3), (4, .int x4), (5, .int x5), (6, .int x6), (7, .int x7), (9, .int x9), (10, .int x10), (11, .int x11), (12, .int x12), (13, .int x13)]) hx hb dX1_clouded_95 hl (by decide) rfl (fun ls hl => ?_)
  refine lv_iload hx hb dX1_clouded_97 (lv_at hl 7 rfl) ?_
  refine lv_iload hx hb dX1_clouded_99 (lv_at hl 0 rfl) ?_
  refine lv_if_le (tgt := 108) hx hb dX1_clouded_101 (by decide) (fun h11 => ?_) (fun h11 => ?_)
  · rw [if_pos h11] at hm
    refine lv_iconst (v := 0) hx hb dX1_clouded_108 (by decide) ?_
    exact wb_X1_clouded_109 cx C X S0 n r S1 _ hk12 a0 x2 x3 x4 x5 x6 z0 x9 x10 x11 x12 x13 x7 0 S _ _ _ hw hE Ta0 (lv_sub hl [1, 2, 3, 4, 5, 6, 0, 8, 9, 10, 11, 12] rfl) hm
  · rw [if_neg h11] at hm
    refine lv_iconst (v := 1) hx hb dX1_clouded_104 (by decide) ?_
    refine lv_goto (tgt := 109) hx hb dX1_clouded_105 (by decide) ?_
    exact wb_X1_clouded_109 cx C X S0 n r S1 _ hk12 a0 x2 x3 x4 x5 x6 z0 x9 x10 x11 x12 x13 x7 1 S _ _ _ hw hE Ta0 (lv_sub hl [1, 2, 3, 4, 5, 6, 0, 8, 9, 10, 11, 12] rfl) hm
def b_X1_clouded_87 (n : Nat) (k12 : Nat → Int32 → Int32 → Int32 → Int32 → Int32 → Int32 → Int32 → Int32 → Int32 → Int32 → pq_S → Option (Int32 × pq_S)) (a0 : Nat) (x2 : Int32) (x3 : Int32) (x4 : Int32) (x5 : Int32) (x6 : Int32) (x7 : Int32) (x8 : Int32) (x9 : Int32) (x10 : Int32) (x11 : Int32) (x12 : Int32) (x13 : Int32) (S : pq_S) : Option (Int32 × pq_S) := b_X1_clouded_95 n k12 a0 x2 x3 x4 x5 x6 x7 x9 x10 x11 x12 x13 (x8 + (1 : Int32)) S
set_option maxHeartbeats 4000000 in
set_option maxRecDepth 100000 in
theorem wb_X1_clouded_87 {p : Program} {l : Launch} {e : Env} {s : State} {m : MethodId} {args : Array Value} {below : List Frame} {meth : Method} {c : Code} (cx : Cx p s m args meth c cX1_clouded 14 RX1 (some .int)) (C : pq_C) (X : va_W) (S0 : pq_S) (n : Nat) (r : Int32) (S1 : pq_S) (k12 : Nat → Int32 → Int32 → Int32 → Int32 → Int32 → Int32 → Int32 → Int32 → Int32 → Int32 → pq_S → Option (Int32 × pq_S)) (hk12 : ∀ (a0 : Nat) (x2 : Int32) (x3 : Int32) (x4 : Int32) (x5 : Int32) (x6 : Int32) (x7 : Int32) (x8 : Int32) (x9 : Int32) (x10 : Int32) (x11 : Int32) (S : pq_S) (H : Heap) (locs : List Loc) (ls : Array Slot), PW C X S (pq_F C X S0 s.heap.size) H locs s → Ext S0 S → TY S a0 1 → lv_has ls 14 [(0, .ref a0), (2, .int x2), (3, .int x3), (4, .int x4), (5, .int x5), (6, .int x6), (7, .int x7), (8, .int x8), (9, .int x9), (10, .int x10), (11, .int x11)] → k12 a0 x2 x3 x4 x5 x6 x7 x8 x9 x10 x11 S = some (r, S1) → W p l e rm_X1_clouded s m args below meth c H locs 0 0 (MQ below (QcI C X S0 s.heap.size r S1) args s 0 0 (pq_F C X S0 s.heap.size)) (F0 m 18 ls [])) : ∀ (a0 : Nat) (x2 : Int32) (x3 : Int32) (x4 : Int32) (x5 : Int32) (x6 : Int32) (x7 : Int32) (x8 : Int32) (x9 : Int32) (x10 : Int32) (x11 : Int32) (x12 : Int32) (x13 : Int32) (S : pq_S) (H : Heap) (locs : List Loc) (ls : Array Slot), PW C X S (pq_F C X S0 s.heap.size) H locs s → Ext S0 S → TY S a0 1 → lv_has ls 14 [(0, .ref a0), (2, .int x2), (3, .int x3), (4, .int x4), (5, .int x5), (6, .int x6), (7, .int x7), (8, .int x8), (9, .int x9), (10, .int x10), (11, .int x11), (12, .int x12), (13, .int x13)] → b_X1_clouded_87 n k12 a0 x2 x3 x4 x5 x6 x7 x8 x9 x10 x11 x12 x13 S = some (r, S1) → W p l e rm_X1_clouded s m args below meth c H locs 0 0 (MQ below (QcI C X S0 s.heap.size r S1) args s 0 0 (pq_F C X S0 s.heap.size)) (F0 m 87 ls []) := by
  obtain ⟨hx, hb, hml, hown, hU, hr, hlk⟩ := id cx
  intro a0 x2 x3 x4 x5 x6 x7 x8 x9 x10 x11 x12 x13 S H locs ls hw hE Ta0 hl hm
  rw [b_X1_clouded_87] at hm
  refine lv_iload hx hb dX1_clouded_87 (lv_at hl 7 rfl) ?_
  refine lv_iconst (v := 1) hx hb dX1_clouded_89 (by decide) ?_
  refine lv_iadd hx hb dX1_clouded_90 ?_
  refine lv_goto (tgt := 95) hx hb dX1_clouded_91 (by decide) ?_
  exact wb_X1_clouded_95 cx C X S0 n r S1 _ hk12 a0 x2 x3 x4 x5 x6 x7 x9 x10 x11 x12 x13 (x8 + (1 : Int32)) S _ _ _ hw hE Ta0 (lv_sub hl [0, 1, 2, 3, 4, 5, 6, 8, 9, 10, 11, 12] rfl) hm
def b_X1_clouded_75 (n : Nat) (k12 : Nat → Int32 → Int32 → Int32 → Int32 → Int32 → Int32 → Int32 → Int32 → Int32 → Int32 → pq_S → Option (Int32 × pq_S)) (a0 : Nat) (x2 : Int32) (x3 : Int32) (x4 : Int32) (x5 : Int32) (x6 : Int32) (x7 : Int32) (x8 : Int32) (x9 : Int32) (x10 : Int32) (x11 : Int32) (x12 : Int32) (z0 : Int32) (S : pq_S) : Option (Int32 × pq_S) := if x12 = 0 then if z0 = 0 then b_X1_clouded_95 n k12 a0 x2 x3 x4 x5 x6 x7 x9 x10 x11 x12 z0 0 S else b_X1_clouded_87 n k12 a0 x2 x3 x4 x5 x6 x7 x8 x9 x10 x11 x12 z0 S else b_X1_clouded_87 n k12 a0 x2 x3 x4 x5 x6 x7 x8 x9 x10 x11 x12 z0 S
set_option maxHeartbeats 4000000 in
set_option maxRecDepth 100000 in
theorem wb_X1_clouded_75 {p : Program} {l : Launch} {e : Env} {s : State} {m : MethodId} {args : Array Value} {below : List Frame} {meth : Method} {c : Code} (cx : Cx p s m args meth c cX1_clouded 14 RX1 (some .int)) (C : pq_C) (X : va_W) (S0 : pq_S) (n : Nat) (r : Int32) (S1 : pq_S) (k12 : Nat → Int32 → Int32 → Int32 → Int32 → Int32 → Int32 → Int32 → Int32 → Int32 → Int32 → pq_S → Option (Int32 × pq_S)) (hk12 : ∀ (a0 : Nat) (x2 : Int32) (x3 : Int32) (x4 : Int32) (x5 : Int32) (x6 : Int32) (x7 : Int32) (x8 : Int32) (x9 : Int32) (x10 : Int32) (x11 : Int32) (S : pq_S) (H : Heap) (locs : List Loc) (ls : Array Slot), PW C X S (pq_F C X S0 s.heap.size) H locs s → Ext S0 S → TY S a0 1 → lv_has ls 14 [(0, .ref a0), (2, .int x2), (3, .int x3), (4, .int x4), (5, .int x5), (6, .int x6), (7, .int x7), (8, .int x8), (9, .int x9), (10, .int x10), (11, .int x11)] → k12 a0 x2 x3 x4 x5 x6 x7 x8 x9 x10 x11 S = some (r, S1) → W p l e rm_X1_clouded s m args below meth c H locs 0 0 (MQ below (QcI C X S0 s.heap.size r S1) args s 0 0 (pq_F C X S0 s.heap.size)) (F0 m 18 ls [])) : ∀ (a0 : Nat) (x2 : Int32) (x3 : Int32) (x4 : Int32) (x5 : Int32) (x6 : Int32) (x7 : Int32) (x8 : Int32) (x9 : Int32) (x10 : Int32) (x11 : Int32) (x12 : Int32) (z0 : Int32) (S : pq_S) (H : Heap) (locs : List Loc) (ls : Array Slot), PW C X S (pq_F C X S0 s.heap.size) H locs s → Ext S0 S → TY S a0 1 → lv_has ls 14 [(0, .ref a0), (2, .int x2), (3, .int x3), (4, .int x4), (5, .int x5), (6, .int x6), (7, .int x7), (8, .int x8), (9, .int x9), (10, .int x10), (11, .int x11), (12, .int x12)] → b_X1_clouded_75 n k12 a0 x2 x3 x4 x5 x6 x7 x8 x9 x10 x11 x12 z0 S = some (r, S1) → W p l e rm_X1_clouded s m args below meth c H locs 0 0 (MQ below (QcI C X S0 s.heap.size r S1) args s 0 0 (pq_F C X S0 s.heap.size)) (F0 m 75 ls [.int z0]) := by
  obtain ⟨hx, hb, hml, hown, hU, hr, hlk⟩ := id cx
  intro a0 x2 x3 x4 x5 x6 x7 x8 x9 x10 x11 x12 z0 S H locs ls hw hE Ta0 hl hm
  rw [b_X1_clouded_75] at hm
  refine lv_istore (lv' := [(13, .int z0), (0, .ref a0), (2, .int x2), (3, .int x3), (4, .int x4), (5, .int x5), (6, .int x6), (7, .int x7), (8, .int x8), (9, .int x9), (10, .int x10), (11, .int x11), (12, .int x12)]) hx hb dX1_clouded_75 hl (by decide) rfl (fun ls hl => ?_)
  refine lv_iload hx hb dX1_clouded_77 (lv_at hl 12 rfl) ?_
  refine lv_if_ne (tgt := 87) hx hb dX1_clouded_79 (by decide) (fun h9 => ?_) (fun h9 => ?_)
  · rw [if_neg h9] at hm
    exact wb_X1_clouded_87 cx C X S0 n r S1 _ hk12 a0 x2 x3 x4 x5 x6 x7 x8 x9 x10 x11 x12 z0 S _ _ _ hw hE Ta0 (lv_sub hl [1, 2, 3, 4, 5, 6, 7, 8, 9, 10, 11, 12, 0] rfl) hm
  · rw [if_pos h9] at hm
    refine lv_iload hx hb dX1_clouded_82 (lv_at hl 0 rfl) ?_
    refine lv_if_eq (tgt := 94) hx hb dX1_clouded_84 (by decide) (fun h10 => ?_) (fun h10 => ?_)
    · rw [if_pos h10] at hm
      refine lv_iconst (v := 0) hx hb dX1_clouded_94 (by decide) ?_
      exact wb_X1_clouded_95 cx C X S0 n r S1 _ hk12 a0 x2 x3 x4 x5 x6 x7 x9 x10 x11 x12 z0 0 S _ _ _ hw hE Ta0 (lv_sub hl [1, 2, 3, 4, 5, 6, 7, 9, 10, 11, 12, 0] rfl) hm
    · rw [if_neg h10] at hm
      exact wb_X1_clouded_87 cx C X S0 n r S1 _ hk12 a0 x2 x3 x4 x5 x6 x7 x8 x9 x10 x11 x12 z0 S _ _ _ hw hE Ta0 (lv_sub hl [1, 2, 3, 4, 5, 6, 7, 8, 9, 10, 11, 12, 0] rfl) hm
def b_X1_clouded_57 (n : Nat) (k12 : Nat → Int32 → Int32 → Int32 → Int32 → Int32 → Int32 → Int32 → Int32 → Int32 → Int32 → pq_S → Option (Int32 × pq_S)) (a0 : Nat) (x2 : Int32) (x3 : Int32) (x4 : Int32) (x5 : Int32) (x6 : Int32) (x7 : Int32) (x8 : Int32) (x9 : Int32) (x10 : Int32) (x11 : Int32) (z0 : Int32) (S : pq_S) : Option (Int32 × pq_S) := cb (m_X1_moonsOn n a0 (x3 + x11) S) fun r6 S_4 => if r6 = 0 then b_X1_clouded_75 n k12 a0 x2 x3 x4 x5 x6 x7 x8 x9 x10 x11 z0 1 S_4 else b_X1_clouded_75 n k12 a0 x2 x3 x4 x5 x6 x7 x8 x9 x10 x11 z0 0 S_4
set_option maxHeartbeats 4000000 in
set_option maxRecDepth 100000 in
theorem wb_X1_clouded_57 {p : Program} {l : Launch} {e : Env} {s : State} {m : MethodId} {args : Array Value} {below : List Frame} {meth : Method} {c : Code} (cx : Cx p s m args meth c cX1_clouded 14 RX1 (some .int)) (C : pq_C) (X : va_W) (S0 : pq_S) (n : Nat) (r : Int32) (S1 : pq_S) (k12 : Nat → Int32 → Int32 → Int32 → Int32 → Int32 → Int32 → Int32 → Int32 → Int32 → Int32 → pq_S → Option (Int32 × pq_S)) (hk12 : ∀ (a0 : Nat) (x2 : Int32) (x3 : Int32) (x4 : Int32) (x5 : Int32) (x6 : Int32) (x7 : Int32) (x8 : Int32) (x9 : Int32) (x10 : Int32) (x11 : Int32) (S : pq_S) (H : Heap) (locs : List Loc) (ls : Array Slot), PW C X S (pq_F C X S0 s.heap.size) H locs s → Ext S0 S → TY S a0 1 → lv_has ls 14 [(0, .ref a0), (2, .int x2), (3, .int x3), (4, .int x4), (5, .int x5), (6, .int x6), (7, .int x7), (8, .int x8), (9, .int x9), (10, .int x10), (11, .int x11)] → k12 a0 x2 x3 x4 x5 x6 x7 x8 x9 x10 x11 S = some (r, S1) → W p l e rm_X1_clouded s m args below meth c H locs 0 0 (MQ below (QcI C X S0 s.heap.size r S1) args s 0 0 (pq_F C X S0 s.heap.size)) (F0 m 18 ls [])) : ∀ (a0 : Nat) (x2 : Int32) (x3 : Int32) (x4 : Int32) (x5 : Int32) (x6 : Int32) (x7 : Int32) (x8 : Int32) (x9 : Int32) (x10 : Int32) (x11 : Int32) (z0 : Int32) (S : pq_S) (H : Heap) (locs : List Loc) (ls : Array Slot), PW C X S (pq_F C X S0 s.heap.size) H locs s → Ext S0 S → TY S a0 1 → lv_has ls 14 [(0, .ref a0), (2, .int x2), (3, .int x3), (4, .int x4), (5, .int x5), (6, .int x6), (7, .int x7), (8, .int x8), (9, .int x9), (10, .int x10), (11, .int x11)] → b_X1_clouded_57 n k12 a0 x2 x3 x4 x5 x6 x7 x8 x9 x10 x11 z0 S = some (r, S1) → W p l e rm_X1_clouded s m args below meth c H locs 0 0 (MQ below (QcI C X S0 s.heap.size r S1) args s 0 0 (pq_F C X S0 s.heap.size)) (F0 m 57 ls [.int z0]) := by
  obtain ⟨hx, hb, hml, hown, hU, hr, hlk⟩ := id cx
  intro a0 x2 x3 x4 x5 x6 x7 x8 x9 x10 x11 z0 S H locs ls hw hE Ta0 hl hm
  rw [b_X1_clouded_57] at hm
  refine lv_istore (lv' := [(12, .int z0), (0, .ref a0), (2, .int x2), (3, .int x3), (4, .int x4), (5, .int x5), (6, .int x6), (7, .int x7), (8, .int x8), (9, .int x9), (10, .int x10), (11, .int x11)]) hx hb dX1_clouded_57 hl (by decide) rfl (fun ls hl => ?_)
  refine lv_aload_n hx hb dX1_clouded_59 rfl (lv_at hl 1 rfl) ?_
  refine lv_iload_n hx hb dX1_clouded_60 rfl (lv_at hl 3 rfl) ?_
  refine lv_iload hx hb dX1_clouded_61 (lv_at hl 11 rfl) ?_
  refine lv_iadd hx hb dX1_clouded_63 ?_
  obtain ⟨r6, S_4, hq5, hm⟩ := cb_some hm
  refine pw_ci (va_runV (As := [.int (x3 + x11)]) (rest := []) ⟨hx, hb, hml, hown, hU⟩ (c_X1_moonsOn l C X n S hw.wf _ a0 (x3 + x11) (Ta0) r6 S_4 hq5) (cwV 1 hU (pq_gV tw1383 tw1370 ts114 tw4 tc_X1_moonsOn) rfl rfl rfl cd_X1_moonsOn ⟨Nat.le_of_ble_eq_true rfl, Nat.le_of_ble_eq_true rfl⟩) (pw_preV hw Ta0 (by decide) rfl) rfl rfl hl.1 rfl (lv_room (Nat.le_of_ble_eq_true rfl)) dX1_clouded_64 ⟨Nat.zero_le _, Nat.zero_le _⟩) hw (fun H locs hw hx7 => ?_)
  have Ta0 : TY S_4 a0 1 := ty_ext hx7 Ta0
  have hE : Ext S0 S_4 := Ext.tr hE hx7
  refine lv_if_ne (tgt := 74) hx hb dX1_clouded_67 (by decide) (fun h8 => ?_) (fun h8 => ?_)
  · rw [if_neg h8] at hm
    refine lv_iconst (v := 0) hx hb dX1_clouded_74 (by decide) ?_
    exact wb_X1_clouded_75 cx C X S0 n r S1 _ hk12 a0 x2 x3 x4 x5 x6 x7 x8 x9 x10 x11 z0 0 S_4 _ _ _ hw hE Ta0 (lv_sub hl [1, 2, 3, 4, 5, 6, 7, 8, 9, 10, 11, 0] rfl) hm
  · rw [if_pos h8] at hm
    refine lv_iconst (v := 1) hx hb dX1_clouded_70 (by decide) ?_
    refine lv_goto (tgt := 75) hx hb dX1_clouded_71 (by decide) ?_
    exact wb_X1_clouded_75 cx C X S0 n r S1 _ hk12 a0 x2 x3 x4 x5 x6 x7 x8 x9 x10 x11 z0 1 S_4 _ _ _ hw hE Ta0 (lv_sub hl [1, 2, 3, 4, 5, 6, 7, 8, 9, 10, 11, 0] rfl) hm
def b_X1_clouded_147 (n : Nat) (x5 : Int32) (x7 : Int32) (x9 : Int32) (x10 : Int32) (S : pq_S) : Option (Int32 × pq_S) := if x5 = 0 then some (x7, S) else if x5 = 1 then some (x9, S) else some (x10, S)
set_option maxHeartbeats 4000000 in
set_option maxRecDepth 100000 in
theorem wb_X1_clouded_147 {p : Program} {l : Launch} {e : Env} {s : State} {m : MethodId} {args : Array Value} {below : List Frame} {meth : Method} {c : Code} (cx : Cx p s m args meth c cX1_clouded 14 RX1 (some .int)) (C : pq_C) (X : va_W) (S0 : pq_S) (n : Nat) (r : Int32) (S1 : pq_S) : ∀ (x5 : Int32) (x7 : Int32) (x9 : Int32) (x10 : Int32) (S : pq_S) (H : Heap) (locs : List Loc) (ls : Array Slot), PW C X S (pq_F C X S0 s.heap.size) H locs s → Ext S0 S → lv_has ls 14 [(5, .int x5), (7, .int x7), (9, .int x9), (10, .int x10)] → b_X1_clouded_147 n x5 x7 x9 x10 S = some (r, S1) → W p l e rm_X1_clouded s m args below meth c H locs 0 0 (MQ below (QcI C X S0 s.heap.size r S1) args s 0 0 (pq_F C X S0 s.heap.size)) (F0 m 147 ls []) := by
  obtain ⟨hx, hb, hml, hown, hU, hr, hlk⟩ := id cx
  intro x5 x7 x9 x10 S H locs ls hw hE hl hm
  rw [b_X1_clouded_147] at hm
  refine lv_iload hx hb dX1_clouded_147 (lv_at hl 0 rfl) ?_
  refine lv_if_ne (tgt := 155) hx hb dX1_clouded_149 (by decide) (fun h14 => ?_) (fun h14 => ?_)
  · rw [if_neg h14] at hm
    refine lv_iload hx hb dX1_clouded_155 (lv_at hl 0 rfl) ?_
    refine lv_iconst (v := 1) hx hb dX1_clouded_157 (by decide) ?_
    refine lv_icmp_ne (tgt := 166) hx hb dX1_clouded_158 (by decide) (fun h15 => ?_) (fun h15 => ?_)
    · rw [if_neg h15] at hm
      refine lv_iload hx hb dX1_clouded_166 (lv_at hl 3 rfl) ?_
      cases hm
      exact pw_iret hx hb hr rfl hlk hw hE dX1_clouded_168
    · rw [if_pos h15] at hm
      refine lv_iload hx hb dX1_clouded_161 (lv_at hl 2 rfl) ?_
      refine lv_goto (tgt := 168) hx hb dX1_clouded_163 (by decide) ?_
      cases hm
      exact pw_iret hx hb hr rfl hlk hw hE dX1_clouded_168
  · rw [if_pos h14] at hm
    refine lv_iload hx hb dX1_clouded_152 (lv_at hl 1 rfl) ?_
    cases hm
    exact pw_iret hx hb hr rfl hlk hw hE dX1_clouded_154
def b_X1_clouded_18 (n : Nat) : Nat → Nat → Int32 → Int32 → Int32 → Int32 → Int32 → Int32 → Int32 → Int32 → Int32 → Int32 → pq_S → Option (Int32 × pq_S)
  | 0, _, _, _, _, _, _, _, _, _, _, _, _ => none
  | f + 1, a0, x2, x3, x4, x5, x6, x7, x8, x9, x10, x11, S => if x4 ≤ x11 then b_X1_clouded_147 n x5 x7 x9 x10 S else lt_ ((x6 * (1103515245 : Int32)) + (12345 : Int32)) fun v2 => if x2 ≤ (((ushr_ v2 16) &&& (32767 : Int32)) - ((ushr_ v2 16) &&& (32767 : Int32)) / 16 * 16) then b_X1_clouded_57 n (b_X1_clouded_18 n f) a0 x2 x3 x4 x5 v2 x7 x8 x9 x10 x11 0 S else b_X1_clouded_57 n (b_X1_clouded_18 n f) a0 x2 x3 x4 x5 v2 x7 x8 x9 x10 x11 1 S
set_option maxHeartbeats 4000000 in
set_option maxRecDepth 100000 in
theorem wb_X1_clouded_18 {p : Program} {l : Launch} {e : Env} {s : State} {m : MethodId} {args : Array Value} {below : List Frame} {meth : Method} {c : Code} (cx : Cx p s m args meth c cX1_clouded 14 RX1 (some .int)) (C : pq_C) (X : va_W) (S0 : pq_S) (n : Nat) (r : Int32) (S1 : pq_S) : ∀ (f : Nat) (a0 : Nat) (x2 : Int32) (x3 : Int32) (x4 : Int32) (x5 : Int32) (x6 : Int32) (x7 : Int32) (x8 : Int32) (x9 : Int32) (x10 : Int32) (x11 : Int32) (S : pq_S) (H : Heap) (locs : List Loc) (ls : Array Slot), PW C X S (pq_F C X S0 s.heap.size) H locs s → Ext S0 S → TY S a0 1 → lv_has ls 14 [(0, .ref a0), (2, .int x2), (3, .int x3), (4, .int x4), (5, .int x5), (6, .int x6), (7, .int x7), (8, .int x8), (9, .int x9), (10, .int x10), (11, .int x11)] → b_X1_clouded_18 n f a0 x2 x3 x4 x5 x6 x7 x8 x9 x10 x11 S = some (r, S1) → W p l e rm_X1_clouded s m args below meth c H locs 0 0 (MQ below (QcI C X S0 s.heap.size r S1) args s 0 0 (pq_F C X S0 s.heap.size)) (F0 m 18 ls []) := by
  obtain ⟨hx, hb, hml, hown, hU, hr, hlk⟩ := id cx
  intro f
  induction f with
  | zero =>
    intro a0 x2 x3 x4 x5 x6 x7 x8 x9 x10 x11 S H locs ls hw hE Ta0 hl hm
    cases hm
  | succ f ih =>
    intro a0 x2 x3 x4 x5 x6 x7 x8 x9 x10 x11 S H locs ls hw hE Ta0 hl hm
    rw [b_X1_clouded_18] at hm
    refine lv_iload hx hb dX1_clouded_18 (lv_at hl 10 rfl) ?_
    refine lv_iload hx hb dX1_clouded_20 (lv_at hl 3 rfl) ?_
    refine lv_icmp_ge (tgt := 147) hx hb dX1_clouded_22 (by decide) (fun h1 => ?_) (fun h1 => ?_)
    · rw [if_pos h1] at hm
      exact wb_X1_clouded_147 cx C X S0 n r S1 x5 x7 x9 x10 S _ _ _ hw hE  (lv_sub hl [4, 6, 8, 9] rfl) hm
    · rw [if_neg h1] at hm
      refine lv_iload hx hb dX1_clouded_25 (lv_at hl 5 rfl) ?_
      refine lv_ldc (v := 1103515245) hx hb hown (hU _ tw1412) dX1_clouded_27 ?_
      refine lv_imul hx hb dX1_clouded_29 ?_
      refine lv_sipush (v := 12345) hx hb dX1_clouded_30 (by decide) ?_
      refine lv_iadd hx hb dX1_clouded_33 ?_
      obtain ⟨v2, ev2, hm⟩ := lt_some hm
      refine lv_nmI ev2 ?_
      refine lv_istore (lv' := [(6, .int v2), (0, .ref a0), (2, .int x2), (3, .int x3), (4, .int x4), (5, .int x5), (7, .int x7), (8, .int x8), (9, .int x9), (10, .int x10), (11, .int x11)]) hx hb dX1_clouded_34 hl (by decide) rfl (fun ls hl => ?_)
      refine lv_iload hx hb dX1_clouded_36 (lv_at hl 0 rfl) ?_
      refine lv_bipush (v := 16) hx hb dX1_clouded_38 (by decide) ?_
      refine lv_iushr (v := (ushr_ v2 16)) hx hb dX1_clouded_40 rfl ?_
      refine lv_sipush (v := 32767) hx hb dX1_clouded_41 (by decide) ?_
      refine lv_iand hx hb dX1_clouded_44 ?_
      refine lv_bipush (v := 16) hx hb dX1_clouded_45 (by decide) ?_
      refine lv_irem hx hb dX1_clouded_47 (by decide) ?_
      refine lv_iload_n hx hb dX1_clouded_48 rfl (lv_at hl 2 rfl) ?_
      refine lv_icmp_ge (tgt := 56) hx hb dX1_clouded_49 (by decide) (fun h3 => ?_) (fun h3 => ?_)
      · rw [if_pos h3] at hm
        refine lv_iconst (v := 0) hx hb dX1_clouded_56 (by decide) ?_
        exact wb_X1_clouded_57 cx C X S0 n r S1 _ ih a0 x2 x3 x4 x5 v2 x7 x8 x9 x10 x11 0 S _ _ _ hw hE Ta0 (lv_sub hl [1, 2, 3, 4, 5, 0, 6, 7, 8, 9, 10] rfl) hm
      · rw [if_neg h3] at hm
        refine lv_iconst (v := 1) hx hb dX1_clouded_52 (by decide) ?_
        refine lv_goto (tgt := 57) hx hb dX1_clouded_53 (by decide) ?_
        exact wb_X1_clouded_57 cx C X S0 n r S1 _ ih a0 x2 x3 x4 x5 v2 x7 x8 x9 x10 x11 1 S _ _ _ hw hE Ta0 (lv_sub hl [1, 2, 3, 4, 5, 0, 6, 7, 8, 9, 10] rfl) hm
def m_X1_clouded (n : Nat) (a0 : Nat) (x1 : Int32) (x2 : Int32) (x3 : Int32) (x4 : Int32) (x5 : Int32) (S0 : pq_S) : Option (Int32 × pq_S) := b_X1_clouded_18 n n a0 x2 x3 x4 x5 x1 0 0 0 0 0 S0
theorem tc_X1_clouded : Cond.code yX1_clouded cX1_clouded 14 (some .int) ∈ pq_U := tw1411
theorem cd_X1_clouded : yX1_clouded.cls = RX1 ∧ yX1_clouded.cls ≠ "java/lang/invoke/MethodHandle" ∧ yX1_clouded.cls ≠ "java/lang/invoke/VarHandle" ∧ (parseMethodDescriptor yX1_clouded.desc).map (fun d => d.parameters.length) = some 5 := by decide +kernel
set_option maxHeartbeats 4000000 in
set_option maxRecDepth 100000 in
theorem c_X1_clouded (l : Launch) (C : pq_C) (X : va_W) (n : Nat) (S0 : pq_S) (hF : WF S0) (sz : Nat) (a0 : Nat) (x1 : Int32) (x2 : Int32) (x3 : Int32) (x4 : Int32) (x5 : Int32) (Ta0 : TY S0 a0 1) (r : Int32) (S1 : pq_S) (hm : m_X1_clouded n a0 x1 x2 x3 x4 x5 S0 = some (r, S1)) : MI l yX1_clouded (.code yX1_clouded cX1_clouded 14 (some .int) :: pq_U) rm_X1_clouded C X S0 sz [.ref a0, .int x1, .int x2, .int x3, .int x4, .int x5] r S1 0 0 := by
  refine Met.ofW (cc := cX1_clouded) (maxL := 14) (ret := (some .int)) (by decide) rfl ?_
  intro p e s m args below meth c s₁ B hml hv
  obtain ⟨rfl, hv⟩ := hv
  have hsz := hv.1
  subst hsz
  have hw := pw_entry hF hv
  have hts := atoms_spec (ws := .code yX1_clouded cX1_clouded 14 (some .int) :: pq_U) B.pre
  have hU : ∀ w ∈ pq_U, w.before _ s = true := fun w h => hts w (List.mem_cons_of_mem _ h)
  have hx := B.exec
  have hb := B.bytes
  have hr := B.returns
  have hown : s.vm.findClass RX1 = some m.cls := findClass_of_methodNamed B.named
  have hlk := B.notSynchronized
  have hl := lv_entry ([.ref a0, .int x1, .int x2, .int x3, .int x4, .int x5]) (n := 14) (Nat.le_of_ble_eq_true rfl)
  rw [lg_entry_eq]
  generalize (lg_sl ([.ref a0, .int x1, .int x2, .int x3, .int x4, .int x5]) ++ List.replicate (14 - (lg_sl ([.ref a0, .int x1, .int x2, .int x3, .int x4, .int x5])).length) Slot.unset).toArray = ls at hl ⊢
  have hl : lv_has ls 14 [(0, .ref a0), (1, .int x1), (2, .int x2), (3, .int x3), (4, .int x4), (5, .int x5)] := hl
  have hE : Ext S0 S0 := Ext.rf _
  have cx : Cx p s m _ meth c cX1_clouded 14 RX1 (some .int) := ⟨hx, hb, hml, hown, hU, hr, hlk⟩
  rw [m_X1_clouded] at hm
  refine lv_iload_n hx hb dX1_clouded_0 rfl (lv_at hl 1 rfl) ?_
  refine lv_istore (lv' := [(6, .int x1), (0, .ref a0), (1, .int x1), (2, .int x2), (3, .int x3), (4, .int x4), (5, .int x5)]) hx hb dX1_clouded_1 hl (by decide) rfl (fun ls hl => ?_)
  refine lv_iconst (v := 0) hx hb dX1_clouded_3 (by decide) ?_
  refine lv_istore (lv' := [(7, .int 0), (6, .int x1), (0, .ref a0), (1, .int x1), (2, .int x2), (3, .int x3), (4, .int x4), (5, .int x5)]) hx hb dX1_clouded_4 hl (by decide) rfl (fun ls hl => ?_)
  refine lv_iconst (v := 0) hx hb dX1_clouded_6 (by decide) ?_
  refine lv_istore (lv' := [(8, .int 0), (7, .int 0), (6, .int x1), (0, .ref a0), (1, .int x1), (2, .int x2), (3, .int x3), (4, .int x4), (5, .int x5)]) hx hb dX1_clouded_7 hl (by decide) rfl (fun ls hl => ?_)
  refine lv_iconst (v := 0) hx hb dX1_clouded_9 (by decide) ?_
  refine lv_istore (lv' := [(9, .int 0), (8, .int 0), (7, .int 0), (6, .int x1), (0, .ref a0), (1, .int x1), (2, .int x2), (3, .int x3), (4, .int x4), (5, .int x5)]) hx hb dX1_clouded_10 hl (by decide) rfl (fun ls hl => ?_)
  refine lv_iconst (v := 0) hx hb dX1_clouded_12 (by decide) ?_
  refine lv_istore (lv' := [(10, .int 0), (9, .int 0), (8, .int 0), (7, .int 0), (6, .int x1), (0, .ref a0), (1, .int x1), (2, .int x2), (3, .int x3), (4, .int x4), (5, .int x5)]) hx hb dX1_clouded_13 hl (by decide) rfl (fun ls hl => ?_)
  refine lv_iconst (v := 0) hx hb dX1_clouded_15 (by decide) ?_
  refine lv_istore (lv' := [(11, .int 0), (10, .int 0), (9, .int 0), (8, .int 0), (7, .int 0), (6, .int x1), (0, .ref a0), (1, .int x1), (2, .int x2), (3, .int x3), (4, .int x4), (5, .int x5)]) hx hb dX1_clouded_16 hl (by decide) rfl (fun ls hl => ?_)
  exact wb_X1_clouded_18 cx C X S0 n r S1 n a0 x2 x3 x4 x5 x1 0 0 0 0 0 S0 _ _ _ hw hE Ta0 (lv_sub hl [6, 8, 9, 10, 11, 5, 4, 3, 2, 1, 0] rfl) hm
abbrev rm_X2_inputNamed : Room := { frames := 5, cells := 0, slots := 0, locals := 107 }
def m_X2_inputNamed (n : Nat) (a0 : Nat) (S0 : pq_S) : Option (Int32 × pq_S) := cb (m_X10_isWord n a0 8 S0) fun r3 S_1 => if r3 = 0 then cb (m_X10_isWord n a0 9 S_1) fun r9 S_7 => if r9 = 0 then cb (m_X10_isWord n a0 10 S_7) fun r15 S_13 => if r15 = 0 then cb (m_X10_isWord n a0 11 S_13) fun r21 S_19 => if r21 = 0 then cb (m_X10_isWord n a0 12 S_19) fun r27 S_25 => if r27 = 0 then cb (m_X10_isWord n a0 13 S_25) fun r33 S_31 => if r33 = 0 then cb (m_X10_isWord n a0 14 S_31) fun r39 S_37 => if r39 = 0 then some ((-1), S_37) else some (6, S_37) else some (5, S_31) else some (4, S_25) else some (3, S_19) else some (2, S_13) else some (1, S_7) else some (0, S_1)
theorem tc_X2_inputNamed : Cond.code yX2_inputNamed cX2_inputNamed 1 (some .int) ∈ pq_U := tw776
theorem cd_X2_inputNamed : yX2_inputNamed.cls = RX2 ∧ yX2_inputNamed.cls ≠ "java/lang/invoke/MethodHandle" ∧ yX2_inputNamed.cls ≠ "java/lang/invoke/VarHandle" ∧ (parseMethodDescriptor yX2_inputNamed.desc).map (fun d => d.parameters.length) = some 1 := by decide +kernel
set_option maxHeartbeats 4000000 in
set_option maxRecDepth 100000 in
theorem c_X2_inputNamed (l : Launch) (C : pq_C) (X : va_W) (n : Nat) (S0 : pq_S) (hF : WF S0) (sz : Nat) (a0 : Nat) (Ta0 : TY S0 a0 10) (r : Int32) (S1 : pq_S) (hm : m_X2_inputNamed n a0 S0 = some (r, S1)) : MI l yX2_inputNamed (.code yX2_inputNamed cX2_inputNamed 1 (some .int) :: pq_U) rm_X2_inputNamed C X S0 sz [.ref a0] r S1 0 0 := by
  refine Met.ofW (cc := cX2_inputNamed) (maxL := 1) (ret := (some .int)) (by decide) rfl ?_
  intro p e s m args below meth c s₁ B hml hv
  obtain ⟨rfl, hv⟩ := hv
  have hsz := hv.1
  subst hsz
  have hw := pw_entry hF hv
  have hts := atoms_spec (ws := .code yX2_inputNamed cX2_inputNamed 1 (some .int) :: pq_U) B.pre
  have hU : ∀ w ∈ pq_U, w.before _ s = true := fun w h => hts w (List.mem_cons_of_mem _ h)
  have hx := B.exec
  have hb := B.bytes
  have hr := B.returns
  have hown : s.vm.findClass RX2 = some m.cls := findClass_of_methodNamed B.named
  have hlk := B.notSynchronized
  have hl := lv_entry ([.ref a0]) (n := 1) (Nat.le_of_ble_eq_true rfl)
  rw [lg_entry_eq]
  generalize (lg_sl ([.ref a0]) ++ List.replicate (1 - (lg_sl ([.ref a0])).length) Slot.unset).toArray = ls at hl ⊢
  have hl : lv_has ls 1 [(0, .ref a0)] := hl
  have hE : Ext S0 S0 := Ext.rf _
  have cx : Cx p s m _ meth c cX2_inputNamed 1 RX2 (some .int) := ⟨hx, hb, hml, hown, hU, hr, hlk⟩
  rw [m_X2_inputNamed] at hm
  refine lv_aload_n hx hb dX2_inputNamed_0 rfl (lv_at hl 0 rfl) ?_
  refine va_ldcS hx hb hown (hw.str 8 rfl) dX2_inputNamed_1 ?_
  obtain ⟨r3, S_1, hq2, hm⟩ := cb_some hm
  refine pw_cz (va_runVN (As := [.ref (C.2.2.2.2.2.2.1 8)]) (rest := []) ⟨hx, hb, hml, hown, hU⟩ (c_X10_isWord l C X n S0 hw.wf _ a0 8 (Ta0) ((by decide)) r3 S_1 hq2) ⟨va_cnB (host := "WickNights") 1 hU (pq_g1 tc_X10_isWord) rfl rfl rfl (hw.nw 117 rfl) (hU _ tw2) cd_X10_isWord.2 ⟨Nat.le_of_ble_eq_true rfl, Nat.le_of_ble_eq_true rfl⟩, hU _ tw599, hU _ ts18⟩ (pw_preV hw Ta0 (by decide) rfl) rfl rfl hl.1 rfl (lv_room (Nat.le_of_ble_eq_true rfl)) dX2_inputNamed_3 ⟨Nat.zero_le _, Nat.zero_le _⟩) hw (fun H locs hw hx4 hz5 => ?_)
  have Ta0 : TY S_1 a0 10 := ty_ext hx4 Ta0
  have hE : Ext S0 S_1 := Ext.tr hE hx4
  refine lv_if_eq (tgt := 11) hx hb dX2_inputNamed_6 (by decide) (fun h6 => ?_) (fun h6 => ?_)
  · rw [if_pos h6] at hm
    refine lv_aload_n hx hb dX2_inputNamed_11 rfl (lv_at hl 0 rfl) ?_
    refine va_ldcS hx hb hown (hw.str 9 rfl) dX2_inputNamed_12 ?_
    obtain ⟨r9, S_7, hq8, hm⟩ := cb_some hm
    refine pw_cz (va_runVN (As := [.ref (C.2.2.2.2.2.2.1 9)]) (rest := []) ⟨hx, hb, hml, hown, hU⟩ (c_X10_isWord l C X n S_1 hw.wf _ a0 9 (Ta0) ((by decide)) r9 S_7 hq8) ⟨va_cnB (host := "WickNights") 1 hU (pq_g1 tc_X10_isWord) rfl rfl rfl (hw.nw 117 rfl) (hU _ tw2) cd_X10_isWord.2 ⟨Nat.le_of_ble_eq_true rfl, Nat.le_of_ble_eq_true rfl⟩, hU _ tw599, hU _ ts18⟩ (pw_preV hw Ta0 (by decide) rfl) rfl rfl hl.1 rfl (lv_room (Nat.le_of_ble_eq_true rfl)) dX2_inputNamed_14 ⟨Nat.zero_le _, Nat.zero_le _⟩) hw (fun H locs hw hx10 hz11 => ?_)
    have Ta0 : TY S_7 a0 10 := ty_ext hx10 Ta0
    have hE : Ext S0 S_7 := Ext.tr hE hx10
    refine lv_if_eq (tgt := 22) hx hb dX2_inputNamed_17 (by decide) (fun h12 => ?_) (fun h12 => ?_)
    · rw [if_pos h12] at hm
      refine lv_aload_n hx hb dX2_inputNamed_22 rfl (lv_at hl 0 rfl) ?_
      refine va_ldcS hx hb hown (hw.str 10 rfl) dX2_inputNamed_23 ?_
      obtain ⟨r15, S_13, hq14, hm⟩ := cb_some hm
      refine pw_cz (va_runVN (As := [.ref (C.2.2.2.2.2.2.1 10)]) (rest := []) ⟨hx, hb, hml, hown, hU⟩ (c_X10_isWord l C X n S_7 hw.wf _ a0 10 (Ta0) ((by decide)) r15 S_13 hq14) ⟨va_cnB (host := "WickNights") 1 hU (pq_g1 tc_X10_isWord) rfl rfl rfl (hw.nw 117 rfl) (hU _ tw2) cd_X10_isWord.2 ⟨Nat.le_of_ble_eq_true rfl, Nat.le_of_ble_eq_true rfl⟩, hU _ tw599, hU _ ts18⟩ (pw_preV hw Ta0 (by decide) rfl) rfl rfl hl.1 rfl (lv_room (Nat.le_of_ble_eq_true rfl)) dX2_inputNamed_25 ⟨Nat.zero_le _, Nat.zero_le _⟩) hw (fun H locs hw hx16 hz17 => ?_)
      have Ta0 : TY S_13 a0 10 := ty_ext hx16 Ta0
      have hE : Ext S0 S_13 := Ext.tr hE hx16
      refine lv_if_eq (tgt := 33) hx hb dX2_inputNamed_28 (by decide) (fun h18 => ?_) (fun h18 => ?_)
      · rw [if_pos h18] at hm
        refine lv_aload_n hx hb dX2_inputNamed_33 rfl (lv_at hl 0 rfl) ?_
        refine va_ldcS hx hb hown (hw.str 11 rfl) dX2_inputNamed_34 ?_
        obtain ⟨r21, S_19, hq20, hm⟩ := cb_some hm
        refine pw_cz (va_runVN (As := [.ref (C.2.2.2.2.2.2.1 11)]) (rest := []) ⟨hx, hb, hml, hown, hU⟩ (c_X10_isWord l C X n S_13 hw.wf _ a0 11 (Ta0) ((by decide)) r21 S_19 hq20) ⟨va_cnB (host := "WickNights") 1 hU (pq_g1 tc_X10_isWord) rfl rfl rfl (hw.nw 117 rfl) (hU _ tw2) cd_X10_isWord.2 ⟨Nat.le_of_ble_eq_true rfl, Nat.le_of_ble_eq_true rfl⟩, hU _ tw599, hU _ ts18⟩ (pw_preV hw Ta0 (by decide) rfl) rfl rfl hl.1 rfl (lv_room (Nat.le_of_ble_eq_true rfl)) dX2_inputNamed_36 ⟨Nat.zero_le _, Nat.zero_le _⟩) hw (fun H locs hw hx22 hz23 => ?_)
        have Ta0 : TY S_19 a0 10 := ty_ext hx22 Ta0
        have hE : Ext S0 S_19 := Ext.tr hE hx22
        refine lv_if_eq (tgt := 44) hx hb dX2_inputNamed_39 (by decide) (fun h24 => ?_) (fun h24 => ?_)
        · rw [if_pos h24] at hm
          refine lv_aload_n hx hb dX2_inputNamed_44 rfl (lv_at hl 0 rfl) ?_
          refine va_ldcS hx hb hown (hw.str 12 rfl) dX2_inputNamed_45 ?_
          obtain ⟨r27, S_25, hq26, hm⟩ := cb_some hm
          refine pw_cz (va_runVN (As := [.ref (C.2.2.2.2.2.2.1 12)]) (rest := []) ⟨hx, hb, hml, hown, hU⟩ (c_X10_isWord l C X n S_19 hw.wf _ a0 12 (Ta0) ((by decide)) r27 S_25 hq26) ⟨va_cnB (host := "WickNights") 1 hU (pq_g1 tc_X10_isWord) rfl rfl rfl (hw.nw 117 rfl) (hU _ tw2) cd_X10_isWord.2 ⟨Nat.le_of_ble_eq_true rfl, Nat.le_of_ble_eq_true rfl⟩, hU _ tw599, hU _ ts18⟩ (pw_preV hw Ta0 (by decide) rfl) rfl rfl hl.1 rfl (lv_room (Nat.le_of_ble_eq_true rfl)) dX2_inputNamed_47 ⟨Nat.zero_le _, Nat.zero_le _⟩) hw (fun H locs hw hx28 hz29 => ?_)
          have Ta0 : TY S_25 a0 10 := ty_ext hx28 Ta0
          have hE : Ext S0 S_25 := Ext.tr hE hx28
          refine lv_if_eq (tgt := 55) hx hb dX2_inputNamed_50 (by decide) (fun h30 => ?_) (fun h30 => ?_)
          · rw [if_pos h30] at hm
            refine lv_aload_n hx hb dX2_inputNamed_55 rfl (lv_at hl 0 rfl) ?_
            refine va_ldcS hx hb hown (hw.str 13 rfl) dX2_inputNamed_56 ?_
            obtain ⟨r33, S_31, hq32, hm⟩ := cb_some hm
            refine pw_cz (va_runVN (As := [.ref (C.2.2.2.2.2.2.1 13)]) (rest := []) ⟨hx, hb, hml, hown, hU⟩ (c_X10_isWord l C X n S_25 hw.wf _ a0 13 (Ta0) ((by decide)) r33 S_31 hq32) ⟨va_cnB (host := "WickNights") 1 hU (pq_g1 tc_X10_isWord) rfl rfl rfl (hw.nw 117 rfl) (hU _ tw2) cd_X10_isWord.2 ⟨Nat.le_of_ble_eq_true rfl, Nat.le_of_ble_eq_true rfl⟩, hU _ tw599, hU _ ts18⟩ (pw_preV hw Ta0 (by decide) rfl) rfl rfl hl.1 rfl (lv_room (Nat.le_of_ble_eq_true rfl)) dX2_inputNamed_58 ⟨Nat.zero_le _, Nat.zero_le _⟩) hw (fun H locs hw hx34 hz35 => ?_)
            have Ta0 : TY S_31 a0 10 := ty_ext hx34 Ta0
            have hE : Ext S0 S_31 := Ext.tr hE hx34
            refine lv_if_eq (tgt := 66) hx hb dX2_inputNamed_61 (by decide) (fun h36 => ?_) (fun h36 => ?_)
            · rw [if_pos h36] at hm
              refine lv_aload_n hx hb dX2_inputNamed_66 rfl (lv_at hl 0 rfl) ?_
              refine va_ldcS hx hb hown (hw.str 14 rfl) dX2_inputNamed_67 ?_
              obtain ⟨r39, S_37, hq38, hm⟩ := cb_some hm
              refine pw_cz (va_runVN (As := [.ref (C.2.2.2.2.2.2.1 14)]) (rest := []) ⟨hx, hb, hml, hown, hU⟩ (c_X10_isWord l C X n S_31 hw.wf _ a0 14 (Ta0) ((by decide)) r39 S_37 hq38) ⟨va_cnB (host := "WickNights") 1 hU (pq_g1 tc_X10_isWord) rfl rfl rfl (hw.nw 117 rfl) (hU _ tw2) cd_X10_isWord.2 ⟨Nat.le_of_ble_eq_true rfl, Nat.le_of_ble_eq_true rfl⟩, hU _ tw599, hU _ ts18⟩ (pw_preV hw Ta0 (by decide) rfl) rfl rfl hl.1 rfl (lv_room (Nat.le_of_ble_eq_true rfl)) dX2_inputNamed_69 ⟨Nat.zero_le _, Nat.zero_le _⟩) hw (fun H locs hw hx40 hz41 => ?_)
              have Ta0 : TY S_37 a0 10 := ty_ext hx40 Ta0
              have hE : Ext S0 S_37 := Ext.tr hE hx40
              refine lv_if_eq (tgt := 80) hx hb dX2_inputNamed_72 (by decide) (fun h42 => ?_) (fun h42 => ?_)
              · rw [if_pos h42] at hm
                refine lv_iconst (v := (-1)) hx hb dX2_inputNamed_80 (by decide) ?_
                cases hm
                exact pw_iret hx hb hr rfl hlk hw hE dX2_inputNamed_81
              · rw [if_neg h42] at hm
                refine lv_bipush (v := 6) hx hb dX2_inputNamed_75 (by decide) ?_
                refine lv_goto (tgt := 81) hx hb dX2_inputNamed_77 (by decide) ?_
                cases hm
                exact pw_iret hx hb hr rfl hlk hw hE dX2_inputNamed_81
            · rw [if_neg h36] at hm
              refine lv_iconst (v := 5) hx hb dX2_inputNamed_64 (by decide) ?_
              cases hm
              exact pw_iret hx hb hr rfl hlk hw hE dX2_inputNamed_65
          · rw [if_neg h30] at hm
            refine lv_iconst (v := 4) hx hb dX2_inputNamed_53 (by decide) ?_
            cases hm
            exact pw_iret hx hb hr rfl hlk hw hE dX2_inputNamed_54
        · rw [if_neg h24] at hm
          refine lv_iconst (v := 3) hx hb dX2_inputNamed_42 (by decide) ?_
          cases hm
          exact pw_iret hx hb hr rfl hlk hw hE dX2_inputNamed_43
      · rw [if_neg h18] at hm
        refine lv_iconst (v := 2) hx hb dX2_inputNamed_31 (by decide) ?_
        cases hm
        exact pw_iret hx hb hr rfl hlk hw hE dX2_inputNamed_32
    · rw [if_neg h12] at hm
      refine lv_iconst (v := 1) hx hb dX2_inputNamed_20 (by decide) ?_
      cases hm
      exact pw_iret hx hb hr rfl hlk hw hE dX2_inputNamed_21
  · rw [if_neg h6] at hm
    refine lv_iconst (v := 0) hx hb dX2_inputNamed_9 (by decide) ?_
    cases hm
    exact pw_iret hx hb hr rfl hlk hw hE dX2_inputNamed_10
abbrev rm_X2_value : Room := { frames := 2, cells := 0, slots := 0, locals := 62 }
def b_X2_value_178 (n : Nat) (k44 : Nat → Int32 → pq_S → Option (Int32 × pq_S)) (a0 : Nat) (x7 : Int32) (S : pq_S) : Option (Int32 × pq_S) := k44 a0 (x7 + 1) S
set_option maxHeartbeats 4000000 in
set_option maxRecDepth 100000 in
theorem wb_X2_value_178 {p : Program} {l : Launch} {e : Env} {s : State} {m : MethodId} {args : Array Value} {below : List Frame} {meth : Method} {c : Code} (cx : Cx p s m args meth c cX2_value 10 RX2 (some .int)) (C : pq_C) (X : va_W) (S0 : pq_S) (n : Nat) (r : Int32) (S1 : pq_S) (k44 : Nat → Int32 → pq_S → Option (Int32 × pq_S)) (hk44 : ∀ (a0 : Nat) (x7 : Int32) (S : pq_S) (H : Heap) (locs : List Loc) (ls : Array Slot), PW C X S (pq_F C X S0 s.heap.size) H locs s → Ext S0 S → TY S a0 2 → lv_has ls 10 [(0, .ref a0), (7, .int x7)] → k44 a0 x7 S = some (r, S1) → W p l e rm_X2_value s m args below meth c H locs 0 0 (MQ below (QcI C X S0 s.heap.size r S1) args s 0 0 (pq_F C X S0 s.heap.size)) (F0 m 68 ls [])) : ∀ (a0 : Nat) (x7 : Int32) (S : pq_S) (H : Heap) (locs : List Loc) (ls : Array Slot), PW C X S (pq_F C X S0 s.heap.size) H locs s → Ext S0 S → TY S a0 2 → lv_has ls 10 [(0, .ref a0), (7, .int x7)] → b_X2_value_178 n k44 a0 x7 S = some (r, S1) → W p l e rm_X2_value s m args below meth c H locs 0 0 (MQ below (QcI C X S0 s.heap.size r S1) args s 0 0 (pq_F C X S0 s.heap.size)) (F0 m 178 ls []) := by
  obtain ⟨hx, hb, hml, hown, hU, hr, hlk⟩ := id cx
  intro a0 x7 S H locs ls hw hE Ta0 hl hm
  rw [b_X2_value_178] at hm
  refine lv_iinc (v := (x7 + 1)) (lv' := [(7, .int (x7 + 1)), (0, .ref a0)]) hx hb dX2_value_178 hl (k := 1) rfl rfl (by decide) rfl (fun ls hl => ?_)
  refine lv_goto (tgt := 68) hx hb dX2_value_181 (by decide) ?_
  exact hk44 a0 (x7 + 1) S _ _ _ hw hE Ta0 (lv_sub hl [1, 0] rfl) hm
def b_X2_value_184 (n : Nat) (a0 : Nat) (S : pq_S) : Option (Int32 × pq_S) := cb (m_X2_pop n a0 S) fun r52 S_50 => some (r52, S_50)
set_option maxHeartbeats 4000000 in
set_option maxRecDepth 100000 in
theorem wb_X2_value_184 {p : Program} {l : Launch} {e : Env} {s : State} {m : MethodId} {args : Array Value} {below : List Frame} {meth : Method} {c : Code} (cx : Cx p s m args meth c cX2_value 10 RX2 (some .int)) (C : pq_C) (X : va_W) (S0 : pq_S) (n : Nat) (r : Int32) (S1 : pq_S) : ∀ (a0 : Nat) (S : pq_S) (H : Heap) (locs : List Loc) (ls : Array Slot), PW C X S (pq_F C X S0 s.heap.size) H locs s → Ext S0 S → TY S a0 2 → lv_has ls 10 [(0, .ref a0)] → b_X2_value_184 n a0 S = some (r, S1) → W p l e rm_X2_value s m args below meth c H locs 0 0 (MQ below (QcI C X S0 s.heap.size r S1) args s 0 0 (pq_F C X S0 s.heap.size)) (F0 m 184 ls []) := by
  obtain ⟨hx, hb, hml, hown, hU, hr, hlk⟩ := id cx
  intro a0 S H locs ls hw hE Ta0 hl hm
  rw [b_X2_value_184] at hm
  refine lv_aload_n hx hb dX2_value_184 rfl (lv_at hl 0 rfl) ?_
  obtain ⟨r52, S_50, hq51, hm⟩ := cb_some hm
  refine pw_ci (va_runV (As := []) (rest := []) ⟨hx, hb, hml, hown, hU⟩ (c_X2_pop l C X n S hw.wf _ a0 (Ta0) r52 S_50 hq51) (cwV 0 hU (pq_gV tw885 tw887 ts58 tw7 tc_X2_pop) rfl rfl rfl cd_X2_pop ⟨Nat.le_of_ble_eq_true rfl, Nat.le_of_ble_eq_true rfl⟩) (pw_preV hw Ta0 (by decide) rfl) rfl rfl hl.1 rfl (lv_room (Nat.le_of_ble_eq_true rfl)) dX2_value_185 ⟨Nat.zero_le _, Nat.zero_le _⟩) hw (fun H locs hw hx53 => ?_)
  have Ta0 : TY S_50 a0 2 := ty_ext hx53 Ta0
  have hE : Ext S0 S_50 := Ext.tr hE hx53
  cases hm
  exact pw_iret hx hb hr rfl hlk hw hE dX2_value_188
def b_X2_value_151 (n : Nat) (k44 : Nat → Int32 → pq_S → Option (Int32 × pq_S)) (a0 : Nat) (x7 : Int32) (b0 : Nat) (z1 : Int32) (S : pq_S) : Option (Int32 × pq_S) := Option.bind (m_X2_push n b0 z1 S) fun S_47 => b_X2_value_178 n k44 a0 x7 S_47
set_option maxHeartbeats 4000000 in
set_option maxRecDepth 100000 in
theorem wb_X2_value_151 {p : Program} {l : Launch} {e : Env} {s : State} {m : MethodId} {args : Array Value} {below : List Frame} {meth : Method} {c : Code} (cx : Cx p s m args meth c cX2_value 10 RX2 (some .int)) (C : pq_C) (X : va_W) (S0 : pq_S) (n : Nat) (r : Int32) (S1 : pq_S) (k44 : Nat → Int32 → pq_S → Option (Int32 × pq_S)) (hk44 : ∀ (a0 : Nat) (x7 : Int32) (S : pq_S) (H : Heap) (locs : List Loc) (ls : Array Slot), PW C X S (pq_F C X S0 s.heap.size) H locs s → Ext S0 S → TY S a0 2 → lv_has ls 10 [(0, .ref a0), (7, .int x7)] → k44 a0 x7 S = some (r, S1) → W p l e rm_X2_value s m args below meth c H locs 0 0 (MQ below (QcI C X S0 s.heap.size r S1) args s 0 0 (pq_F C X S0 s.heap.size)) (F0 m 68 ls [])) : ∀ (a0 : Nat) (x7 : Int32) (b0 : Nat) (z1 : Int32) (S : pq_S) (H : Heap) (locs : List Loc) (ls : Array Slot), PW C X S (pq_F C X S0 s.heap.size) H locs s → Ext S0 S → TY S a0 2 → TY S b0 2 → lv_has ls 10 [(0, .ref a0), (7, .int x7)] → b_X2_value_151 n k44 a0 x7 b0 z1 S = some (r, S1) → W p l e rm_X2_value s m args below meth c H locs 0 0 (MQ below (QcI C X S0 s.heap.size r S1) args s 0 0 (pq_F C X S0 s.heap.size)) (F0 m 151 ls [.int z1, .ref b0]) := by
  obtain ⟨hx, hb, hml, hown, hU, hr, hlk⟩ := id cx
  intro a0 x7 b0 z1 S H locs ls hw hE Ta0 Tb0 hl hm
  rw [b_X2_value_151] at hm
  obtain ⟨S_47, hq48, hm⟩ := bd_some hm
  refine pw_cv (va_runV (As := [.int z1]) (rest := []) ⟨hx, hb, hml, hown, hU⟩ (c_X2_push l C X n S hw.wf _ b0 z1 (Tb0) S_47 hq48) (cwV 1 hU (pq_gV tw881 tw883 ts57 tw7 tc_X2_push) rfl rfl rfl cd_X2_push ⟨Nat.le_of_ble_eq_true rfl, Nat.le_of_ble_eq_true rfl⟩) (pw_preV hw Tb0 (by decide) rfl) rfl rfl hl.1 rfl (lv_room (Nat.le_of_ble_eq_true rfl)) dX2_value_151 ⟨Nat.zero_le _, Nat.zero_le _⟩) hw (fun H locs hw hx49 => ?_)
  have Ta0 : TY S_47 a0 2 := ty_ext hx49 Ta0
  have hE : Ext S0 S_47 := Ext.tr hE hx49
  refine lv_goto (tgt := 178) hx hb dX2_value_154 (by decide) ?_
  exact wb_X2_value_178 cx C X S0 n r S1 _ hk44 a0 x7 S_47 _ _ _ hw hE Ta0 (lv_sub hl [0, 1] rfl) hm
def b_X2_value_68 (n : Nat) : Nat → Nat → Int32 → pq_S → Option (Int32 × pq_S)
  | 0, _, _, _ => none
  | f + 1, a0, x7, S => if (pI S 203 a0) ≤ x7 then b_X2_value_184 n a0 S else Option.bind (pR S 200 a0) fun q19 => if (Int32.ofNat (pN S q19)) ≤ x7 then b_X2_value_184 n a0 S else Option.bind (pR S 200 a0) fun q21 => ck (ix x7 (pN S q21)) (dix _ _) (if 1000 ≤ (pA S q21 (Int32.toNatClampNeg x7)) then if 2000 ≤ (pA S q21 (Int32.toNatClampNeg x7)) then cb (m_X2_pop n a0 S) fun r27 S_25 => cb (m_X2_pop n a0 S_25) fun r31 S_29 => cb (m_X2_joined n (pA S q21 (Int32.toNatClampNeg x7)) r31 r27 S_29) fun r35 S_33 => Option.bind (m_X2_push n a0 r35 S_33) fun S_37 => b_X2_value_178 n (b_X2_value_68 n f) a0 x7 S_37 else Option.bind (pR S 201 a0) fun q40 => if (Int32.ofNat (pN S q40)) ≤ ((pA S q21 (Int32.toNatClampNeg x7)) - (1000 : Int32)) then b_X2_value_151 n (b_X2_value_68 n f) a0 x7 a0 0 S else Option.bind (pR S 201 a0) fun q42 => ck (ix ((pA S q21 (Int32.toNatClampNeg x7)) - (1000 : Int32)) (pN S q42)) (dix _ _) (b_X2_value_151 n (b_X2_value_68 n f) a0 x7 a0 (pA S q42 (Int32.toNatClampNeg ((pA S q21 (Int32.toNatClampNeg x7)) - (1000 : Int32)))) S) else Option.bind (m_X2_push n a0 (pA S q21 (Int32.toNatClampNeg x7)) S) fun S_44 => b_X2_value_178 n (b_X2_value_68 n f) a0 x7 S_44)
set_option maxHeartbeats 4000000 in
set_option maxRecDepth 100000 in
theorem wb_X2_value_68 {p : Program} {l : Launch} {e : Env} {s : State} {m : MethodId} {args : Array Value} {below : List Frame} {meth : Method} {c : Code} (cx : Cx p s m args meth c cX2_value 10 RX2 (some .int)) (C : pq_C) (X : va_W) (S0 : pq_S) (n : Nat) (r : Int32) (S1 : pq_S) : ∀ (f : Nat) (a0 : Nat) (x7 : Int32) (S : pq_S) (H : Heap) (locs : List Loc) (ls : Array Slot), PW C X S (pq_F C X S0 s.heap.size) H locs s → Ext S0 S → TY S a0 2 → lv_has ls 10 [(0, .ref a0), (7, .int x7)] → b_X2_value_68 n f a0 x7 S = some (r, S1) → W p l e rm_X2_value s m args below meth c H locs 0 0 (MQ below (QcI C X S0 s.heap.size r S1) args s 0 0 (pq_F C X S0 s.heap.size)) (F0 m 68 ls []) := by
  obtain ⟨hx, hb, hml, hown, hU, hr, hlk⟩ := id cx
  intro f
  induction f with
  | zero =>
    intro a0 x7 S H locs ls hw hE Ta0 hl hm
    cases hm
  | succ f ih =>
    intro a0 x7 S H locs ls hw hE Ta0 hl hm
    rw [b_X2_value_68] at hm
    refine lv_iload hx hb dX2_value_68 (lv_at hl 1 rfl) ?_
    refine lv_aload_n hx hb dX2_value_70 rfl (lv_at hl 0 rfl) ?_
    refine pg_i (k := 2) (j := 3) (f := 203) hx hb hown hU iu2 hw Ta0 (by decide) rfl (hU _ tw191) rfl dX2_value_71 ?_
    refine lv_icmp_ge (tgt := 184) hx hb dX2_value_74 (by decide) (fun h18 => ?_) (fun h18 => ?_)
    · rw [if_pos h18] at hm
      exact wb_X2_value_184 cx C X S0 n r S1 a0 S _ _ _ hw hE Ta0 (lv_sub hl [0] rfl) hm
    · rw [if_neg h18] at hm
      refine lv_iload hx hb dX2_value_77 (lv_at hl 1 rfl) ?_
      refine lv_aload_n hx hb dX2_value_79 rfl (lv_at hl 0 rfl) ?_
      obtain ⟨q19, hq19, hm⟩ := bd_some hm
      have Tq19 : TY S q19 14 := hw.wf.ref (k := 2) (j := 0) Ta0 (by decide) (by decide) hq19
      refine pg_rb (k := 2) (j := 0) (f := 200) hx hb hown hU iu2 hw Ta0 (by decide) rfl (hU _ tw188) rfl hq19 dX2_value_80 ?_
      refine pw_alenI (v := (Int32.ofNat (pN S q19))) hx hb hw Tq19 rfl dX2_value_83 ?_
      refine lv_icmp_ge (tgt := 184) hx hb dX2_value_84 (by decide) (fun h20 => ?_) (fun h20 => ?_)
      · rw [if_pos h20] at hm
        exact wb_X2_value_184 cx C X S0 n r S1 a0 S _ _ _ hw hE Ta0 (lv_sub hl [0] rfl) hm
      · rw [if_neg h20] at hm
        refine lv_aload_n hx hb dX2_value_87 rfl (lv_at hl 0 rfl) ?_
        obtain ⟨q21, hq21, hm⟩ := bd_some hm
        have Tq21 : TY S q21 14 := hw.wf.ref (k := 2) (j := 0) Ta0 (by decide) (by decide) hq21
        refine pg_rb (k := 2) (j := 0) (f := 200) hx hb hown hU iu2 hw Ta0 (by decide) rfl (hU _ tw188) rfl hq21 dX2_value_88 ?_
        refine lv_iload hx hb dX2_value_91 (lv_at hl 1 rfl) ?_
        obtain ⟨hi22, hm⟩ := ck_some hm
        refine pw_iald hx hb hw Tq21 hi22 dX2_value_93 ?_
        refine lv_istore (lv' := [(8, .int (pA S q21 (Int32.toNatClampNeg x7))), (0, .ref a0), (7, .int x7)]) hx hb dX2_value_94 hl (by decide) rfl (fun ls hl => ?_)
        refine lv_iload hx hb dX2_value_96 (lv_at hl 0 rfl) ?_
        refine lv_sipush (v := 1000) hx hb dX2_value_98 (by decide) ?_
        refine lv_icmp_ge (tgt := 113) hx hb dX2_value_101 (by decide) (fun h23 => ?_) (fun h23 => ?_)
        · rw [if_pos h23] at hm
          refine lv_iload hx hb dX2_value_113 (lv_at hl 0 rfl) ?_
          refine lv_sipush (v := 2000) hx hb dX2_value_115 (by decide) ?_
          refine lv_icmp_ge (tgt := 157) hx hb dX2_value_118 (by decide) (fun h24 => ?_) (fun h24 => ?_)
          · rw [if_pos h24] at hm
            refine lv_aload_n hx hb dX2_value_157 rfl (lv_at hl 1 rfl) ?_
            obtain ⟨r27, S_25, hq26, hm⟩ := cb_some hm
            refine pw_ci (va_runV (As := []) (rest := []) ⟨hx, hb, hml, hown, hU⟩ (c_X2_pop l C X n S hw.wf _ a0 (Ta0) r27 S_25 hq26) (cwV 0 hU (pq_gV tw885 tw887 ts58 tw7 tc_X2_pop) rfl rfl rfl cd_X2_pop ⟨Nat.le_of_ble_eq_true rfl, Nat.le_of_ble_eq_true rfl⟩) (pw_preV hw Ta0 (by decide) rfl) rfl rfl hl.1 rfl (lv_room (Nat.le_of_ble_eq_true rfl)) dX2_value_158 ⟨Nat.zero_le _, Nat.zero_le _⟩) hw (fun H locs hw hx28 => ?_)
            have Ta0 : TY S_25 a0 2 := ty_ext hx28 Ta0
            have hE : Ext S0 S_25 := Ext.tr hE hx28
            refine lv_istore (lv' := [(9, .int r27), (8, .int (pA S q21 (Int32.toNatClampNeg x7))), (0, .ref a0), (7, .int x7)]) hx hb dX2_value_161 hl (by decide) rfl (fun ls hl => ?_)
            refine lv_aload_n hx hb dX2_value_163 rfl (lv_at hl 2 rfl) ?_
            refine lv_iload hx hb dX2_value_164 (lv_at hl 1 rfl) ?_
            refine lv_aload_n hx hb dX2_value_166 rfl (lv_at hl 2 rfl) ?_
            obtain ⟨r31, S_29, hq30, hm⟩ := cb_some hm
            refine pw_ci (va_runV (As := []) (rest := [.int (pA S q21 (Int32.toNatClampNeg x7)), .ref a0]) ⟨hx, hb, hml, hown, hU⟩ (c_X2_pop l C X n S_25 hw.wf _ a0 (Ta0) r31 S_29 hq30) (cwV 0 hU (pq_gV tw885 tw887 ts58 tw7 tc_X2_pop) rfl rfl rfl cd_X2_pop ⟨Nat.le_of_ble_eq_true rfl, Nat.le_of_ble_eq_true rfl⟩) (pw_preV hw Ta0 (by decide) rfl) rfl rfl hl.1 rfl (lv_room (Nat.le_of_ble_eq_true rfl)) dX2_value_167 ⟨Nat.zero_le _, Nat.zero_le _⟩) hw (fun H locs hw hx32 => ?_)
            have Ta0 : TY S_29 a0 2 := ty_ext hx32 Ta0
            have hE : Ext S0 S_29 := Ext.tr hE hx32
            refine lv_iload hx hb dX2_value_170 (lv_at hl 0 rfl) ?_
            obtain ⟨r35, S_33, hq34, hm⟩ := cb_some hm
            refine pw_ci (va_runS (As := [.int (pA S q21 (Int32.toNatClampNeg x7)), .int r31, .int r27]) (rest := [.ref a0]) ⟨hx, hb, hml, hown, hU⟩ (c_X2_joined l C X n S_29 hw.wf _ (pA S q21 (Int32.toNatClampNeg x7)) r31 r27  r35 S_33 hq34) ⟨callB_of 3 hU (pq_g1 tc_X2_joined) rfl rfl rfl (hU _ tw7) (hU _ tw889) cd_X2_joined.2 ⟨Nat.le_of_ble_eq_true rfl, Nat.le_of_ble_eq_true rfl⟩, hU _ tw890⟩ (pw_preS hw) rfl rfl hl.1 rfl (lv_room (Nat.le_of_ble_eq_true rfl)) dX2_value_172 ⟨Nat.zero_le _, Nat.zero_le _⟩) hw (fun H locs hw hx36 => ?_)
            have Ta0 : TY S_33 a0 2 := ty_ext hx36 Ta0
            have hE : Ext S0 S_33 := Ext.tr hE hx36
            obtain ⟨S_37, hq38, hm⟩ := bd_some hm
            refine pw_cv (va_runV (As := [.int r35]) (rest := []) ⟨hx, hb, hml, hown, hU⟩ (c_X2_push l C X n S_33 hw.wf _ a0 r35 (Ta0) S_37 hq38) (cwV 1 hU (pq_gV tw881 tw883 ts57 tw7 tc_X2_push) rfl rfl rfl cd_X2_push ⟨Nat.le_of_ble_eq_true rfl, Nat.le_of_ble_eq_true rfl⟩) (pw_preV hw Ta0 (by decide) rfl) rfl rfl hl.1 rfl (lv_room (Nat.le_of_ble_eq_true rfl)) dX2_value_175 ⟨Nat.zero_le _, Nat.zero_le _⟩) hw (fun H locs hw hx39 => ?_)
            have Ta0 : TY S_37 a0 2 := ty_ext hx39 Ta0
            have hE : Ext S0 S_37 := Ext.tr hE hx39
            exact wb_X2_value_178 cx C X S0 n r S1 _ ih a0 x7 S_37 _ _ _ hw hE Ta0 (lv_sub hl [2, 3] rfl) hm
          · rw [if_neg h24] at hm
            refine lv_aload_n hx hb dX2_value_121 rfl (lv_at hl 1 rfl) ?_
            refine lv_iload hx hb dX2_value_122 (lv_at hl 0 rfl) ?_
            refine lv_sipush (v := 1000) hx hb dX2_value_124 (by decide) ?_
            refine lv_isub hx hb dX2_value_127 ?_
            refine lv_aload_n hx hb dX2_value_128 rfl (lv_at hl 1 rfl) ?_
            obtain ⟨q40, hq40, hm⟩ := bd_some hm
            have Tq40 : TY S q40 14 := hw.wf.ref (k := 2) (j := 1) Ta0 (by decide) (by decide) hq40
            refine pg_rb (k := 2) (j := 1) (f := 201) hx hb hown hU iu2 hw Ta0 (by decide) rfl (hU _ tw189) rfl hq40 dX2_value_129 ?_
            refine pw_alenI (v := (Int32.ofNat (pN S q40))) hx hb hw Tq40 rfl dX2_value_132 ?_
            refine lv_icmp_ge (tgt := 150) hx hb dX2_value_133 (by decide) (fun h41 => ?_) (fun h41 => ?_)
            · rw [if_pos h41] at hm
              refine lv_iconst (v := 0) hx hb dX2_value_150 (by decide) ?_
              exact wb_X2_value_151 cx C X S0 n r S1 _ ih a0 x7 a0 0 S _ _ _ hw hE Ta0 Ta0 (lv_sub hl [1, 2] rfl) hm
            · rw [if_neg h41] at hm
              refine lv_aload_n hx hb dX2_value_136 rfl (lv_at hl 1 rfl) ?_
              obtain ⟨q42, hq42, hm⟩ := bd_some hm
              have Tq42 : TY S q42 14 := hw.wf.ref (k := 2) (j := 1) Ta0 (by decide) (by decide) hq42
              refine pg_rb (k := 2) (j := 1) (f := 201) hx hb hown hU iu2 hw Ta0 (by decide) rfl (hU _ tw189) rfl hq42 dX2_value_137 ?_
              refine lv_iload hx hb dX2_value_140 (lv_at hl 0 rfl) ?_
              refine lv_sipush (v := 1000) hx hb dX2_value_142 (by decide) ?_
              refine lv_isub hx hb dX2_value_145 ?_
              obtain ⟨hi43, hm⟩ := ck_some hm
              refine pw_iald hx hb hw Tq42 hi43 dX2_value_146 ?_
              refine lv_goto (tgt := 151) hx hb dX2_value_147 (by decide) ?_
              exact wb_X2_value_151 cx C X S0 n r S1 _ ih a0 x7 a0 (pA S q42 (Int32.toNatClampNeg ((pA S q21 (Int32.toNatClampNeg x7)) - (1000 : Int32)))) S _ _ _ hw hE Ta0 Ta0 (lv_sub hl [1, 2] rfl) hm
        · rw [if_neg h23] at hm
          refine lv_aload_n hx hb dX2_value_104 rfl (lv_at hl 1 rfl) ?_
          refine lv_iload hx hb dX2_value_105 (lv_at hl 0 rfl) ?_
          obtain ⟨S_44, hq45, hm⟩ := bd_some hm
          refine pw_cv (va_runV (As := [.int (pA S q21 (Int32.toNatClampNeg x7))]) (rest := []) ⟨hx, hb, hml, hown, hU⟩ (c_X2_push l C X n S hw.wf _ a0 (pA S q21 (Int32.toNatClampNeg x7)) (Ta0) S_44 hq45) (cwV 1 hU (pq_gV tw881 tw883 ts57 tw7 tc_X2_push) rfl rfl rfl cd_X2_push ⟨Nat.le_of_ble_eq_true rfl, Nat.le_of_ble_eq_true rfl⟩) (pw_preV hw Ta0 (by decide) rfl) rfl rfl hl.1 rfl (lv_room (Nat.le_of_ble_eq_true rfl)) dX2_value_107 ⟨Nat.zero_le _, Nat.zero_le _⟩) hw (fun H locs hw hx46 => ?_)
          have Ta0 : TY S_44 a0 2 := ty_ext hx46 Ta0
          have hE : Ext S0 S_44 := Ext.tr hE hx46
          refine lv_goto (tgt := 178) hx hb dX2_value_110 (by decide) ?_
          exact wb_X2_value_178 cx C X S0 n r S1 _ ih a0 x7 S_44 _ _ _ hw hE Ta0 (lv_sub hl [1, 2] rfl) hm
def m_X2_value (n : Nat) (a0 : Nat) (x1 : Int32) (x2 : Int32) (x3 : Int32) (x4 : Int32) (x5 : Int32) (x6 : Int32) (S0 : pq_S) : Option (Int32 × pq_S) := Option.bind (pR S0 201 a0) fun q1 => ck (ix 0 (pN S0 q1)) (dix _ _) (Option.bind (pR (sA S0 q1 (Int32.toNatClampNeg 0) x1) 201 a0) fun q3 => ck (ix 1 (pN (sA S0 q1 (Int32.toNatClampNeg 0) x1) q3)) (dix _ _) (lt_ (sA (sA S0 q1 (Int32.toNatClampNeg 0) x1) q3 (Int32.toNatClampNeg 1) x2) fun S_5 => Option.bind (pR S_5 201 a0) fun q6 => ck (ix 2 (pN S_5 q6)) (dix _ _) (Option.bind (pR (sA S_5 q6 (Int32.toNatClampNeg 2) x3) 201 a0) fun q8 => ck (ix 3 (pN (sA S_5 q6 (Int32.toNatClampNeg 2) x3) q8)) (dix _ _) (lt_ (sA (sA S_5 q6 (Int32.toNatClampNeg 2) x3) q8 (Int32.toNatClampNeg 3) x4) fun S_10 => Option.bind (pR S_10 201 a0) fun q11 => ck (ix 4 (pN S_10 q11)) (dix _ _) (Option.bind (pR (sA S_10 q11 (Int32.toNatClampNeg 4) x5) 201 a0) fun q13 => ck (ix 5 (pN (sA S_10 q11 (Int32.toNatClampNeg 4) x5) q13)) (dix _ _) (lt_ (sA (sA S_10 q11 (Int32.toNatClampNeg 4) x5) q13 (Int32.toNatClampNeg 5) (x6 - x6 / 12 * 12)) fun S_15 => Option.bind (pR S_15 201 a0) fun q16 => ck (ix 6 (pN S_15 q16)) (dix _ _) (b_X2_value_68 n n a0 0 (sI (sA S_15 q16 (Int32.toNatClampNeg 6) (x6 / 12)) 204 a0 0))))))))
theorem tc_X2_value : Cond.code yX2_value cX2_value 10 (some .int) ∈ pq_U := tw880
theorem cd_X2_value : yX2_value.cls = RX2 ∧ yX2_value.cls ≠ "java/lang/invoke/MethodHandle" ∧ yX2_value.cls ≠ "java/lang/invoke/VarHandle" ∧ (parseMethodDescriptor yX2_value.desc).map (fun d => d.parameters.length) = some 6 := by decide +kernel
set_option maxHeartbeats 4000000 in
set_option maxRecDepth 100000 in
theorem c_X2_value (l : Launch) (C : pq_C) (X : va_W) (n : Nat) (S0 : pq_S) (hF : WF S0) (sz : Nat) (a0 : Nat) (x1 : Int32) (x2 : Int32) (x3 : Int32) (x4 : Int32) (x5 : Int32) (x6 : Int32) (Ta0 : TY S0 a0 2) (r : Int32) (S1 : pq_S) (hm : m_X2_value n a0 x1 x2 x3 x4 x5 x6 S0 = some (r, S1)) : MI l yX2_value (.code yX2_value cX2_value 10 (some .int) :: pq_U) rm_X2_value C X S0 sz [.ref a0, .int x1, .int x2, .int x3, .int x4, .int x5, .int x6] r S1 0 0 := by
  refine Met.ofW (cc := cX2_value) (maxL := 10) (ret := (some .int)) (by decide) rfl ?_
  intro p e s m args below meth c s₁ B hml hv
  obtain ⟨rfl, hv⟩ := hv
  have hsz := hv.1
  subst hsz
  have hw := pw_entry hF hv
  have hts := atoms_spec (ws := .code yX2_value cX2_value 10 (some .int) :: pq_U) B.pre
  have hU : ∀ w ∈ pq_U, w.before _ s = true := fun w h => hts w (List.mem_cons_of_mem _ h)
  have hx := B.exec
  have hb := B.bytes
  have hr := B.returns
  have hown : s.vm.findClass RX2 = some m.cls := findClass_of_methodNamed B.named
  have hlk := B.notSynchronized
  have hl := lv_entry ([.ref a0, .int x1, .int x2, .int x3, .int x4, .int x5, .int x6]) (n := 10) (Nat.le_of_ble_eq_true rfl)
  rw [lg_entry_eq]
  generalize (lg_sl ([.ref a0, .int x1, .int x2, .int x3, .int x4, .int x5, .int x6]) ++ List.replicate (10 - (lg_sl ([.ref a0, .int x1, .int x2, .int x3, .int x4, .int x5, .int x6])).length) Slot.unset).toArray = ls at hl ⊢
  have hl : lv_has ls 10 [(0, .ref a0), (1, .int x1), (2, .int x2), (3, .int x3), (4, .int x4), (5, .int x5), (6, .int x6)] := hl
  have hE : Ext S0 S0 := Ext.rf _
  have cx : Cx p s m _ meth c cX2_value 10 RX2 (some .int) := ⟨hx, hb, hml, hown, hU, hr, hlk⟩
  rw [m_X2_value] at hm
  refine lv_aload_n hx hb dX2_value_0 rfl (lv_at hl 0 rfl) ?_
  obtain ⟨q1, hq1, hm⟩ := bd_some hm
  have Tq1 : TY S0 q1 14 := hw.wf.ref (k := 2) (j := 1) Ta0 (by decide) (by decide) hq1
  refine pg_rb (k := 2) (j := 1) (f := 201) hx hb hown hU iu2 hw Ta0 (by decide) rfl (hU _ tw189) rfl hq1 dX2_value_1 ?_
  refine lv_iconst (v := 0) hx hb dX2_value_4 (by decide) ?_
  refine lv_iload_n hx hb dX2_value_5 rfl (lv_at hl 1 rfl) ?_
  obtain ⟨hi2, hm⟩ := ck_some hm
  refine pw_iast hx hb hw Tq1 hi2 dX2_value_6 (fun H locs hw => ?_)
  refine lv_aload_n hx hb dX2_value_7 rfl (lv_at hl 0 rfl) ?_
  obtain ⟨q3, hq3, hm⟩ := bd_some hm
  have Tq3 : TY (sA S0 q1 (Int32.toNatClampNeg 0) x1) q3 14 := hw.wf.ref (k := 2) (j := 1) Ta0 (by decide) (by decide) hq3
  refine pg_rb (k := 2) (j := 1) (f := 201) hx hb hown hU iu2 hw Ta0 (by decide) rfl (hU _ tw189) rfl hq3 dX2_value_8 ?_
  refine lv_iconst (v := 1) hx hb dX2_value_11 (by decide) ?_
  refine lv_iload_n hx hb dX2_value_12 rfl (lv_at hl 2 rfl) ?_
  obtain ⟨hi4, hm⟩ := ck_some hm
  refine pw_iast hx hb hw Tq3 hi4 dX2_value_13 (fun H locs hw => ?_)
  obtain ⟨S_5, eS_5, hm⟩ := lt_some hm
  rw [← eS_5] at hw
  have Ta0 : TY S_5 a0 2 := by rw [eS_5]; exact Ta0
  have hE : Ext S0 S_5 := by rw [eS_5]; exact hE
  refine lv_aload_n hx hb dX2_value_14 rfl (lv_at hl 0 rfl) ?_
  obtain ⟨q6, hq6, hm⟩ := bd_some hm
  have Tq6 : TY S_5 q6 14 := hw.wf.ref (k := 2) (j := 1) Ta0 (by decide) (by decide) hq6
  refine pg_rb (k := 2) (j := 1) (f := 201) hx hb hown hU iu2 hw Ta0 (by decide) rfl (hU _ tw189) rfl hq6 dX2_value_15 ?_
  refine lv_iconst (v := 2) hx hb dX2_value_18 (by decide) ?_
  refine lv_iload_n hx hb dX2_value_19 rfl (lv_at hl 3 rfl) ?_
  obtain ⟨hi7, hm⟩ := ck_some hm
  refine pw_iast hx hb hw Tq6 hi7 dX2_value_20 (fun H locs hw => ?_)
  refine lv_aload_n hx hb dX2_value_21 rfl (lv_at hl 0 rfl) ?_
  obtain ⟨q8, hq8, hm⟩ := bd_some hm
  have Tq8 : TY (sA S_5 q6 (Int32.toNatClampNeg 2) x3) q8 14 := hw.wf.ref (k := 2) (j := 1) Ta0 (by decide) (by decide) hq8
  refine pg_rb (k := 2) (j := 1) (f := 201) hx hb hown hU iu2 hw Ta0 (by decide) rfl (hU _ tw189) rfl hq8 dX2_value_22 ?_
  refine lv_iconst (v := 3) hx hb dX2_value_25 (by decide) ?_
  refine lv_iload hx hb dX2_value_26 (lv_at hl 4 rfl) ?_
  obtain ⟨hi9, hm⟩ := ck_some hm
  refine pw_iast hx hb hw Tq8 hi9 dX2_value_28 (fun H locs hw => ?_)
  obtain ⟨S_10, eS_10, hm⟩ := lt_some hm
  rw [← eS_10] at hw
  have Ta0 : TY S_10 a0 2 := by rw [eS_10]; exact Ta0
  have hE : Ext S0 S_10 := by rw [eS_10]; exact hE
  refine lv_aload_n hx hb dX2_value_29 rfl (lv_at hl 0 rfl) ?_
  obtain ⟨q11, hq11, hm⟩ := bd_some hm
  have Tq11 : TY S_10 q11 14 := hw.wf.ref (k := 2) (j := 1) Ta0 (by decide) (by decide) hq11
  refine pg_rb (k := 2) (j := 1) (f := 201) hx hb hown hU iu2 hw Ta0 (by decide) rfl (hU _ tw189) rfl hq11 dX2_value_30 ?_
  refine lv_iconst (v := 4) hx hb dX2_value_33 (by decide) ?_
  refine lv_iload hx hb dX2_value_34 (lv_at hl 5 rfl) ?_
  obtain ⟨hi12, hm⟩ := ck_some hm
  refine pw_iast hx hb hw Tq11 hi12 dX2_value_36 (fun H locs hw => ?_)
  refine lv_aload_n hx hb dX2_value_37 rfl (lv_at hl 0 rfl) ?_
  obtain ⟨q13, hq13, hm⟩ := bd_some hm
  have Tq13 : TY (sA S_10 q11 (Int32.toNatClampNeg 4) x5) q13 14 := hw.wf.ref (k := 2) (j := 1) Ta0 (by decide) (by decide) hq13
  refine pg_rb (k := 2) (j := 1) (f := 201) hx hb hown hU iu2 hw Ta0 (by decide) rfl (hU _ tw189) rfl hq13 dX2_value_38 ?_
  refine lv_iconst (v := 5) hx hb dX2_value_41 (by decide) ?_
  refine lv_iload hx hb dX2_value_42 (lv_at hl 6 rfl) ?_
  refine lv_bipush (v := 12) hx hb dX2_value_44 (by decide) ?_
  refine lv_irem hx hb dX2_value_46 (by decide) ?_
  obtain ⟨hi14, hm⟩ := ck_some hm
  refine pw_iast hx hb hw Tq13 hi14 dX2_value_47 (fun H locs hw => ?_)
  obtain ⟨S_15, eS_15, hm⟩ := lt_some hm
  rw [← eS_15] at hw
  have Ta0 : TY S_15 a0 2 := by rw [eS_15]; exact Ta0
  have hE : Ext S0 S_15 := by rw [eS_15]; exact hE
  refine lv_aload_n hx hb dX2_value_48 rfl (lv_at hl 0 rfl) ?_
  obtain ⟨q16, hq16, hm⟩ := bd_some hm
  have Tq16 : TY S_15 q16 14 := hw.wf.ref (k := 2) (j := 1) Ta0 (by decide) (by decide) hq16
  refine pg_rb (k := 2) (j := 1) (f := 201) hx hb hown hU iu2 hw Ta0 (by decide) rfl (hU _ tw189) rfl hq16 dX2_value_49 ?_
  refine lv_bipush (v := 6) hx hb dX2_value_52 (by decide) ?_
  refine lv_iload hx hb dX2_value_54 (lv_at hl 6 rfl) ?_
  refine lv_bipush (v := 12) hx hb dX2_value_56 (by decide) ?_
  refine lv_idiv hx hb dX2_value_58 (by decide) ?_
  obtain ⟨hi17, hm⟩ := ck_some hm
  refine pw_iast hx hb hw Tq16 hi17 dX2_value_59 (fun H locs hw => ?_)
  refine lv_aload_n hx hb dX2_value_60 rfl (lv_at hl 0 rfl) ?_
  refine lv_iconst (v := 0) hx hb dX2_value_61 (by decide) ?_
  refine pp_i (k := 2) (j := 4) (f := 204) hx hb hown hU iu2 tyX2_ok nmX2 hw Ta0 (by decide) rfl (hU _ tw193) rfl rfl rfl dX2_value_62 (fun H locs hw => ?_)
  refine lv_iconst (v := 0) hx hb dX2_value_65 (by decide) ?_
  refine lv_istore (lv' := [(7, .int 0), (0, .ref a0), (1, .int x1), (2, .int x2), (3, .int x3), (4, .int x4), (5, .int x5), (6, .int x6)]) hx hb dX2_value_66 hl (by decide) rfl (fun ls hl => ?_)
  exact wb_X2_value_68 cx C X S0 n r S1 n a0 0 (sI (sA S_15 q16 (Int32.toNatClampNeg 6) (x6 / 12)) 204 a0 0) _ _ _ hw hE Ta0 (lv_sub hl [1, 0] rfl) hm
abbrev rm_X4_gather : Room := { frames := 1, cells := 0, slots := 0, locals := 23 }
def b_X4_gather_75 (n : Nat) (k5 : Nat → Int32 → Int32 → pq_S → Option pq_S) (a0 : Nat) (x1 : Int32) (x2 : Int32) (S : pq_S) : Option pq_S := k5 a0 x1 (x2 + 1) S
set_option maxHeartbeats 4000000 in
set_option maxRecDepth 100000 in
theorem wb_X4_gather_75 {p : Program} {l : Launch} {e : Env} {s : State} {m : MethodId} {args : Array Value} {below : List Frame} {meth : Method} {c : Code} (cx : Cx p s m args meth c cX4_gather 3 RX4 none) (C : pq_C) (X : va_W) (S0 : pq_S) (n : Nat) (S1 : pq_S) (k5 : Nat → Int32 → Int32 → pq_S → Option pq_S) (hk5 : ∀ (a0 : Nat) (x1 : Int32) (x2 : Int32) (S : pq_S) (H : Heap) (locs : List Loc) (ls : Array Slot), PW C X S (pq_F C X S0 s.heap.size) H locs s → Ext S0 S → TY S a0 4 → lv_has ls 3 [(0, .ref a0), (1, .int x1), (2, .int x2)] → k5 a0 x1 x2 S = some S1 → W p l e rm_X4_gather s m args below meth c H locs 0 0 (MQ below (QcV C X S0 s.heap.size S1) args s 0 0 (pq_F C X S0 s.heap.size)) (F0 m 7 ls [])) : ∀ (a0 : Nat) (x1 : Int32) (x2 : Int32) (S : pq_S) (H : Heap) (locs : List Loc) (ls : Array Slot), PW C X S (pq_F C X S0 s.heap.size) H locs s → Ext S0 S → TY S a0 4 → lv_has ls 3 [(0, .ref a0), (1, .int x1), (2, .int x2)] → b_X4_gather_75 n k5 a0 x1 x2 S = some S1 → W p l e rm_X4_gather s m args below meth c H locs 0 0 (MQ below (QcV C X S0 s.heap.size S1) args s 0 0 (pq_F C X S0 s.heap.size)) (F0 m 75 ls []) := by
  obtain ⟨hx, hb, hml, hown, hU, hr, hlk⟩ := id cx
  intro a0 x1 x2 S H locs ls hw hE Ta0 hl hm
  rw [b_X4_gather_75] at hm
  refine lv_iinc (v := (x2 + 1)) (lv' := [(2, .int (x2 + 1)), (0, .ref a0), (1, .int x1)]) hx hb dX4_gather_75 hl (k := 2) rfl rfl (by decide) rfl (fun ls hl => ?_)
  refine lv_goto (tgt := 7) hx hb dX4_gather_78 (by decide) ?_
  exact hk5 a0 x1 (x2 + 1) S _ _ _ hw hE Ta0 (lv_sub hl [1, 2, 0] rfl) hm
def b_X4_gather_7 (n : Nat) : Nat → Nat → Int32 → Int32 → pq_S → Option pq_S
  | 0, _, _, _, _ => none
  | f + 1, a0, x1, x2, S => Option.bind (pR S 400 a0) fun q1 => Option.bind (pR S 700 q1) fun q2 => Option.bind (pR S 101 q2) fun q3 => if (pI S 902 q3) ≤ x2 then some S else Option.bind (pR S 400 a0) fun q5 => Option.bind (pR S 700 q5) fun q6 => Option.bind (pR S 101 q6) fun q7 => cb (m_X9_at n q7 x2 0 S) fun r10 S_8 => if r10 = x1 then Option.bind (pR S_8 401 a0) fun q13 => if (Int32.ofNat (pN S_8 q13)) ≤ (pI S_8 405 a0) then b_X4_gather_75 n (b_X4_gather_7 n f) a0 x1 x2 S_8 else Option.bind (pR S_8 401 a0) fun q15 => ck (ix (pI S_8 405 a0) (pN S_8 q15)) (dix _ _) (lt_ (sI (sA S_8 q15 (Int32.toNatClampNeg (pI S_8 405 a0)) x2) 405 a0 ((pI (sA S_8 q15 (Int32.toNatClampNeg (pI S_8 405 a0)) x2) 405 a0) + (1 : Int32))) fun S_17 => b_X4_gather_75 n (b_X4_gather_7 n f) a0 x1 x2 S_17) else b_X4_gather_75 n (b_X4_gather_7 n f) a0 x1 x2 S_8
set_option maxHeartbeats 4000000 in
set_option maxRecDepth 100000 in
theorem wb_X4_gather_7 {p : Program} {l : Launch} {e : Env} {s : State} {m : MethodId} {args : Array Value} {below : List Frame} {meth : Method} {c : Code} (cx : Cx p s m args meth c cX4_gather 3 RX4 none) (C : pq_C) (X : va_W) (S0 : pq_S) (n : Nat) (S1 : pq_S) : ∀ (f : Nat) (a0 : Nat) (x1 : Int32) (x2 : Int32) (S : pq_S) (H : Heap) (locs : List Loc) (ls : Array Slot), PW C X S (pq_F C X S0 s.heap.size) H locs s → Ext S0 S → TY S a0 4 → lv_has ls 3 [(0, .ref a0), (1, .int x1), (2, .int x2)] → b_X4_gather_7 n f a0 x1 x2 S = some S1 → W p l e rm_X4_gather s m args below meth c H locs 0 0 (MQ below (QcV C X S0 s.heap.size S1) args s 0 0 (pq_F C X S0 s.heap.size)) (F0 m 7 ls []) := by
  obtain ⟨hx, hb, hml, hown, hU, hr, hlk⟩ := id cx
  intro f
  induction f with
  | zero =>
    intro a0 x1 x2 S H locs ls hw hE Ta0 hl hm
    cases hm
  | succ f ih =>
    intro a0 x1 x2 S H locs ls hw hE Ta0 hl hm
    rw [b_X4_gather_7] at hm
    refine lv_iload_n hx hb dX4_gather_7 rfl (lv_at hl 2 rfl) ?_
    refine lv_aload_n hx hb dX4_gather_8 rfl (lv_at hl 0 rfl) ?_
    obtain ⟨q1, hq1, hm⟩ := bd_some hm
    have Tq1 : TY S q1 7 := hw.wf.ref (k := 4) (j := 0) Ta0 (by decide) (by decide) hq1
    refine pg_rb (k := 4) (j := 0) (f := 400) hx hb hown hU iu4 hw Ta0 (by decide) rfl (hU _ tw278) rfl hq1 dX4_gather_9 ?_
    obtain ⟨q2, hq2, hm⟩ := bd_some hm
    have Tq2 : TY S q2 1 := hw.wf.ref (k := 7) (j := 0) Tq1 (by decide) (by decide) hq2
    refine pgN_rb (k := 7) (j := 0) (f := 700) hx hb hown hU iu7 hw Tq1 (by decide) rfl 56 rfl rfl hq2 dX4_gather_12 ?_
    obtain ⟨q3, hq3, hm⟩ := bd_some hm
    have Tq3 : TY S q3 9 := hw.wf.ref (k := 1) (j := 1) Tq2 (by decide) (by decide) hq3
    refine pgN_rb (k := 1) (j := 1) (f := 101) hx hb hown hU iu1 hw Tq2 (by decide) rfl 28 rfl rfl hq3 dX4_gather_15 ?_
    refine pgN_i (k := 9) (j := 2) (f := 902) hx hb hown hU iu9 hw Tq3 (by decide) rfl 15 rfl rfl dX4_gather_18 ?_
    refine lv_icmp_ge (tgt := 81) hx hb dX4_gather_21 (by decide) (fun h4 => ?_) (fun h4 => ?_)
    · rw [if_pos h4] at hm
      cases hm
      exact pw_vret hx hb hr hlk hw hE dX4_gather_81
    · rw [if_neg h4] at hm
      refine lv_aload_n hx hb dX4_gather_24 rfl (lv_at hl 0 rfl) ?_
      obtain ⟨q5, hq5, hm⟩ := bd_some hm
      have Tq5 : TY S q5 7 := hw.wf.ref (k := 4) (j := 0) Ta0 (by decide) (by decide) hq5
      refine pg_rb (k := 4) (j := 0) (f := 400) hx hb hown hU iu4 hw Ta0 (by decide) rfl (hU _ tw278) rfl hq5 dX4_gather_25 ?_
      obtain ⟨q6, hq6, hm⟩ := bd_some hm
      have Tq6 : TY S q6 1 := hw.wf.ref (k := 7) (j := 0) Tq5 (by decide) (by decide) hq6
      refine pgN_rb (k := 7) (j := 0) (f := 700) hx hb hown hU iu7 hw Tq5 (by decide) rfl 56 rfl rfl hq6 dX4_gather_28 ?_
      obtain ⟨q7, hq7, hm⟩ := bd_some hm
      have Tq7 : TY S q7 9 := hw.wf.ref (k := 1) (j := 1) Tq6 (by decide) (by decide) hq7
      refine pgN_rb (k := 1) (j := 1) (f := 101) hx hb hown hU iu1 hw Tq6 (by decide) rfl 28 rfl rfl hq7 dX4_gather_31 ?_
      refine lv_iload_n hx hb dX4_gather_34 rfl (lv_at hl 2 rfl) ?_
      refine lv_iconst (v := 0) hx hb dX4_gather_35 (by decide) ?_
      obtain ⟨r10, S_8, hq9, hm⟩ := cb_some hm
      refine pw_ci (va_runVN (As := [.int x2, .int 0]) (rest := []) ⟨hx, hb, hml, hown, hU⟩ (c_X9_at l C X n S hw.wf _ q7 x2 0 (Tq7) r10 S_8 hq9) ⟨va_cnB (host := "WickNights") 2 hU (pq_g1 tc_X9_at) rfl rfl rfl (hw.nw 174 rfl) (hU _ tw5) cd_X9_at.2 ⟨Nat.le_of_ble_eq_true rfl, Nat.le_of_ble_eq_true rfl⟩, hU _ tw719, hU _ ts32⟩ (pw_preV hw Tq7 (by decide) rfl) rfl rfl hl.1 rfl (lv_room (Nat.le_of_ble_eq_true rfl)) dX4_gather_36 ⟨Nat.zero_le _, Nat.zero_le _⟩) hw (fun H locs hw hx11 => ?_)
      have Ta0 : TY S_8 a0 4 := ty_ext hx11 Ta0
      have hE : Ext S0 S_8 := Ext.tr hE hx11
      refine lv_iload_n hx hb dX4_gather_39 rfl (lv_at hl 1 rfl) ?_
      refine lv_icmp_ne (tgt := 75) hx hb dX4_gather_40 (by decide) (fun h12 => ?_) (fun h12 => ?_)
      · rw [if_neg h12] at hm
        exact wb_X4_gather_75 cx C X S0 n S1 _ ih a0 x1 x2 S_8 _ _ _ hw hE Ta0 (lv_sub hl [0, 1, 2] rfl) hm
      · rw [if_pos h12] at hm
        refine lv_aload_n hx hb dX4_gather_43 rfl (lv_at hl 0 rfl) ?_
        refine pg_i (k := 4) (j := 5) (f := 405) hx hb hown hU iu4 hw Ta0 (by decide) rfl (hU _ tw283) rfl dX4_gather_44 ?_
        refine lv_aload_n hx hb dX4_gather_47 rfl (lv_at hl 0 rfl) ?_
        obtain ⟨q13, hq13, hm⟩ := bd_some hm
        have Tq13 : TY S_8 q13 14 := hw.wf.ref (k := 4) (j := 1) Ta0 (by decide) (by decide) hq13
        refine pg_rb (k := 4) (j := 1) (f := 401) hx hb hown hU iu4 hw Ta0 (by decide) rfl (hU _ tw279) rfl hq13 dX4_gather_48 ?_
        refine pw_alenI (v := (Int32.ofNat (pN S_8 q13))) hx hb hw Tq13 rfl dX4_gather_51 ?_
        refine lv_icmp_ge (tgt := 75) hx hb dX4_gather_52 (by decide) (fun h14 => ?_) (fun h14 => ?_)
        · rw [if_pos h14] at hm
          exact wb_X4_gather_75 cx C X S0 n S1 _ ih a0 x1 x2 S_8 _ _ _ hw hE Ta0 (lv_sub hl [0, 1, 2] rfl) hm
        · rw [if_neg h14] at hm
          refine lv_aload_n hx hb dX4_gather_55 rfl (lv_at hl 0 rfl) ?_
          obtain ⟨q15, hq15, hm⟩ := bd_some hm
          have Tq15 : TY S_8 q15 14 := hw.wf.ref (k := 4) (j := 1) Ta0 (by decide) (by decide) hq15
          refine pg_rb (k := 4) (j := 1) (f := 401) hx hb hown hU iu4 hw Ta0 (by decide) rfl (hU _ tw279) rfl hq15 dX4_gather_56 ?_
          refine lv_aload_n hx hb dX4_gather_59 rfl (lv_at hl 0 rfl) ?_
          refine pg_i (k := 4) (j := 5) (f := 405) hx hb hown hU iu4 hw Ta0 (by decide) rfl (hU _ tw283) rfl dX4_gather_60 ?_
          refine lv_iload_n hx hb dX4_gather_63 rfl (lv_at hl 2 rfl) ?_
          obtain ⟨hi16, hm⟩ := ck_some hm
          refine pw_iast hx hb hw Tq15 hi16 dX4_gather_64 (fun H locs hw => ?_)
          refine lv_aload_n hx hb dX4_gather_65 rfl (lv_at hl 0 rfl) ?_
          refine lv_dup hx hb dX4_gather_66 rfl ?_
          refine pg_i (k := 4) (j := 5) (f := 405) hx hb hown hU iu4 hw Ta0 (by decide) rfl (hU _ tw283) rfl dX4_gather_67 ?_
          refine lv_iconst (v := 1) hx hb dX4_gather_70 (by decide) ?_
          refine lv_iadd hx hb dX4_gather_71 ?_
          refine pp_i (k := 4) (j := 5) (f := 405) hx hb hown hU iu4 tyX4_ok nmX4 hw Ta0 (by decide) rfl (hU _ tw283) rfl rfl rfl dX4_gather_72 (fun H locs hw => ?_)
          obtain ⟨S_17, eS_17, hm⟩ := lt_some hm
          rw [← eS_17] at hw
          have Ta0 : TY S_17 a0 4 := by rw [eS_17]; exact Ta0
          have hE : Ext S0 S_17 := by rw [eS_17]; exact hE
          exact wb_X4_gather_75 cx C X S0 n S1 _ ih a0 x1 x2 S_17 _ _ _ hw hE Ta0 (lv_sub hl [0, 1, 2] rfl) hm
def m_X4_gather (n : Nat) (a0 : Nat) (x1 : Int32) (S0 : pq_S) : Option pq_S := b_X4_gather_7 n n a0 x1 0 (sI S0 405 a0 0)
theorem tc_X4_gather : Cond.code yX4_gather cX4_gather 3 none ∈ pq_U := tw1212
theorem cd_X4_gather : yX4_gather.cls = RX4 ∧ yX4_gather.cls ≠ "java/lang/invoke/MethodHandle" ∧ yX4_gather.cls ≠ "java/lang/invoke/VarHandle" ∧ (parseMethodDescriptor yX4_gather.desc).map (fun d => d.parameters.length) = some 1 := by decide +kernel
set_option maxHeartbeats 4000000 in
set_option maxRecDepth 100000 in
theorem c_X4_gather (l : Launch) (C : pq_C) (X : va_W) (n : Nat) (S0 : pq_S) (hF : WF S0) (sz : Nat) (a0 : Nat) (x1 : Int32) (Ta0 : TY S0 a0 4) (S1 : pq_S) (hm : m_X4_gather n a0 x1 S0 = some S1) : MV l yX4_gather (.code yX4_gather cX4_gather 3 none :: pq_U) rm_X4_gather C X S0 sz [.ref a0, .int x1] S1 0 0 := by
  refine Met.ofW (cc := cX4_gather) (maxL := 3) (ret := none) (by decide) rfl ?_
  intro p e s m args below meth c s₁ B hml hv
  obtain ⟨rfl, hv⟩ := hv
  have hsz := hv.1
  subst hsz
  have hw := pw_entry hF hv
  have hts := atoms_spec (ws := .code yX4_gather cX4_gather 3 none :: pq_U) B.pre
  have hU : ∀ w ∈ pq_U, w.before _ s = true := fun w h => hts w (List.mem_cons_of_mem _ h)
  have hx := B.exec
  have hb := B.bytes
  have hr := B.returns
  have hown : s.vm.findClass RX4 = some m.cls := findClass_of_methodNamed B.named
  have hlk := B.notSynchronized
  have hl := lv_entry ([.ref a0, .int x1]) (n := 3) (Nat.le_of_ble_eq_true rfl)
  rw [lg_entry_eq]
  generalize (lg_sl ([.ref a0, .int x1]) ++ List.replicate (3 - (lg_sl ([.ref a0, .int x1])).length) Slot.unset).toArray = ls at hl ⊢
  have hl : lv_has ls 3 [(0, .ref a0), (1, .int x1)] := hl
  have hE : Ext S0 S0 := Ext.rf _
  have cx : Cx p s m _ meth c cX4_gather 3 RX4 none := ⟨hx, hb, hml, hown, hU, hr, hlk⟩
  rw [m_X4_gather] at hm
  refine lv_aload_n hx hb dX4_gather_0 rfl (lv_at hl 0 rfl) ?_
  refine lv_iconst (v := 0) hx hb dX4_gather_1 (by decide) ?_
  refine pp_i (k := 4) (j := 5) (f := 405) hx hb hown hU iu4 tyX4_ok nmX4 hw Ta0 (by decide) rfl (hU _ tw283) rfl rfl rfl dX4_gather_2 (fun H locs hw => ?_)
  refine lv_iconst (v := 0) hx hb dX4_gather_5 (by decide) ?_
  refine lv_istore_n (lv' := [(2, .int 0), (0, .ref a0), (1, .int x1)]) hx hb dX4_gather_6 rfl hl (by decide) rfl (fun ls hl => ?_)
  exact wb_X4_gather_7 cx C X S0 n S1 n a0 x1 0 (sI S0 405 a0 0) _ _ _ hw hE Ta0 (lv_sub hl [1, 2, 0] rfl) hm
abbrev rm_X4_hoursOf : Room := { frames := 1, cells := 0, slots := 0, locals := 23 }
def m_X4_hoursOf (n : Nat) (a0 : Nat) (x1 : Int32) (S0 : pq_S) : Option (Int32 × pq_S) := if x1 < 0 then some (0, S0) else Option.bind (pR S0 401 a0) fun q2 => if (Int32.ofNat (pN S0 q2)) ≤ x1 then some (0, S0) else Option.bind (pR S0 400 a0) fun q4 => Option.bind (pR S0 700 q4) fun q5 => Option.bind (pR S0 101 q5) fun q6 => Option.bind (pR S0 401 a0) fun q7 => ck (ix x1 (pN S0 q7)) (dix _ _) (cb (m_X9_at n q6 (pA S0 q7 (Int32.toNatClampNeg x1)) 1 S0) fun r11 S_9 => some (r11, S_9))
theorem tc_X4_hoursOf : Cond.code yX4_hoursOf cX4_hoursOf 2 (some .int) ∈ pq_U := tw1231
theorem cd_X4_hoursOf : yX4_hoursOf.cls = RX4 ∧ yX4_hoursOf.cls ≠ "java/lang/invoke/MethodHandle" ∧ yX4_hoursOf.cls ≠ "java/lang/invoke/VarHandle" ∧ (parseMethodDescriptor yX4_hoursOf.desc).map (fun d => d.parameters.length) = some 1 := by decide +kernel
set_option maxHeartbeats 4000000 in
set_option maxRecDepth 100000 in
theorem c_X4_hoursOf (l : Launch) (C : pq_C) (X : va_W) (n : Nat) (S0 : pq_S) (hF : WF S0) (sz : Nat) (a0 : Nat) (x1 : Int32) (Ta0 : TY S0 a0 4) (r : Int32) (S1 : pq_S) (hm : m_X4_hoursOf n a0 x1 S0 = some (r, S1)) : MI l yX4_hoursOf (.code yX4_hoursOf cX4_hoursOf 2 (some .int) :: pq_U) rm_X4_hoursOf C X S0 sz [.ref a0, .int x1] r S1 0 0 := by
  refine Met.ofW (cc := cX4_hoursOf) (maxL := 2) (ret := (some .int)) (by decide) rfl ?_
  intro p e s m args below meth c s₁ B hml hv
  obtain ⟨rfl, hv⟩ := hv
  have hsz := hv.1
  subst hsz
  have hw := pw_entry hF hv
  have hts := atoms_spec (ws := .code yX4_hoursOf cX4_hoursOf 2 (some .int) :: pq_U) B.pre
  have hU : ∀ w ∈ pq_U, w.before _ s = true := fun w h => hts w (List.mem_cons_of_mem _ h)
  have hx := B.exec
  have hb := B.bytes
  have hr := B.returns
  have hown : s.vm.findClass RX4 = some m.cls := findClass_of_methodNamed B.named
  have hlk := B.notSynchronized
  have hl := lv_entry ([.ref a0, .int x1]) (n := 2) (Nat.le_of_ble_eq_true rfl)
  rw [lg_entry_eq]
  generalize (lg_sl ([.ref a0, .int x1]) ++ List.replicate (2 - (lg_sl ([.ref a0, .int x1])).length) Slot.unset).toArray = ls at hl ⊢
  have hl : lv_has ls 2 [(0, .ref a0), (1, .int x1)] := hl
  have hE : Ext S0 S0 := Ext.rf _
  have cx : Cx p s m _ meth c cX4_hoursOf 2 RX4 (some .int) := ⟨hx, hb, hml, hown, hU, hr, hlk⟩
  rw [m_X4_hoursOf] at hm
  refine lv_iload_n hx hb dX4_hoursOf_0 rfl (lv_at hl 1 rfl) ?_
  refine lv_if_lt (tgt := 36) hx hb dX4_hoursOf_1 (by decide) (fun h1 => ?_) (fun h1 => ?_)
  · rw [if_pos h1] at hm
    refine lv_iconst (v := 0) hx hb dX4_hoursOf_36 (by decide) ?_
    cases hm
    exact pw_iret hx hb hr rfl hlk hw hE dX4_hoursOf_37
  · rw [if_neg h1] at hm
    refine lv_iload_n hx hb dX4_hoursOf_4 rfl (lv_at hl 1 rfl) ?_
    refine lv_aload_n hx hb dX4_hoursOf_5 rfl (lv_at hl 0 rfl) ?_
    obtain ⟨q2, hq2, hm⟩ := bd_some hm
    have Tq2 : TY S0 q2 14 := hw.wf.ref (k := 4) (j := 1) Ta0 (by decide) (by decide) hq2
    refine pg_rb (k := 4) (j := 1) (f := 401) hx hb hown hU iu4 hw Ta0 (by decide) rfl (hU _ tw279) rfl hq2 dX4_hoursOf_6 ?_
    refine pw_alenI (v := (Int32.ofNat (pN S0 q2))) hx hb hw Tq2 rfl dX4_hoursOf_9 ?_
    refine lv_icmp_ge (tgt := 36) hx hb dX4_hoursOf_10 (by decide) (fun h3 => ?_) (fun h3 => ?_)
    · rw [if_pos h3] at hm
      refine lv_iconst (v := 0) hx hb dX4_hoursOf_36 (by decide) ?_
      cases hm
      exact pw_iret hx hb hr rfl hlk hw hE dX4_hoursOf_37
    · rw [if_neg h3] at hm
      refine lv_aload_n hx hb dX4_hoursOf_13 rfl (lv_at hl 0 rfl) ?_
      obtain ⟨q4, hq4, hm⟩ := bd_some hm
      have Tq4 : TY S0 q4 7 := hw.wf.ref (k := 4) (j := 0) Ta0 (by decide) (by decide) hq4
      refine pg_rb (k := 4) (j := 0) (f := 400) hx hb hown hU iu4 hw Ta0 (by decide) rfl (hU _ tw278) rfl hq4 dX4_hoursOf_14 ?_
      obtain ⟨q5, hq5, hm⟩ := bd_some hm
      have Tq5 : TY S0 q5 1 := hw.wf.ref (k := 7) (j := 0) Tq4 (by decide) (by decide) hq5
      refine pgN_rb (k := 7) (j := 0) (f := 700) hx hb hown hU iu7 hw Tq4 (by decide) rfl 56 rfl rfl hq5 dX4_hoursOf_17 ?_
      obtain ⟨q6, hq6, hm⟩ := bd_some hm
      have Tq6 : TY S0 q6 9 := hw.wf.ref (k := 1) (j := 1) Tq5 (by decide) (by decide) hq6
      refine pgN_rb (k := 1) (j := 1) (f := 101) hx hb hown hU iu1 hw Tq5 (by decide) rfl 28 rfl rfl hq6 dX4_hoursOf_20 ?_
      refine lv_aload_n hx hb dX4_hoursOf_23 rfl (lv_at hl 0 rfl) ?_
      obtain ⟨q7, hq7, hm⟩ := bd_some hm
      have Tq7 : TY S0 q7 14 := hw.wf.ref (k := 4) (j := 1) Ta0 (by decide) (by decide) hq7
      refine pg_rb (k := 4) (j := 1) (f := 401) hx hb hown hU iu4 hw Ta0 (by decide) rfl (hU _ tw279) rfl hq7 dX4_hoursOf_24 ?_
      refine lv_iload_n hx hb dX4_hoursOf_27 rfl (lv_at hl 1 rfl) ?_
      obtain ⟨hi8, hm⟩ := ck_some hm
      refine pw_iald hx hb hw Tq7 hi8 dX4_hoursOf_28 ?_
      refine lv_iconst (v := 1) hx hb dX4_hoursOf_29 (by decide) ?_
      obtain ⟨r11, S_9, hq10, hm⟩ := cb_some hm
      refine pw_ci (va_runVN (As := [.int (pA S0 q7 (Int32.toNatClampNeg x1)), .int 1]) (rest := []) ⟨hx, hb, hml, hown, hU⟩ (c_X9_at l C X n S0 hw.wf _ q6 (pA S0 q7 (Int32.toNatClampNeg x1)) 1 (Tq6) r11 S_9 hq10) ⟨va_cnB (host := "WickNights") 2 hU (pq_g1 tc_X9_at) rfl rfl rfl (hw.nw 174 rfl) (hU _ tw5) cd_X9_at.2 ⟨Nat.le_of_ble_eq_true rfl, Nat.le_of_ble_eq_true rfl⟩, hU _ tw719, hU _ ts32⟩ (pw_preV hw Tq6 (by decide) rfl) rfl rfl hl.1 rfl (lv_room (Nat.le_of_ble_eq_true rfl)) dX4_hoursOf_30 ⟨Nat.zero_le _, Nat.zero_le _⟩) hw (fun H locs hw hx12 => ?_)
      have Ta0 : TY S_9 a0 4 := ty_ext hx12 Ta0
      have hE : Ext S0 S_9 := Ext.tr hE hx12
      refine lv_goto (tgt := 37) hx hb dX4_hoursOf_33 (by decide) ?_
      cases hm
      exact pw_iret hx hb hr rfl hlk hw hE dX4_hoursOf_37
abbrev rm_X4_bestOfSet : Room := { frames := 2, cells := 0, slots := 0, locals := 46 }
def b_X4_bestOfSet_82 (n : Nat) (k4 : Nat → Int32 → Int32 → Int32 → Int32 → Int32 → Int32 → pq_S → Option (Int32 × pq_S)) (a0 : Nat) (x1 : Int32) (x2 : Int32) (x3 : Int32) (x4 : Int32) (x5 : Int32) (x6 : Int32) (S : pq_S) : Option (Int32 × pq_S) := k4 a0 x1 x2 x3 x4 x5 (x6 + 1) S
set_option maxHeartbeats 4000000 in
set_option maxRecDepth 100000 in
theorem wb_X4_bestOfSet_82 {p : Program} {l : Launch} {e : Env} {s : State} {m : MethodId} {args : Array Value} {below : List Frame} {meth : Method} {c : Code} (cx : Cx p s m args meth c cX4_bestOfSet 8 RX4 (some .int)) (C : pq_C) (X : va_W) (S0 : pq_S) (n : Nat) (r : Int32) (S1 : pq_S) (k4 : Nat → Int32 → Int32 → Int32 → Int32 → Int32 → Int32 → pq_S → Option (Int32 × pq_S)) (hk4 : ∀ (a0 : Nat) (x1 : Int32) (x2 : Int32) (x3 : Int32) (x4 : Int32) (x5 : Int32) (x6 : Int32) (S : pq_S) (H : Heap) (locs : List Loc) (ls : Array Slot), PW C X S (pq_F C X S0 s.heap.size) H locs s → Ext S0 S → TY S a0 4 → lv_has ls 8 [(0, .ref a0), (1, .int x1), (2, .int x2), (3, .int x3), (4, .int x4), (5, .int x5), (6, .int x6)] → k4 a0 x1 x2 x3 x4 x5 x6 S = some (r, S1) → W p l e rm_X4_bestOfSet s m args below meth c H locs 0 0 (MQ below (QcI C X S0 s.heap.size r S1) args s 0 0 (pq_F C X S0 s.heap.size)) (F0 m 8 ls [])) : ∀ (a0 : Nat) (x1 : Int32) (x2 : Int32) (x3 : Int32) (x4 : Int32) (x5 : Int32) (x6 : Int32) (S : pq_S) (H : Heap) (locs : List Loc) (ls : Array Slot), PW C X S (pq_F C X S0 s.heap.size) H locs s → Ext S0 S → TY S a0 4 → lv_has ls 8 [(0, .ref a0), (1, .int x1), (2, .int x2), (3, .int x3), (4, .int x4), (5, .int x5), (6, .int x6)] → b_X4_bestOfSet_82 n k4 a0 x1 x2 x3 x4 x5 x6 S = some (r, S1) → W p l e rm_X4_bestOfSet s m args below meth c H locs 0 0 (MQ below (QcI C X S0 s.heap.size r S1) args s 0 0 (pq_F C X S0 s.heap.size)) (F0 m 82 ls []) := by
  obtain ⟨hx, hb, hml, hown, hU, hr, hlk⟩ := id cx
  intro a0 x1 x2 x3 x4 x5 x6 S H locs ls hw hE Ta0 hl hm
  rw [b_X4_bestOfSet_82] at hm
  refine lv_iinc (v := (x6 + 1)) (lv' := [(6, .int (x6 + 1)), (0, .ref a0), (1, .int x1), (2, .int x2), (3, .int x3), (4, .int x4), (5, .int x5)]) hx hb dX4_bestOfSet_82 hl (k := 6) rfl rfl (by decide) rfl (fun ls hl => ?_)
  refine lv_goto (tgt := 8) hx hb dX4_bestOfSet_85 (by decide) ?_
  exact hk4 a0 x1 x2 x3 x4 x5 (x6 + 1) S _ _ _ hw hE Ta0 (lv_sub hl [1, 2, 3, 4, 5, 6, 0] rfl) hm
def b_X4_bestOfSet_8 (n : Nat) : Nat → Nat → Int32 → Int32 → Int32 → Int32 → Int32 → Int32 → pq_S → Option (Int32 × pq_S)
  | 0, _, _, _, _, _, _, _, _ => none
  | f + 1, a0, x1, x2, x3, x4, x5, x6, S => if (x1 >>> (x6 &&& (31 : Int32))) = 0 then some (x5, S) else if 12 ≤ x6 then some (x5, S) else lt_ (x1 &&& (((1 : Int32) <<< (x6 &&& (31 : Int32))) ^^^ (-1 : Int32))) fun v3 => if v3 = x1 then b_X4_bestOfSet_82 n (b_X4_bestOfSet_8 n f) a0 x1 x2 x3 x4 x5 x6 S else if v3 < 0 then b_X4_bestOfSet_82 n (b_X4_bestOfSet_8 n f) a0 x1 x2 x3 x4 x5 x6 S else Option.bind (pR S 404 a0) fun q6 => if (Int32.ofNat (pN S q6)) ≤ v3 then b_X4_bestOfSet_82 n (b_X4_bestOfSet_8 n f) a0 x1 x2 x3 x4 x5 x6 S else Option.bind (pR S 404 a0) fun q8 => ck (ix v3 (pN S q8)) (dix _ _) (cb (m_X4_hoursOf n a0 (x2 + x6) S) fun r12 S_10 => cb (m_X4_putIn n a0 (pA S q8 (Int32.toNatClampNeg v3)) r12 x3 x4 S_10) fun r16 S_14 => b_X4_bestOfSet_82 n (b_X4_bestOfSet_8 n f) a0 x1 x2 x3 x4 (if r16 < x5 then r16 else x5) x6 S_14)
set_option maxHeartbeats 4000000 in
set_option maxRecDepth 100000 in
theorem wb_X4_bestOfSet_8 {p : Program} {l : Launch} {e : Env} {s : State} {m : MethodId} {args : Array Value} {below : List Frame} {meth : Method} {c : Code} (cx : Cx p s m args meth c cX4_bestOfSet 8 RX4 (some .int)) (C : pq_C) (X : va_W) (S0 : pq_S) (n : Nat) (r : Int32) (S1 : pq_S) : ∀ (f : Nat) (a0 : Nat) (x1 : Int32) (x2 : Int32) (x3 : Int32) (x4 : Int32) (x5 : Int32) (x6 : Int32) (S : pq_S) (H : Heap) (locs : List Loc) (ls : Array Slot), PW C X S (pq_F C X S0 s.heap.size) H locs s → Ext S0 S → TY S a0 4 → lv_has ls 8 [(0, .ref a0), (1, .int x1), (2, .int x2), (3, .int x3), (4, .int x4), (5, .int x5), (6, .int x6)] → b_X4_bestOfSet_8 n f a0 x1 x2 x3 x4 x5 x6 S = some (r, S1) → W p l e rm_X4_bestOfSet s m args below meth c H locs 0 0 (MQ below (QcI C X S0 s.heap.size r S1) args s 0 0 (pq_F C X S0 s.heap.size)) (F0 m 8 ls []) := by
  obtain ⟨hx, hb, hml, hown, hU, hr, hlk⟩ := id cx
  intro f
  induction f with
  | zero =>
    intro a0 x1 x2 x3 x4 x5 x6 S H locs ls hw hE Ta0 hl hm
    cases hm
  | succ f ih =>
    intro a0 x1 x2 x3 x4 x5 x6 S H locs ls hw hE Ta0 hl hm
    rw [b_X4_bestOfSet_8] at hm
    refine lv_iload_n hx hb dX4_bestOfSet_8 rfl (lv_at hl 1 rfl) ?_
    refine lv_iload hx hb dX4_bestOfSet_9 (lv_at hl 6 rfl) ?_
    refine lv_ishr hx hb dX4_bestOfSet_11 ?_
    refine lv_if_eq (tgt := 88) hx hb dX4_bestOfSet_12 (by decide) (fun h1 => ?_) (fun h1 => ?_)
    · rw [if_pos h1] at hm
      refine lv_iload hx hb dX4_bestOfSet_88 (lv_at hl 5 rfl) ?_
      cases hm
      exact pw_iret hx hb hr rfl hlk hw hE dX4_bestOfSet_90
    · rw [if_neg h1] at hm
      refine lv_iload hx hb dX4_bestOfSet_15 (lv_at hl 6 rfl) ?_
      refine lv_bipush (v := 12) hx hb dX4_bestOfSet_17 (by decide) ?_
      refine lv_icmp_ge (tgt := 88) hx hb dX4_bestOfSet_19 (by decide) (fun h2 => ?_) (fun h2 => ?_)
      · rw [if_pos h2] at hm
        refine lv_iload hx hb dX4_bestOfSet_88 (lv_at hl 5 rfl) ?_
        cases hm
        exact pw_iret hx hb hr rfl hlk hw hE dX4_bestOfSet_90
      · rw [if_neg h2] at hm
        refine lv_iload_n hx hb dX4_bestOfSet_22 rfl (lv_at hl 1 rfl) ?_
        refine lv_iconst (v := 1) hx hb dX4_bestOfSet_23 (by decide) ?_
        refine lv_iload hx hb dX4_bestOfSet_24 (lv_at hl 6 rfl) ?_
        refine lv_ishl hx hb dX4_bestOfSet_26 ?_
        refine lv_iconst (v := (-1)) hx hb dX4_bestOfSet_27 (by decide) ?_
        refine lv_ixor hx hb dX4_bestOfSet_28 ?_
        refine lv_iand hx hb dX4_bestOfSet_29 ?_
        obtain ⟨v3, ev3, hm⟩ := lt_some hm
        refine lv_nmI ev3 ?_
        refine lv_istore (lv' := [(7, .int v3), (0, .ref a0), (1, .int x1), (2, .int x2), (3, .int x3), (4, .int x4), (5, .int x5), (6, .int x6)]) hx hb dX4_bestOfSet_30 hl (by decide) rfl (fun ls hl => ?_)
        refine lv_iload hx hb dX4_bestOfSet_32 (lv_at hl 0 rfl) ?_
        refine lv_iload_n hx hb dX4_bestOfSet_34 rfl (lv_at hl 2 rfl) ?_
        refine lv_icmp_eq (tgt := 82) hx hb dX4_bestOfSet_35 (by decide) (fun h4 => ?_) (fun h4 => ?_)
        · rw [if_pos h4] at hm
          exact wb_X4_bestOfSet_82 cx C X S0 n r S1 _ ih a0 x1 x2 x3 x4 x5 x6 S _ _ _ hw hE Ta0 (lv_sub hl [1, 2, 3, 4, 5, 6, 7] rfl) hm
        · rw [if_neg h4] at hm
          refine lv_iload hx hb dX4_bestOfSet_38 (lv_at hl 0 rfl) ?_
          refine lv_if_lt (tgt := 82) hx hb dX4_bestOfSet_40 (by decide) (fun h5 => ?_) (fun h5 => ?_)
          · rw [if_pos h5] at hm
            exact wb_X4_bestOfSet_82 cx C X S0 n r S1 _ ih a0 x1 x2 x3 x4 x5 x6 S _ _ _ hw hE Ta0 (lv_sub hl [1, 2, 3, 4, 5, 6, 7] rfl) hm
          · rw [if_neg h5] at hm
            refine lv_iload hx hb dX4_bestOfSet_43 (lv_at hl 0 rfl) ?_
            refine lv_aload_n hx hb dX4_bestOfSet_45 rfl (lv_at hl 1 rfl) ?_
            obtain ⟨q6, hq6, hm⟩ := bd_some hm
            have Tq6 : TY S q6 14 := hw.wf.ref (k := 4) (j := 4) Ta0 (by decide) (by decide) hq6
            refine pg_rb (k := 4) (j := 4) (f := 404) hx hb hown hU iu4 hw Ta0 (by decide) rfl (hU _ tw282) rfl hq6 dX4_bestOfSet_46 ?_
            refine pw_alenI (v := (Int32.ofNat (pN S q6))) hx hb hw Tq6 rfl dX4_bestOfSet_49 ?_
            refine lv_icmp_ge (tgt := 82) hx hb dX4_bestOfSet_50 (by decide) (fun h7 => ?_) (fun h7 => ?_)
            · rw [if_pos h7] at hm
              exact wb_X4_bestOfSet_82 cx C X S0 n r S1 _ ih a0 x1 x2 x3 x4 x5 x6 S _ _ _ hw hE Ta0 (lv_sub hl [1, 2, 3, 4, 5, 6, 7] rfl) hm
            · rw [if_neg h7] at hm
              refine lv_iload hx hb dX4_bestOfSet_53 (lv_at hl 6 rfl) ?_
              refine lv_aload_n hx hb dX4_bestOfSet_55 rfl (lv_at hl 1 rfl) ?_
              refine lv_aload_n hx hb dX4_bestOfSet_56 rfl (lv_at hl 1 rfl) ?_
              obtain ⟨q8, hq8, hm⟩ := bd_some hm
              have Tq8 : TY S q8 14 := hw.wf.ref (k := 4) (j := 4) Ta0 (by decide) (by decide) hq8
              refine pg_rb (k := 4) (j := 4) (f := 404) hx hb hown hU iu4 hw Ta0 (by decide) rfl (hU _ tw282) rfl hq8 dX4_bestOfSet_57 ?_
              refine lv_iload hx hb dX4_bestOfSet_60 (lv_at hl 0 rfl) ?_
              obtain ⟨hi9, hm⟩ := ck_some hm
              refine pw_iald hx hb hw Tq8 hi9 dX4_bestOfSet_62 ?_
              refine lv_aload_n hx hb dX4_bestOfSet_63 rfl (lv_at hl 1 rfl) ?_
              refine lv_iload_n hx hb dX4_bestOfSet_64 rfl (lv_at hl 3 rfl) ?_
              refine lv_iload hx hb dX4_bestOfSet_65 (lv_at hl 7 rfl) ?_
              refine lv_iadd hx hb dX4_bestOfSet_67 ?_
              obtain ⟨r12, S_10, hq11, hm⟩ := cb_some hm
              refine pw_ci (va_runV (As := [.int (x2 + x6)]) (rest := [.int (pA S q8 (Int32.toNatClampNeg v3)), .ref a0, .int x5]) ⟨hx, hb, hml, hown, hU⟩ (c_X4_hoursOf l C X n S hw.wf _ a0 (x2 + x6) (Ta0) r12 S_10 hq11) (cwV 1 hU (pq_gV tw1228 tw1230 ts95 tw9 tc_X4_hoursOf) rfl rfl rfl cd_X4_hoursOf ⟨Nat.le_of_ble_eq_true rfl, Nat.le_of_ble_eq_true rfl⟩) (pw_preV hw Ta0 (by decide) rfl) rfl rfl hl.1 rfl (lv_room (Nat.le_of_ble_eq_true rfl)) dX4_bestOfSet_68 ⟨Nat.zero_le _, Nat.zero_le _⟩) hw (fun H locs hw hx13 => ?_)
              have Ta0 : TY S_10 a0 4 := ty_ext hx13 Ta0
              have hE : Ext S0 S_10 := Ext.tr hE hx13
              refine lv_iload_n hx hb dX4_bestOfSet_71 rfl (lv_at hl 4 rfl) ?_
              refine lv_iload hx hb dX4_bestOfSet_72 (lv_at hl 5 rfl) ?_
              obtain ⟨r16, S_14, hq15, hm⟩ := cb_some hm
              refine pw_ci (va_runV (As := [.int (pA S q8 (Int32.toNatClampNeg v3)), .int r12, .int x3, .int x4]) (rest := [.int x5]) ⟨hx, hb, hml, hown, hU⟩ (c_X4_putIn l C X n S_10 hw.wf _ a0 (pA S q8 (Int32.toNatClampNeg v3)) r12 x3 x4 (Ta0) r16 S_14 hq15) (cwV 4 hU (pq_gV tw1232 tw1234 ts96 tw9 tc_X4_putIn) rfl rfl rfl cd_X4_putIn ⟨Nat.le_of_ble_eq_true rfl, Nat.le_of_ble_eq_true rfl⟩) (pw_preV hw Ta0 (by decide) rfl) rfl rfl hl.1 rfl (lv_room (Nat.le_of_ble_eq_true rfl)) dX4_bestOfSet_74 ⟨Nat.zero_le _, Nat.zero_le _⟩) hw (fun H locs hw hx17 => ?_)
              have Ta0 : TY S_14 a0 4 := ty_ext hx17 Ta0
              have hE : Ext S0 S_14 := Ext.tr hE hx17
              refine va_mmin hx hb (by rw [hml]; exact hl.1.symm) hown (hU _ tw1223) (hU _ twm_min_s) (hU _ twm_i) (hU _ twm_min_c) (Nat.le_of_ble_eq_true rfl) (Nat.le_of_ble_eq_true rfl) (Nat.zero_le _) (Nat.zero_le _) dX4_bestOfSet_77 ?_
              refine lv_istore (lv' := [(5, .int (if r16 < x5 then r16 else x5)), (7, .int v3), (0, .ref a0), (1, .int x1), (2, .int x2), (3, .int x3), (4, .int x4), (6, .int x6)]) hx hb dX4_bestOfSet_80 hl (by decide) rfl (fun ls hl => ?_)
              exact wb_X4_bestOfSet_82 cx C X S0 n r S1 _ ih a0 x1 x2 x3 x4 (if r16 < x5 then r16 else x5) x6 S_14 _ _ _ hw hE Ta0 (lv_sub hl [2, 3, 4, 5, 6, 0, 7] rfl) hm
def m_X4_bestOfSet (n : Nat) (a0 : Nat) (x1 : Int32) (x2 : Int32) (x3 : Int32) (x4 : Int32) (S0 : pq_S) : Option (Int32 × pq_S) := b_X4_bestOfSet_8 n n a0 x1 x2 x3 x4 1024 0 S0
theorem tc_X4_bestOfSet : Cond.code yX4_bestOfSet cX4_bestOfSet 8 (some .int) ∈ pq_U := tw1227
theorem cd_X4_bestOfSet : yX4_bestOfSet.cls = RX4 ∧ yX4_bestOfSet.cls ≠ "java/lang/invoke/MethodHandle" ∧ yX4_bestOfSet.cls ≠ "java/lang/invoke/VarHandle" ∧ (parseMethodDescriptor yX4_bestOfSet.desc).map (fun d => d.parameters.length) = some 4 := by decide +kernel
set_option maxHeartbeats 4000000 in
set_option maxRecDepth 100000 in
theorem c_X4_bestOfSet (l : Launch) (C : pq_C) (X : va_W) (n : Nat) (S0 : pq_S) (hF : WF S0) (sz : Nat) (a0 : Nat) (x1 : Int32) (x2 : Int32) (x3 : Int32) (x4 : Int32) (Ta0 : TY S0 a0 4) (r : Int32) (S1 : pq_S) (hm : m_X4_bestOfSet n a0 x1 x2 x3 x4 S0 = some (r, S1)) : MI l yX4_bestOfSet (.code yX4_bestOfSet cX4_bestOfSet 8 (some .int) :: pq_U) rm_X4_bestOfSet C X S0 sz [.ref a0, .int x1, .int x2, .int x3, .int x4] r S1 0 0 := by
  refine Met.ofW (cc := cX4_bestOfSet) (maxL := 8) (ret := (some .int)) (by decide) rfl ?_
  intro p e s m args below meth c s₁ B hml hv
  obtain ⟨rfl, hv⟩ := hv
  have hsz := hv.1
  subst hsz
  have hw := pw_entry hF hv
  have hts := atoms_spec (ws := .code yX4_bestOfSet cX4_bestOfSet 8 (some .int) :: pq_U) B.pre
  have hU : ∀ w ∈ pq_U, w.before _ s = true := fun w h => hts w (List.mem_cons_of_mem _ h)
  have hx := B.exec
  have hb := B.bytes
  have hr := B.returns
  have hown : s.vm.findClass RX4 = some m.cls := findClass_of_methodNamed B.named
  have hlk := B.notSynchronized
  have hl := lv_entry ([.ref a0, .int x1, .int x2, .int x3, .int x4]) (n := 8) (Nat.le_of_ble_eq_true rfl)
  rw [lg_entry_eq]
  generalize (lg_sl ([.ref a0, .int x1, .int x2, .int x3, .int x4]) ++ List.replicate (8 - (lg_sl ([.ref a0, .int x1, .int x2, .int x3, .int x4])).length) Slot.unset).toArray = ls at hl ⊢
  have hl : lv_has ls 8 [(0, .ref a0), (1, .int x1), (2, .int x2), (3, .int x3), (4, .int x4)] := hl
  have hE : Ext S0 S0 := Ext.rf _
  have cx : Cx p s m _ meth c cX4_bestOfSet 8 RX4 (some .int) := ⟨hx, hb, hml, hown, hU, hr, hlk⟩
  rw [m_X4_bestOfSet] at hm
  refine lv_sipush (v := 1024) hx hb dX4_bestOfSet_0 (by decide) ?_
  refine lv_istore (lv' := [(5, .int 1024), (0, .ref a0), (1, .int x1), (2, .int x2), (3, .int x3), (4, .int x4)]) hx hb dX4_bestOfSet_3 hl (by decide) rfl (fun ls hl => ?_)
  refine lv_iconst (v := 0) hx hb dX4_bestOfSet_5 (by decide) ?_
  refine lv_istore (lv' := [(6, .int 0), (5, .int 1024), (0, .ref a0), (1, .int x1), (2, .int x2), (3, .int x3), (4, .int x4)]) hx hb dX4_bestOfSet_6 hl (by decide) rfl (fun ls hl => ?_)
  exact wb_X4_bestOfSet_8 cx C X S0 n r S1 n a0 x1 x2 x3 x4 1024 0 S0 _ _ _ hw hE Ta0 (lv_sub hl [2, 3, 4, 5, 6, 1, 0] rfl) hm
abbrev rm_X6_readCarry : Room := { frames := 2, cells := 0, slots := 0, locals := 64 }
def b_X6_readCarry_133 (n : Nat) (b0 : Nat) (z1 : Int32) (z2 : Int32) (z3 : Int32) (S : pq_S) : Option pq_S := Option.bind (m_X9_put n b0 z1 z2 z3 S) fun S_51 => some S_51
set_option maxHeartbeats 4000000 in
set_option maxRecDepth 100000 in
theorem wb_X6_readCarry_133 {p : Program} {l : Launch} {e : Env} {s : State} {m : MethodId} {args : Array Value} {below : List Frame} {meth : Method} {c : Code} (cx : Cx p s m args meth c cX6_readCarry 7 RX6 none) (C : pq_C) (X : va_W) (S0 : pq_S) (n : Nat) (S1 : pq_S) : ∀ (b0 : Nat) (z1 : Int32) (z2 : Int32) (z3 : Int32) (S : pq_S) (H : Heap) (locs : List Loc) (ls : Array Slot), PW C X S (pq_F C X S0 s.heap.size) H locs s → Ext S0 S → TY S b0 9 → lv_has ls 7 [] → b_X6_readCarry_133 n b0 z1 z2 z3 S = some S1 → W p l e rm_X6_readCarry s m args below meth c H locs 0 0 (MQ below (QcV C X S0 s.heap.size S1) args s 0 0 (pq_F C X S0 s.heap.size)) (F0 m 133 ls [.int z3, .int z2, .int z1, .ref b0]) := by
  obtain ⟨hx, hb, hml, hown, hU, hr, hlk⟩ := id cx
  intro b0 z1 z2 z3 S H locs ls hw hE Tb0 hl hm
  rw [b_X6_readCarry_133] at hm
  obtain ⟨S_51, hq52, hm⟩ := bd_some hm
  refine pw_cv (va_runVN (As := [.int z1, .int z2, .int z3]) (rest := []) ⟨hx, hb, hml, hown, hU⟩ (c_X9_put l C X n S hw.wf _ b0 z1 z2 z3 (Tb0) S_51 hq52) ⟨va_cnB (host := "WickNights") 3 hU (pq_g1 tc_X9_put) rfl rfl rfl (hw.nw 130 rfl) (hU _ tw5) cd_X9_put.2 ⟨Nat.le_of_ble_eq_true rfl, Nat.le_of_ble_eq_true rfl⟩, hU _ tw673, hU _ ts23⟩ (pw_preV hw Tb0 (by decide) rfl) rfl rfl hl.1 rfl (lv_room (Nat.le_of_ble_eq_true rfl)) dX6_readCarry_133 ⟨Nat.zero_le _, Nat.zero_le _⟩) hw (fun H locs hw hx53 => ?_)
  have hE : Ext S0 S_51 := Ext.tr hE hx53
  cases hm
  exact pw_vret hx hb hr hlk hw hE dX6_readCarry_136
def b_X6_readCarry_64 (n : Nat) (a0 : Nat) (a1 : Nat) (x3 : Int32) (x4 : Int32) (x6 : Int32) (S : pq_S) : Option pq_S := Option.bind (pR S 600 a0) fun q25 => Option.bind (m_X9_put n q25 x3 0 0 S) fun S_26 => Option.bind (pR S_26 600 a0) fun q29 => Option.bind (m_X9_put n q29 x3 1 x4 S_26) fun S_30 => Option.bind (pR S_30 600 a0) fun q33 => Option.bind (m_X9_put n q33 x3 2 x6 S_30) fun S_34 => Option.bind (pR S_34 600 a0) fun q37 => cb (m_X10_takeNumber n a1 1 99 S_34) fun r40 S_38 => Option.bind (m_X9_put n q37 x3 3 r40 S_38) fun S_42 => Option.bind (pR S_42 600 a0) fun q45 => cb (m_X10_takeNumber n a1 0 1 S_42) fun r48 S_46 => if r48 = 1 then b_X6_readCarry_133 n q45 x3 4 0 S_46 else b_X6_readCarry_133 n q45 x3 4 1 S_46
set_option maxHeartbeats 4000000 in
set_option maxRecDepth 100000 in
theorem wb_X6_readCarry_64 {p : Program} {l : Launch} {e : Env} {s : State} {m : MethodId} {args : Array Value} {below : List Frame} {meth : Method} {c : Code} (cx : Cx p s m args meth c cX6_readCarry 7 RX6 none) (C : pq_C) (X : va_W) (S0 : pq_S) (n : Nat) (S1 : pq_S) : ∀ (a0 : Nat) (a1 : Nat) (x3 : Int32) (x4 : Int32) (x6 : Int32) (S : pq_S) (H : Heap) (locs : List Loc) (ls : Array Slot), PW C X S (pq_F C X S0 s.heap.size) H locs s → Ext S0 S → TY S a0 6 → TY S a1 10 → lv_has ls 7 [(0, .ref a0), (1, .ref a1), (3, .int x3), (4, .int x4), (6, .int x6)] → b_X6_readCarry_64 n a0 a1 x3 x4 x6 S = some S1 → W p l e rm_X6_readCarry s m args below meth c H locs 0 0 (MQ below (QcV C X S0 s.heap.size S1) args s 0 0 (pq_F C X S0 s.heap.size)) (F0 m 64 ls []) := by
  obtain ⟨hx, hb, hml, hown, hU, hr, hlk⟩ := id cx
  intro a0 a1 x3 x4 x6 S H locs ls hw hE Ta0 Ta1 hl hm
  rw [b_X6_readCarry_64] at hm
  refine lv_aload_n hx hb dX6_readCarry_64 rfl (lv_at hl 0 rfl) ?_
  obtain ⟨q25, hq25, hm⟩ := bd_some hm
  have Tq25 : TY S q25 9 := hw.wf.ref (k := 6) (j := 0) Ta0 (by decide) (by decide) hq25
  refine pg_rb (k := 6) (j := 0) (f := 600) hx hb hown hU iu6 hw Ta0 (by decide) rfl (hU _ tw309) rfl hq25 dX6_readCarry_65 ?_
  refine lv_iload_n hx hb dX6_readCarry_68 rfl (lv_at hl 2 rfl) ?_
  refine lv_iconst (v := 0) hx hb dX6_readCarry_69 (by decide) ?_
  refine lv_iconst (v := 0) hx hb dX6_readCarry_70 (by decide) ?_
  obtain ⟨S_26, hq27, hm⟩ := bd_some hm
  refine pw_cv (va_runVN (As := [.int x3, .int 0, .int 0]) (rest := []) ⟨hx, hb, hml, hown, hU⟩ (c_X9_put l C X n S hw.wf _ q25 x3 0 0 (Tq25) S_26 hq27) ⟨va_cnB (host := "WickNights") 3 hU (pq_g1 tc_X9_put) rfl rfl rfl (hw.nw 130 rfl) (hU _ tw5) cd_X9_put.2 ⟨Nat.le_of_ble_eq_true rfl, Nat.le_of_ble_eq_true rfl⟩, hU _ tw673, hU _ ts23⟩ (pw_preV hw Tq25 (by decide) rfl) rfl rfl hl.1 rfl (lv_room (Nat.le_of_ble_eq_true rfl)) dX6_readCarry_71 ⟨Nat.zero_le _, Nat.zero_le _⟩) hw (fun H locs hw hx28 => ?_)
  have Ta0 : TY S_26 a0 6 := ty_ext hx28 Ta0
  have Ta1 : TY S_26 a1 10 := ty_ext hx28 Ta1
  have hE : Ext S0 S_26 := Ext.tr hE hx28
  refine lv_aload_n hx hb dX6_readCarry_74 rfl (lv_at hl 0 rfl) ?_
  obtain ⟨q29, hq29, hm⟩ := bd_some hm
  have Tq29 : TY S_26 q29 9 := hw.wf.ref (k := 6) (j := 0) Ta0 (by decide) (by decide) hq29
  refine pg_rb (k := 6) (j := 0) (f := 600) hx hb hown hU iu6 hw Ta0 (by decide) rfl (hU _ tw309) rfl hq29 dX6_readCarry_75 ?_
  refine lv_iload_n hx hb dX6_readCarry_78 rfl (lv_at hl 2 rfl) ?_
  refine lv_iconst (v := 1) hx hb dX6_readCarry_79 (by decide) ?_
  refine lv_iload hx hb dX6_readCarry_80 (lv_at hl 3 rfl) ?_
  obtain ⟨S_30, hq31, hm⟩ := bd_some hm
  refine pw_cv (va_runVN (As := [.int x3, .int 1, .int x4]) (rest := []) ⟨hx, hb, hml, hown, hU⟩ (c_X9_put l C X n S_26 hw.wf _ q29 x3 1 x4 (Tq29) S_30 hq31) ⟨va_cnB (host := "WickNights") 3 hU (pq_g1 tc_X9_put) rfl rfl rfl (hw.nw 130 rfl) (hU _ tw5) cd_X9_put.2 ⟨Nat.le_of_ble_eq_true rfl, Nat.le_of_ble_eq_true rfl⟩, hU _ tw673, hU _ ts23⟩ (pw_preV hw Tq29 (by decide) rfl) rfl rfl hl.1 rfl (lv_room (Nat.le_of_ble_eq_true rfl)) dX6_readCarry_82 ⟨Nat.zero_le _, Nat.zero_le _⟩) hw (fun H locs hw hx32 => ?_)
  have Ta0 : TY S_30 a0 6 := ty_ext hx32 Ta0
  have Ta1 : TY S_30 a1 10 := ty_ext hx32 Ta1
  have hE : Ext S0 S_30 := Ext.tr hE hx32
  refine lv_aload_n hx hb dX6_readCarry_85 rfl (lv_at hl 0 rfl) ?_
  obtain ⟨q33, hq33, hm⟩ := bd_some hm
  have Tq33 : TY S_30 q33 9 := hw.wf.ref (k := 6) (j := 0) Ta0 (by decide) (by decide) hq33
  refine pg_rb (k := 6) (j := 0) (f := 600) hx hb hown hU iu6 hw Ta0 (by decide) rfl (hU _ tw309) rfl hq33 dX6_readCarry_86 ?_
  refine lv_iload_n hx hb dX6_readCarry_89 rfl (lv_at hl 2 rfl) ?_
  refine lv_iconst (v := 2) hx hb dX6_readCarry_90 (by decide) ?_
  refine lv_iload hx hb dX6_readCarry_91 (lv_at hl 4 rfl) ?_
  obtain ⟨S_34, hq35, hm⟩ := bd_some hm
  refine pw_cv (va_runVN (As := [.int x3, .int 2, .int x6]) (rest := []) ⟨hx, hb, hml, hown, hU⟩ (c_X9_put l C X n S_30 hw.wf _ q33 x3 2 x6 (Tq33) S_34 hq35) ⟨va_cnB (host := "WickNights") 3 hU (pq_g1 tc_X9_put) rfl rfl rfl (hw.nw 130 rfl) (hU _ tw5) cd_X9_put.2 ⟨Nat.le_of_ble_eq_true rfl, Nat.le_of_ble_eq_true rfl⟩, hU _ tw673, hU _ ts23⟩ (pw_preV hw Tq33 (by decide) rfl) rfl rfl hl.1 rfl (lv_room (Nat.le_of_ble_eq_true rfl)) dX6_readCarry_93 ⟨Nat.zero_le _, Nat.zero_le _⟩) hw (fun H locs hw hx36 => ?_)
  have Ta0 : TY S_34 a0 6 := ty_ext hx36 Ta0
  have Ta1 : TY S_34 a1 10 := ty_ext hx36 Ta1
  have hE : Ext S0 S_34 := Ext.tr hE hx36
  refine lv_aload_n hx hb dX6_readCarry_96 rfl (lv_at hl 0 rfl) ?_
  obtain ⟨q37, hq37, hm⟩ := bd_some hm
  have Tq37 : TY S_34 q37 9 := hw.wf.ref (k := 6) (j := 0) Ta0 (by decide) (by decide) hq37
  refine pg_rb (k := 6) (j := 0) (f := 600) hx hb hown hU iu6 hw Ta0 (by decide) rfl (hU _ tw309) rfl hq37 dX6_readCarry_97 ?_
  refine lv_iload_n hx hb dX6_readCarry_100 rfl (lv_at hl 2 rfl) ?_
  refine lv_iconst (v := 3) hx hb dX6_readCarry_101 (by decide) ?_
  refine lv_aload_n hx hb dX6_readCarry_102 rfl (lv_at hl 1 rfl) ?_
  refine lv_iconst (v := 1) hx hb dX6_readCarry_103 (by decide) ?_
  refine lv_bipush (v := 99) hx hb dX6_readCarry_104 (by decide) ?_
  obtain ⟨r40, S_38, hq39, hm⟩ := cb_some hm
  refine pw_ci (va_runVN (As := [.int 1, .int 99]) (rest := [.int 3, .int x3, .ref q37]) ⟨hx, hb, hml, hown, hU⟩ (c_X10_takeNumber l C X n S_34 hw.wf _ a1 1 99 (Ta1) r40 S_38 hq39) ⟨va_cnB (host := "WickNights") 2 hU (pq_g1 tc_X10_takeNumber) rfl rfl rfl (hw.nw 128 rfl) (hU _ tw2) cd_X10_takeNumber.2 ⟨Nat.le_of_ble_eq_true rfl, Nat.le_of_ble_eq_true rfl⟩, hU _ tw668, hU _ ts22⟩ (pw_preV hw Ta1 (by decide) rfl) rfl rfl hl.1 rfl (lv_room (Nat.le_of_ble_eq_true rfl)) dX6_readCarry_106 ⟨Nat.zero_le _, Nat.zero_le _⟩) hw (fun H locs hw hx41 => ?_)
  have Tq37 : TY S_38 q37 9 := ty_ext hx41 Tq37
  have Ta0 : TY S_38 a0 6 := ty_ext hx41 Ta0
  have Ta1 : TY S_38 a1 10 := ty_ext hx41 Ta1
  have hE : Ext S0 S_38 := Ext.tr hE hx41
  obtain ⟨S_42, hq43, hm⟩ := bd_some hm
  refine pw_cv (va_runVN (As := [.int x3, .int 3, .int r40]) (rest := []) ⟨hx, hb, hml, hown, hU⟩ (c_X9_put l C X n S_38 hw.wf _ q37 x3 3 r40 (Tq37) S_42 hq43) ⟨va_cnB (host := "WickNights") 3 hU (pq_g1 tc_X9_put) rfl rfl rfl (hw.nw 130 rfl) (hU _ tw5) cd_X9_put.2 ⟨Nat.le_of_ble_eq_true rfl, Nat.le_of_ble_eq_true rfl⟩, hU _ tw673, hU _ ts23⟩ (pw_preV hw Tq37 (by decide) rfl) rfl rfl hl.1 rfl (lv_room (Nat.le_of_ble_eq_true rfl)) dX6_readCarry_109 ⟨Nat.zero_le _, Nat.zero_le _⟩) hw (fun H locs hw hx44 => ?_)
  have Ta0 : TY S_42 a0 6 := ty_ext hx44 Ta0
  have Ta1 : TY S_42 a1 10 := ty_ext hx44 Ta1
  have hE : Ext S0 S_42 := Ext.tr hE hx44
  refine lv_aload_n hx hb dX6_readCarry_112 rfl (lv_at hl 0 rfl) ?_
  obtain ⟨q45, hq45, hm⟩ := bd_some hm
  have Tq45 : TY S_42 q45 9 := hw.wf.ref (k := 6) (j := 0) Ta0 (by decide) (by decide) hq45
  refine pg_rb (k := 6) (j := 0) (f := 600) hx hb hown hU iu6 hw Ta0 (by decide) rfl (hU _ tw309) rfl hq45 dX6_readCarry_113 ?_
  refine lv_iload_n hx hb dX6_readCarry_116 rfl (lv_at hl 2 rfl) ?_
  refine lv_iconst (v := 4) hx hb dX6_readCarry_117 (by decide) ?_
  refine lv_aload_n hx hb dX6_readCarry_118 rfl (lv_at hl 1 rfl) ?_
  refine lv_iconst (v := 0) hx hb dX6_readCarry_119 (by decide) ?_
  refine lv_iconst (v := 1) hx hb dX6_readCarry_120 (by decide) ?_
  obtain ⟨r48, S_46, hq47, hm⟩ := cb_some hm
  refine pw_ci (va_runVN (As := [.int 0, .int 1]) (rest := [.int 4, .int x3, .ref q45]) ⟨hx, hb, hml, hown, hU⟩ (c_X10_takeNumber l C X n S_42 hw.wf _ a1 0 1 (Ta1) r48 S_46 hq47) ⟨va_cnB (host := "WickNights") 2 hU (pq_g1 tc_X10_takeNumber) rfl rfl rfl (hw.nw 128 rfl) (hU _ tw2) cd_X10_takeNumber.2 ⟨Nat.le_of_ble_eq_true rfl, Nat.le_of_ble_eq_true rfl⟩, hU _ tw668, hU _ ts22⟩ (pw_preV hw Ta1 (by decide) rfl) rfl rfl hl.1 rfl (lv_room (Nat.le_of_ble_eq_true rfl)) dX6_readCarry_121 ⟨Nat.zero_le _, Nat.zero_le _⟩) hw (fun H locs hw hx49 => ?_)
  have Tq45 : TY S_46 q45 9 := ty_ext hx49 Tq45
  have Ta0 : TY S_46 a0 6 := ty_ext hx49 Ta0
  have Ta1 : TY S_46 a1 10 := ty_ext hx49 Ta1
  have hE : Ext S0 S_46 := Ext.tr hE hx49
  refine lv_iconst (v := 1) hx hb dX6_readCarry_124 (by decide) ?_
  refine lv_icmp_ne (tgt := 132) hx hb dX6_readCarry_125 (by decide) (fun h50 => ?_) (fun h50 => ?_)
  · rw [if_neg h50] at hm
    refine lv_iconst (v := 1) hx hb dX6_readCarry_132 (by decide) ?_
    exact wb_X6_readCarry_133 cx C X S0 n S1 q45 x3 4 1 S_46 _ _ _ hw hE Tq45 (lv_sub hl [] rfl) hm
  · rw [if_pos h50] at hm
    refine lv_iconst (v := 0) hx hb dX6_readCarry_128 (by decide) ?_
    refine lv_goto (tgt := 133) hx hb dX6_readCarry_129 (by decide) ?_
    exact wb_X6_readCarry_133 cx C X S0 n S1 q45 x3 4 0 S_46 _ _ _ hw hE Tq45 (lv_sub hl [] rfl) hm
def m_X6_readCarry (n : Nat) (a0 : Nat) (a1 : Nat) (a2 : Nat) (x3 : Int32) (S0 : pq_S) : Option pq_S := Option.bind (pR S0 100 a2) fun q1 => cb (m_X10_takeNumber n a1 0 ((pI S0 902 q1) - (1 : Int32)) S0) fun r4 S_2 => cb (m_X10_next n a1 S_2) fun r8 S_6 => Option.bind (pR S_6 100 a2) fun q10 => cb (m_X10_takeNumber n a1 0 ((pI S_6 902 q10) - (1 : Int32)) S_6) fun r13 S_11 => cb (m_X10_isWell n a1 S_11) fun r17 S_15 => if r17 = 0 then b_X6_readCarry_64 n a0 a1 x3 r4 r13 S_15 else if r13 = r4 then Option.bind (m_X10_refuse n a1 2 (pI S_6 1003 a1) S_15) fun S_22 => b_X6_readCarry_64 n a0 a1 x3 r4 r13 S_22 else b_X6_readCarry_64 n a0 a1 x3 r4 r13 S_15
theorem tc_X6_readCarry : Cond.code yX6_readCarry cX6_readCarry 7 none ∈ pq_U := tw823
theorem cd_X6_readCarry : yX6_readCarry.cls = RX6 ∧ yX6_readCarry.cls ≠ "java/lang/invoke/MethodHandle" ∧ yX6_readCarry.cls ≠ "java/lang/invoke/VarHandle" ∧ (parseMethodDescriptor yX6_readCarry.desc).map (fun d => d.parameters.length) = some 3 := by decide +kernel
set_option maxHeartbeats 4000000 in
set_option maxRecDepth 100000 in
theorem c_X6_readCarry (l : Launch) (C : pq_C) (X : va_W) (n : Nat) (S0 : pq_S) (hF : WF S0) (sz : Nat) (a0 : Nat) (a1 : Nat) (a2 : Nat) (x3 : Int32) (Ta0 : TY S0 a0 6) (Ta1 : TY S0 a1 10) (Ta2 : TY S0 a2 1) (S1 : pq_S) (hm : m_X6_readCarry n a0 a1 a2 x3 S0 = some S1) : MV l yX6_readCarry (.code yX6_readCarry cX6_readCarry 7 none :: pq_U) rm_X6_readCarry C X S0 sz [.ref a0, .ref a1, .ref a2, .int x3] S1 0 0 := by
  refine Met.ofW (cc := cX6_readCarry) (maxL := 7) (ret := none) (by decide) rfl ?_
  intro p e s m args below meth c s₁ B hml hv
  obtain ⟨rfl, hv⟩ := hv
  have hsz := hv.1
  subst hsz
  have hw := pw_entry hF hv
  have hts := atoms_spec (ws := .code yX6_readCarry cX6_readCarry 7 none :: pq_U) B.pre
  have hU : ∀ w ∈ pq_U, w.before _ s = true := fun w h => hts w (List.mem_cons_of_mem _ h)
  have hx := B.exec
  have hb := B.bytes
  have hr := B.returns
  have hown : s.vm.findClass RX6 = some m.cls := findClass_of_methodNamed B.named
  have hlk := B.notSynchronized
  have hl := lv_entry ([.ref a0, .ref a1, .ref a2, .int x3]) (n := 7) (Nat.le_of_ble_eq_true rfl)
  rw [lg_entry_eq]
  generalize (lg_sl ([.ref a0, .ref a1, .ref a2, .int x3]) ++ List.replicate (7 - (lg_sl ([.ref a0, .ref a1, .ref a2, .int x3])).length) Slot.unset).toArray = ls at hl ⊢
  have hl : lv_has ls 7 [(0, .ref a0), (1, .ref a1), (2, .ref a2), (3, .int x3)] := hl
  have hE : Ext S0 S0 := Ext.rf _
  have cx : Cx p s m _ meth c cX6_readCarry 7 RX6 none := ⟨hx, hb, hml, hown, hU, hr, hlk⟩
  rw [m_X6_readCarry] at hm
  refine lv_aload_n hx hb dX6_readCarry_0 rfl (lv_at hl 1 rfl) ?_
  refine lv_iconst (v := 0) hx hb dX6_readCarry_1 (by decide) ?_
  refine lv_aload_n hx hb dX6_readCarry_2 rfl (lv_at hl 2 rfl) ?_
  obtain ⟨q1, hq1, hm⟩ := bd_some hm
  have Tq1 : TY S0 q1 9 := hw.wf.ref (k := 1) (j := 0) Ta2 (by decide) (by decide) hq1
  refine pgN_rb (k := 1) (j := 0) (f := 100) hx hb hown hU iu1 hw Ta2 (by decide) rfl 23 rfl rfl hq1 dX6_readCarry_3 ?_
  refine pgN_i (k := 9) (j := 2) (f := 902) hx hb hown hU iu9 hw Tq1 (by decide) rfl 16 rfl rfl dX6_readCarry_6 ?_
  refine lv_iconst (v := 1) hx hb dX6_readCarry_9 (by decide) ?_
  refine lv_isub hx hb dX6_readCarry_10 ?_
  obtain ⟨r4, S_2, hq3, hm⟩ := cb_some hm
  refine pw_ci (va_runVN (As := [.int 0, .int ((pI S0 902 q1) - (1 : Int32))]) (rest := []) ⟨hx, hb, hml, hown, hU⟩ (c_X10_takeNumber l C X n S0 hw.wf _ a1 0 ((pI S0 902 q1) - (1 : Int32)) (Ta1) r4 S_2 hq3) ⟨va_cnB (host := "WickNights") 2 hU (pq_g1 tc_X10_takeNumber) rfl rfl rfl (hw.nw 128 rfl) (hU _ tw2) cd_X10_takeNumber.2 ⟨Nat.le_of_ble_eq_true rfl, Nat.le_of_ble_eq_true rfl⟩, hU _ tw668, hU _ ts22⟩ (pw_preV hw Ta1 (by decide) rfl) rfl rfl hl.1 rfl (lv_room (Nat.le_of_ble_eq_true rfl)) dX6_readCarry_11 ⟨Nat.zero_le _, Nat.zero_le _⟩) hw (fun H locs hw hx5 => ?_)
  have Ta0 : TY S_2 a0 6 := ty_ext hx5 Ta0
  have Ta1 : TY S_2 a1 10 := ty_ext hx5 Ta1
  have Ta2 : TY S_2 a2 1 := ty_ext hx5 Ta2
  have hE : Ext S0 S_2 := Ext.tr hE hx5
  refine lv_istore (lv' := [(4, .int r4), (0, .ref a0), (1, .ref a1), (2, .ref a2), (3, .int x3)]) hx hb dX6_readCarry_14 hl (by decide) rfl (fun ls hl => ?_)
  refine lv_aload_n hx hb dX6_readCarry_16 rfl (lv_at hl 2 rfl) ?_
  obtain ⟨r8, S_6, hq7, hm⟩ := cb_some hm
  refine pw_ci (va_runVN (As := []) (rest := []) ⟨hx, hb, hml, hown, hU⟩ (c_X10_next l C X n S_2 hw.wf _ a1 (Ta1) r8 S_6 hq7) ⟨va_cnB (host := "WickNights") 0 hU (pq_g1 tc_X10_next) rfl rfl rfl (hw.nw 123 rfl) (hU _ tw2) cd_X10_next.2 ⟨Nat.le_of_ble_eq_true rfl, Nat.le_of_ble_eq_true rfl⟩, hU _ tw572, hU _ ts12⟩ (pw_preV hw Ta1 (by decide) rfl) rfl rfl hl.1 rfl (lv_room (Nat.le_of_ble_eq_true rfl)) dX6_readCarry_17 ⟨Nat.zero_le _, Nat.zero_le _⟩) hw (fun H locs hw hx9 => ?_)
  have Ta0 : TY S_6 a0 6 := ty_ext hx9 Ta0
  have Ta1 : TY S_6 a1 10 := ty_ext hx9 Ta1
  have Ta2 : TY S_6 a2 1 := ty_ext hx9 Ta2
  have hE : Ext S0 S_6 := Ext.tr hE hx9
  refine lv_pop hx hb dX6_readCarry_20 rfl ?_
  refine lv_aload_n hx hb dX6_readCarry_21 rfl (lv_at hl 2 rfl) ?_
  refine pgN_i (k := 10) (j := 3) (f := 1003) hx hb hown hU iu10 hw Ta1 (by decide) rfl 3 rfl rfl dX6_readCarry_22 ?_
  refine lv_istore (lv' := [(5, .int (pI S_6 1003 a1)), (4, .int r4), (0, .ref a0), (1, .ref a1), (2, .ref a2), (3, .int x3)]) hx hb dX6_readCarry_25 hl (by decide) rfl (fun ls hl => ?_)
  refine lv_aload_n hx hb dX6_readCarry_27 rfl (lv_at hl 3 rfl) ?_
  refine lv_iconst (v := 0) hx hb dX6_readCarry_28 (by decide) ?_
  refine lv_aload_n hx hb dX6_readCarry_29 rfl (lv_at hl 4 rfl) ?_
  obtain ⟨q10, hq10, hm⟩ := bd_some hm
  have Tq10 : TY S_6 q10 9 := hw.wf.ref (k := 1) (j := 0) Ta2 (by decide) (by decide) hq10
  refine pgN_rb (k := 1) (j := 0) (f := 100) hx hb hown hU iu1 hw Ta2 (by decide) rfl 23 rfl rfl hq10 dX6_readCarry_30 ?_
  refine pgN_i (k := 9) (j := 2) (f := 902) hx hb hown hU iu9 hw Tq10 (by decide) rfl 16 rfl rfl dX6_readCarry_33 ?_
  refine lv_iconst (v := 1) hx hb dX6_readCarry_36 (by decide) ?_
  refine lv_isub hx hb dX6_readCarry_37 ?_
  obtain ⟨r13, S_11, hq12, hm⟩ := cb_some hm
  refine pw_ci (va_runVN (As := [.int 0, .int ((pI S_6 902 q10) - (1 : Int32))]) (rest := []) ⟨hx, hb, hml, hown, hU⟩ (c_X10_takeNumber l C X n S_6 hw.wf _ a1 0 ((pI S_6 902 q10) - (1 : Int32)) (Ta1) r13 S_11 hq12) ⟨va_cnB (host := "WickNights") 2 hU (pq_g1 tc_X10_takeNumber) rfl rfl rfl (hw.nw 128 rfl) (hU _ tw2) cd_X10_takeNumber.2 ⟨Nat.le_of_ble_eq_true rfl, Nat.le_of_ble_eq_true rfl⟩, hU _ tw668, hU _ ts22⟩ (pw_preV hw Ta1 (by decide) rfl) rfl rfl hl.1 rfl (lv_room (Nat.le_of_ble_eq_true rfl)) dX6_readCarry_38 ⟨Nat.zero_le _, Nat.zero_le _⟩) hw (fun H locs hw hx14 => ?_)
  have Ta0 : TY S_11 a0 6 := ty_ext hx14 Ta0
  have Ta1 : TY S_11 a1 10 := ty_ext hx14 Ta1
  have Ta2 : TY S_11 a2 1 := ty_ext hx14 Ta2
  have hE : Ext S0 S_11 := Ext.tr hE hx14
  refine lv_istore (lv' := [(6, .int r13), (5, .int (pI S_6 1003 a1)), (4, .int r4), (0, .ref a0), (1, .ref a1), (2, .ref a2), (3, .int x3)]) hx hb dX6_readCarry_41 hl (by decide) rfl (fun ls hl => ?_)
  refine lv_aload_n hx hb dX6_readCarry_43 rfl (lv_at hl 4 rfl) ?_
  obtain ⟨r17, S_15, hq16, hm⟩ := cb_some hm
  refine pw_cz (va_runVN (As := []) (rest := []) ⟨hx, hb, hml, hown, hU⟩ (c_X10_isWell l C X n S_11 hw.wf _ a1 (Ta1) r17 S_15 hq16) ⟨va_cnB (host := "WickNights") 0 hU (pq_g1 tc_X10_isWell) rfl rfl rfl (hw.nw 125 rfl) (hU _ tw2) cd_X10_isWell.2 ⟨Nat.le_of_ble_eq_true rfl, Nat.le_of_ble_eq_true rfl⟩, hU _ tw594, hU _ ts17⟩ (pw_preV hw Ta1 (by decide) rfl) rfl rfl hl.1 rfl (lv_room (Nat.le_of_ble_eq_true rfl)) dX6_readCarry_44 ⟨Nat.zero_le _, Nat.zero_le _⟩) hw (fun H locs hw hx18 hz19 => ?_)
  have Ta0 : TY S_15 a0 6 := ty_ext hx18 Ta0
  have Ta1 : TY S_15 a1 10 := ty_ext hx18 Ta1
  have Ta2 : TY S_15 a2 1 := ty_ext hx18 Ta2
  have hE : Ext S0 S_15 := Ext.tr hE hx18
  refine lv_if_eq (tgt := 64) hx hb dX6_readCarry_47 (by decide) (fun h20 => ?_) (fun h20 => ?_)
  · rw [if_pos h20] at hm
    exact wb_X6_readCarry_64 cx C X S0 n S1 a0 a1 x3 r4 r13 S_15 _ _ _ hw hE Ta0 Ta1 (lv_sub hl [3, 4, 6, 2, 0] rfl) hm
  · rw [if_neg h20] at hm
    refine lv_iload hx hb dX6_readCarry_50 (lv_at hl 0 rfl) ?_
    refine lv_iload hx hb dX6_readCarry_52 (lv_at hl 2 rfl) ?_
    refine lv_icmp_ne (tgt := 64) hx hb dX6_readCarry_54 (by decide) (fun h21 => ?_) (fun h21 => ?_)
    · rw [if_neg h21] at hm
      exact wb_X6_readCarry_64 cx C X S0 n S1 a0 a1 x3 r4 r13 S_15 _ _ _ hw hE Ta0 Ta1 (lv_sub hl [3, 4, 6, 2, 0] rfl) hm
    · rw [if_pos h21] at hm
      refine lv_aload_n hx hb dX6_readCarry_57 rfl (lv_at hl 4 rfl) ?_
      refine lv_iconst (v := 2) hx hb dX6_readCarry_58 (by decide) ?_
      refine lv_iload hx hb dX6_readCarry_59 (lv_at hl 1 rfl) ?_
      obtain ⟨S_22, hq23, hm⟩ := bd_some hm
      refine pw_cv (va_runVN (As := [.int 2, .int (pI S_6 1003 a1)]) (rest := []) ⟨hx, hb, hml, hown, hU⟩ (c_X10_refuse l C X n S_15 hw.wf _ a1 2 (pI S_6 1003 a1) (Ta1) S_22 hq23) ⟨va_cnB (host := "WickNights") 2 hU (pq_g1 tc_X10_refuse) rfl rfl rfl (hw.nw 129 rfl) (hU _ tw2) cd_X10_refuse.2 ⟨Nat.le_of_ble_eq_true rfl, Nat.le_of_ble_eq_true rfl⟩, hU _ tw586, hU _ ts15⟩ (pw_preV hw Ta1 (by decide) rfl) rfl rfl hl.1 rfl (lv_room (Nat.le_of_ble_eq_true rfl)) dX6_readCarry_61 ⟨Nat.zero_le _, Nat.zero_le _⟩) hw (fun H locs hw hx24 => ?_)
      have Ta0 : TY S_22 a0 6 := ty_ext hx24 Ta0
      have Ta1 : TY S_22 a1 10 := ty_ext hx24 Ta1
      have Ta2 : TY S_22 a2 1 := ty_ext hx24 Ta2
      have hE : Ext S0 S_22 := Ext.tr hE hx24
      exact wb_X6_readCarry_64 cx C X S0 n S1 a0 a1 x3 r4 r13 S_22 _ _ _ hw hE Ta0 Ta1 (lv_sub hl [3, 4, 6, 2, 0] rfl) hm
abbrev rm_X7_arriving : Room := { frames := 3, cells := 0, slots := 0, locals := 91 }
def b_X7_arriving_54 (n : Nat) (x3 : Int32) (z0 : Int32) (S : pq_S) : Option (Int32 × pq_S) := some ((if 0 < (if x3 < z0 then x3 else z0) then (if x3 < z0 then x3 else z0) else 0), S)
set_option maxHeartbeats 4000000 in
set_option maxRecDepth 100000 in
theorem wb_X7_arriving_54 {p : Program} {l : Launch} {e : Env} {s : State} {m : MethodId} {args : Array Value} {below : List Frame} {meth : Method} {c : Code} (cx : Cx p s m args meth c cX7_arriving 7 RX7 (some .int)) (C : pq_C) (X : va_W) (S0 : pq_S) (n : Nat) (r : Int32) (S1 : pq_S) : ∀ (x3 : Int32) (z0 : Int32) (S : pq_S) (H : Heap) (locs : List Loc) (ls : Array Slot), PW C X S (pq_F C X S0 s.heap.size) H locs s → Ext S0 S → lv_has ls 7 [(3, .int x3)] → b_X7_arriving_54 n x3 z0 S = some (r, S1) → W p l e rm_X7_arriving s m args below meth c H locs 0 0 (MQ below (QcI C X S0 s.heap.size r S1) args s 0 0 (pq_F C X S0 s.heap.size)) (F0 m 54 ls [.int z0]) := by
  obtain ⟨hx, hb, hml, hown, hU, hr, hlk⟩ := id cx
  intro x3 z0 S H locs ls hw hE hl hm
  rw [b_X7_arriving_54] at hm
  refine lv_istore (lv' := [(6, .int z0), (3, .int x3)]) hx hb dX7_arriving_54 hl (by decide) rfl (fun ls hl => ?_)
  refine lv_iconst (v := 0) hx hb dX7_arriving_56 (by decide) ?_
  refine lv_iload hx hb dX7_arriving_57 (lv_at hl 0 rfl) ?_
  refine lv_iload_n hx hb dX7_arriving_59 rfl (lv_at hl 1 rfl) ?_
  refine va_mmin hx hb (by rw [hml]; exact hl.1.symm) hown (hU _ tw893) (hU _ twm_min_s) (hU _ twm_i) (hU _ twm_min_c) (Nat.le_of_ble_eq_true rfl) (Nat.le_of_ble_eq_true rfl) (Nat.zero_le _) (Nat.zero_le _) dX7_arriving_60 ?_
  refine va_mmax hx hb (by rw [hml]; exact hl.1.symm) hown (hU _ tw894) (hU _ twm_max_s) (hU _ twm_i) (hU _ twm_max_c) (Nat.le_of_ble_eq_true rfl) (Nat.le_of_ble_eq_true rfl) (Nat.zero_le _) (Nat.zero_le _) dX7_arriving_63 ?_
  cases hm
  exact pw_iret hx hb hr rfl hlk hw hE dX7_arriving_66
def m_X7_arriving (n : Nat) (a0 : Nat) (x1 : Int32) (x2 : Int32) (x3 : Int32) (x4 : Int32) (S0 : pq_S) : Option (Int32 × pq_S) := Option.bind (pR S0 700 a0) fun q1 => cb (m_X1_milesBetween n q1 x1 x2 S0) fun r4 S_2 => Option.bind (pR S_2 702 a0) fun q6 => cb (m_X2_isTold n q6 S_2) fun r9 S_7 => if r9 = 0 then b_X7_arriving_54 n x3 (x3 - ((x3 * r4) / 40)) S_7 else Option.bind (pR S_7 702 a0) fun q13 => Option.bind (pR S_7 701 a0) fun q14 => cb (m_X2_value n q13 x3 r4 x4 0 0 (pI S_7 803 q14) S_7) fun r17 S_15 => b_X7_arriving_54 n x3 r17 S_15
theorem tc_X7_arriving : Cond.code yX7_arriving cX7_arriving 7 (some .int) ∈ pq_U := tw864
theorem cd_X7_arriving : yX7_arriving.cls = RX7 ∧ yX7_arriving.cls ≠ "java/lang/invoke/MethodHandle" ∧ yX7_arriving.cls ≠ "java/lang/invoke/VarHandle" ∧ (parseMethodDescriptor yX7_arriving.desc).map (fun d => d.parameters.length) = some 4 := by decide +kernel
set_option maxHeartbeats 4000000 in
set_option maxRecDepth 100000 in
theorem c_X7_arriving (l : Launch) (C : pq_C) (X : va_W) (n : Nat) (S0 : pq_S) (hF : WF S0) (sz : Nat) (a0 : Nat) (x1 : Int32) (x2 : Int32) (x3 : Int32) (x4 : Int32) (Ta0 : TY S0 a0 7) (r : Int32) (S1 : pq_S) (hm : m_X7_arriving n a0 x1 x2 x3 x4 S0 = some (r, S1)) : MI l yX7_arriving (.code yX7_arriving cX7_arriving 7 (some .int) :: pq_U) rm_X7_arriving C X S0 sz [.ref a0, .int x1, .int x2, .int x3, .int x4] r S1 0 0 := by
  refine Met.ofW (cc := cX7_arriving) (maxL := 7) (ret := (some .int)) (by decide) rfl ?_
  intro p e s m args below meth c s₁ B hml hv
  obtain ⟨rfl, hv⟩ := hv
  have hsz := hv.1
  subst hsz
  have hw := pw_entry hF hv
  have hts := atoms_spec (ws := .code yX7_arriving cX7_arriving 7 (some .int) :: pq_U) B.pre
  have hU : ∀ w ∈ pq_U, w.before _ s = true := fun w h => hts w (List.mem_cons_of_mem _ h)
  have hx := B.exec
  have hb := B.bytes
  have hr := B.returns
  have hown : s.vm.findClass RX7 = some m.cls := findClass_of_methodNamed B.named
  have hlk := B.notSynchronized
  have hl := lv_entry ([.ref a0, .int x1, .int x2, .int x3, .int x4]) (n := 7) (Nat.le_of_ble_eq_true rfl)
  rw [lg_entry_eq]
  generalize (lg_sl ([.ref a0, .int x1, .int x2, .int x3, .int x4]) ++ List.replicate (7 - (lg_sl ([.ref a0, .int x1, .int x2, .int x3, .int x4])).length) Slot.unset).toArray = ls at hl ⊢
  have hl : lv_has ls 7 [(0, .ref a0), (1, .int x1), (2, .int x2), (3, .int x3), (4, .int x4)] := hl
  have hE : Ext S0 S0 := Ext.rf _
  have cx : Cx p s m _ meth c cX7_arriving 7 RX7 (some .int) := ⟨hx, hb, hml, hown, hU, hr, hlk⟩
  rw [m_X7_arriving] at hm
  refine lv_aload_n hx hb dX7_arriving_0 rfl (lv_at hl 0 rfl) ?_
  obtain ⟨q1, hq1, hm⟩ := bd_some hm
  have Tq1 : TY S0 q1 1 := hw.wf.ref (k := 7) (j := 0) Ta0 (by decide) (by decide) hq1
  refine pg_rb (k := 7) (j := 0) (f := 700) hx hb hown hU iu7 hw Ta0 (by decide) rfl (hU _ tw205) rfl hq1 dX7_arriving_1 ?_
  refine lv_iload_n hx hb dX7_arriving_4 rfl (lv_at hl 1 rfl) ?_
  refine lv_iload_n hx hb dX7_arriving_5 rfl (lv_at hl 2 rfl) ?_
  obtain ⟨r4, S_2, hq3, hm⟩ := cb_some hm
  refine pw_ci (va_runVN (As := [.int x1, .int x2]) (rest := []) ⟨hx, hb, hml, hown, hU⟩ (c_X1_milesBetween l C X n S0 hw.wf _ q1 x1 x2 (Tq1) r4 S_2 hq3) ⟨va_cnB (host := "WickNights") 2 hU (pq_g1 tc_X1_milesBetween) rfl rfl rfl (hw.nw 137 rfl) (hU _ tw4) cd_X1_milesBetween.2 ⟨Nat.le_of_ble_eq_true rfl, Nat.le_of_ble_eq_true rfl⟩, hU _ tw867, hU _ ts54⟩ (pw_preV hw Tq1 (by decide) rfl) rfl rfl hl.1 rfl (lv_room (Nat.le_of_ble_eq_true rfl)) dX7_arriving_6 ⟨Nat.zero_le _, Nat.zero_le _⟩) hw (fun H locs hw hx5 => ?_)
  have Ta0 : TY S_2 a0 7 := ty_ext hx5 Ta0
  have hE : Ext S0 S_2 := Ext.tr hE hx5
  refine lv_istore (lv' := [(5, .int r4), (0, .ref a0), (1, .int x1), (2, .int x2), (3, .int x3), (4, .int x4)]) hx hb dX7_arriving_9 hl (by decide) rfl (fun ls hl => ?_)
  refine lv_aload_n hx hb dX7_arriving_11 rfl (lv_at hl 1 rfl) ?_
  obtain ⟨q6, hq6, hm⟩ := bd_some hm
  have Tq6 : TY S_2 q6 2 := hw.wf.ref (k := 7) (j := 2) Ta0 (by decide) (by decide) hq6
  refine pg_rb (k := 7) (j := 2) (f := 702) hx hb hown hU iu7 hw Ta0 (by decide) rfl (hU _ tw212) rfl hq6 dX7_arriving_12 ?_
  obtain ⟨r9, S_7, hq8, hm⟩ := cb_some hm
  refine pw_cz (va_runVN (As := []) (rest := []) ⟨hx, hb, hml, hown, hU⟩ (c_X2_isTold l C X n S_2 hw.wf _ q6 (Tq6) r9 S_7 hq8) ⟨va_cnB (host := "WickNights") 0 hU (pq_g1 tc_X2_isTold) rfl rfl rfl (hw.nw 139 rfl) (hU _ tw7) cd_X2_isTold.2 ⟨Nat.le_of_ble_eq_true rfl, Nat.le_of_ble_eq_true rfl⟩, hU _ tw875, hU _ ts55⟩ (pw_preV hw Tq6 (by decide) rfl) rfl rfl hl.1 rfl (lv_room (Nat.le_of_ble_eq_true rfl)) dX7_arriving_15 ⟨Nat.zero_le _, Nat.zero_le _⟩) hw (fun H locs hw hx10 hz11 => ?_)
  have Ta0 : TY S_7 a0 7 := ty_ext hx10 Ta0
  have hE : Ext S0 S_7 := Ext.tr hE hx10
  refine lv_if_eq (tgt := 45) hx hb dX7_arriving_18 (by decide) (fun h12 => ?_) (fun h12 => ?_)
  · rw [if_pos h12] at hm
    refine lv_iload_n hx hb dX7_arriving_45 rfl (lv_at hl 4 rfl) ?_
    refine lv_iload_n hx hb dX7_arriving_46 rfl (lv_at hl 4 rfl) ?_
    refine lv_iload hx hb dX7_arriving_47 (lv_at hl 0 rfl) ?_
    refine lv_imul hx hb dX7_arriving_49 ?_
    refine lv_bipush (v := 40) hx hb dX7_arriving_50 (by decide) ?_
    refine lv_idiv hx hb dX7_arriving_52 (by decide) ?_
    refine lv_isub hx hb dX7_arriving_53 ?_
    exact wb_X7_arriving_54 cx C X S0 n r S1 x3 (x3 - ((x3 * r4) / 40)) S_7 _ _ _ hw hE  (lv_sub hl [4] rfl) hm
  · rw [if_neg h12] at hm
    refine lv_aload_n hx hb dX7_arriving_21 rfl (lv_at hl 1 rfl) ?_
    obtain ⟨q13, hq13, hm⟩ := bd_some hm
    have Tq13 : TY S_7 q13 2 := hw.wf.ref (k := 7) (j := 2) Ta0 (by decide) (by decide) hq13
    refine pg_rb (k := 7) (j := 2) (f := 702) hx hb hown hU iu7 hw Ta0 (by decide) rfl (hU _ tw212) rfl hq13 dX7_arriving_22 ?_
    refine lv_iload_n hx hb dX7_arriving_25 rfl (lv_at hl 4 rfl) ?_
    refine lv_iload hx hb dX7_arriving_26 (lv_at hl 0 rfl) ?_
    refine lv_iload hx hb dX7_arriving_28 (lv_at hl 5 rfl) ?_
    refine lv_iconst (v := 0) hx hb dX7_arriving_30 (by decide) ?_
    refine lv_iconst (v := 0) hx hb dX7_arriving_31 (by decide) ?_
    refine lv_aload_n hx hb dX7_arriving_32 rfl (lv_at hl 1 rfl) ?_
    obtain ⟨q14, hq14, hm⟩ := bd_some hm
    have Tq14 : TY S_7 q14 8 := hw.wf.ref (k := 7) (j := 1) Ta0 (by decide) (by decide) hq14
    refine pg_rb (k := 7) (j := 1) (f := 701) hx hb hown hU iu7 hw Ta0 (by decide) rfl (hU _ tw209) rfl hq14 dX7_arriving_33 ?_
    refine pgN_i (k := 8) (j := 3) (f := 803) hx hb hown hU iu8 hw Tq14 (by decide) rfl 49 rfl rfl dX7_arriving_36 ?_
    obtain ⟨r17, S_15, hq16, hm⟩ := cb_some hm
    refine pw_ci (va_runVN (As := [.int x3, .int r4, .int x4, .int 0, .int 0, .int (pI S_7 803 q14)]) (rest := []) ⟨hx, hb, hml, hown, hU⟩ (c_X2_value l C X n S_7 hw.wf _ q13 x3 r4 x4 0 0 (pI S_7 803 q14) (Tq13) r17 S_15 hq16) ⟨va_cnB (host := "WickNights") 6 hU (pq_g1 tc_X2_value) rfl rfl rfl (hw.nw 140 rfl) (hU _ tw7) cd_X2_value.2 ⟨Nat.le_of_ble_eq_true rfl, Nat.le_of_ble_eq_true rfl⟩, hU _ tw879, hU _ ts56⟩ (pw_preV hw Tq13 (by decide) rfl) rfl rfl hl.1 rfl (lv_room (Nat.le_of_ble_eq_true rfl)) dX7_arriving_39 ⟨Nat.zero_le _, Nat.zero_le _⟩) hw (fun H locs hw hx18 => ?_)
    have Ta0 : TY S_15 a0 7 := ty_ext hx18 Ta0
    have hE : Ext S0 S_15 := Ext.tr hE hx18
    refine lv_goto (tgt := 54) hx hb dX7_arriving_42 (by decide) ?_
    exact wb_X7_arriving_54 cx C X S0 n r S1 x3 r17 S_15 _ _ _ hw hE  (lv_sub hl [4] rfl) hm
abbrev rm_X7_comingOut : Room := { frames := 3, cells := 0, slots := 0, locals := 91 }
def b_X7_comingOut_35 (n : Nat) (x2 : Int32) (z0 : Int32) (S : pq_S) : Option (Int32 × pq_S) := some ((if 0 < (if x2 < z0 then x2 else z0) then (if x2 < z0 then x2 else z0) else 0), S)
set_option maxHeartbeats 4000000 in
set_option maxRecDepth 100000 in
theorem wb_X7_comingOut_35 {p : Program} {l : Launch} {e : Env} {s : State} {m : MethodId} {args : Array Value} {below : List Frame} {meth : Method} {c : Code} (cx : Cx p s m args meth c cX7_comingOut 5 RX7 (some .int)) (C : pq_C) (X : va_W) (S0 : pq_S) (n : Nat) (r : Int32) (S1 : pq_S) : ∀ (x2 : Int32) (z0 : Int32) (S : pq_S) (H : Heap) (locs : List Loc) (ls : Array Slot), PW C X S (pq_F C X S0 s.heap.size) H locs s → Ext S0 S → lv_has ls 5 [(2, .int x2)] → b_X7_comingOut_35 n x2 z0 S = some (r, S1) → W p l e rm_X7_comingOut s m args below meth c H locs 0 0 (MQ below (QcI C X S0 s.heap.size r S1) args s 0 0 (pq_F C X S0 s.heap.size)) (F0 m 35 ls [.int z0]) := by
  obtain ⟨hx, hb, hml, hown, hU, hr, hlk⟩ := id cx
  intro x2 z0 S H locs ls hw hE hl hm
  rw [b_X7_comingOut_35] at hm
  refine lv_istore (lv' := [(4, .int z0), (2, .int x2)]) hx hb dX7_comingOut_35 hl (by decide) rfl (fun ls hl => ?_)
  refine lv_iconst (v := 0) hx hb dX7_comingOut_37 (by decide) ?_
  refine lv_iload hx hb dX7_comingOut_38 (lv_at hl 0 rfl) ?_
  refine lv_iload_n hx hb dX7_comingOut_40 rfl (lv_at hl 1 rfl) ?_
  refine va_mmin hx hb (by rw [hml]; exact hl.1.symm) hown (hU _ tw893) (hU _ twm_min_s) (hU _ twm_i) (hU _ twm_min_c) (Nat.le_of_ble_eq_true rfl) (Nat.le_of_ble_eq_true rfl) (Nat.zero_le _) (Nat.zero_le _) dX7_comingOut_41 ?_
  refine va_mmax hx hb (by rw [hml]; exact hl.1.symm) hown (hU _ tw894) (hU _ twm_max_s) (hU _ twm_i) (hU _ twm_max_c) (Nat.le_of_ble_eq_true rfl) (Nat.le_of_ble_eq_true rfl) (Nat.zero_le _) (Nat.zero_le _) dX7_comingOut_44 ?_
  cases hm
  exact pw_iret hx hb hr rfl hlk hw hE dX7_comingOut_47
def m_X7_comingOut (n : Nat) (a0 : Nat) (x1 : Int32) (x2 : Int32) (x3 : Int32) (S0 : pq_S) : Option (Int32 × pq_S) := if x1 = 0 then some (0, S0) else Option.bind (pR S0 703 a0) fun q2 => cb (m_X2_isTold n q2 S0) fun r5 S_3 => if r5 = 0 then b_X7_comingOut_35 n x2 (x1 * (3 : Int32)) S_3 else Option.bind (pR S_3 703 a0) fun q9 => cb (m_X2_value n q9 0 0 1 x1 x2 x3 S_3) fun r12 S_10 => b_X7_comingOut_35 n x2 r12 S_10
theorem tc_X7_comingOut : Cond.code yX7_comingOut cX7_comingOut 5 (some .int) ∈ pq_U := tw928
theorem cd_X7_comingOut : yX7_comingOut.cls = RX7 ∧ yX7_comingOut.cls ≠ "java/lang/invoke/MethodHandle" ∧ yX7_comingOut.cls ≠ "java/lang/invoke/VarHandle" ∧ (parseMethodDescriptor yX7_comingOut.desc).map (fun d => d.parameters.length) = some 3 := by decide +kernel
set_option maxHeartbeats 4000000 in
set_option maxRecDepth 100000 in
theorem c_X7_comingOut (l : Launch) (C : pq_C) (X : va_W) (n : Nat) (S0 : pq_S) (hF : WF S0) (sz : Nat) (a0 : Nat) (x1 : Int32) (x2 : Int32) (x3 : Int32) (Ta0 : TY S0 a0 7) (r : Int32) (S1 : pq_S) (hm : m_X7_comingOut n a0 x1 x2 x3 S0 = some (r, S1)) : MI l yX7_comingOut (.code yX7_comingOut cX7_comingOut 5 (some .int) :: pq_U) rm_X7_comingOut C X S0 sz [.ref a0, .int x1, .int x2, .int x3] r S1 0 0 := by
  refine Met.ofW (cc := cX7_comingOut) (maxL := 5) (ret := (some .int)) (by decide) rfl ?_
  intro p e s m args below meth c s₁ B hml hv
  obtain ⟨rfl, hv⟩ := hv
  have hsz := hv.1
  subst hsz
  have hw := pw_entry hF hv
  have hts := atoms_spec (ws := .code yX7_comingOut cX7_comingOut 5 (some .int) :: pq_U) B.pre
  have hU : ∀ w ∈ pq_U, w.before _ s = true := fun w h => hts w (List.mem_cons_of_mem _ h)
  have hx := B.exec
  have hb := B.bytes
  have hr := B.returns
  have hown : s.vm.findClass RX7 = some m.cls := findClass_of_methodNamed B.named
  have hlk := B.notSynchronized
  have hl := lv_entry ([.ref a0, .int x1, .int x2, .int x3]) (n := 5) (Nat.le_of_ble_eq_true rfl)
  rw [lg_entry_eq]
  generalize (lg_sl ([.ref a0, .int x1, .int x2, .int x3]) ++ List.replicate (5 - (lg_sl ([.ref a0, .int x1, .int x2, .int x3])).length) Slot.unset).toArray = ls at hl ⊢
  have hl : lv_has ls 5 [(0, .ref a0), (1, .int x1), (2, .int x2), (3, .int x3)] := hl
  have hE : Ext S0 S0 := Ext.rf _
  have cx : Cx p s m _ meth c cX7_comingOut 5 RX7 (some .int) := ⟨hx, hb, hml, hown, hU, hr, hlk⟩
  rw [m_X7_comingOut] at hm
  refine lv_iload_n hx hb dX7_comingOut_0 rfl (lv_at hl 1 rfl) ?_
  refine lv_if_ne (tgt := 6) hx hb dX7_comingOut_1 (by decide) (fun h1 => ?_) (fun h1 => ?_)
  · rw [if_neg h1] at hm
    refine lv_aload_n hx hb dX7_comingOut_6 rfl (lv_at hl 0 rfl) ?_
    obtain ⟨q2, hq2, hm⟩ := bd_some hm
    have Tq2 : TY S0 q2 2 := hw.wf.ref (k := 7) (j := 3) Ta0 (by decide) (by decide) hq2
    refine pg_rb (k := 7) (j := 3) (f := 703) hx hb hown hU iu7 hw Ta0 (by decide) rfl (hU _ tw214) rfl hq2 dX7_comingOut_7 ?_
    obtain ⟨r5, S_3, hq4, hm⟩ := cb_some hm
    refine pw_cz (va_runVN (As := []) (rest := []) ⟨hx, hb, hml, hown, hU⟩ (c_X2_isTold l C X n S0 hw.wf _ q2 (Tq2) r5 S_3 hq4) ⟨va_cnB (host := "WickNights") 0 hU (pq_g1 tc_X2_isTold) rfl rfl rfl (hw.nw 139 rfl) (hU _ tw7) cd_X2_isTold.2 ⟨Nat.le_of_ble_eq_true rfl, Nat.le_of_ble_eq_true rfl⟩, hU _ tw875, hU _ ts55⟩ (pw_preV hw Tq2 (by decide) rfl) rfl rfl hl.1 rfl (lv_room (Nat.le_of_ble_eq_true rfl)) dX7_comingOut_10 ⟨Nat.zero_le _, Nat.zero_le _⟩) hw (fun H locs hw hx6 hz7 => ?_)
    have Ta0 : TY S_3 a0 7 := ty_ext hx6 Ta0
    have hE : Ext S0 S_3 := Ext.tr hE hx6
    refine lv_if_eq (tgt := 32) hx hb dX7_comingOut_13 (by decide) (fun h8 => ?_) (fun h8 => ?_)
    · rw [if_pos h8] at hm
      refine lv_iload_n hx hb dX7_comingOut_32 rfl (lv_at hl 1 rfl) ?_
      refine lv_iconst (v := 3) hx hb dX7_comingOut_33 (by decide) ?_
      refine lv_imul hx hb dX7_comingOut_34 ?_
      exact wb_X7_comingOut_35 cx C X S0 n r S1 x2 (x1 * (3 : Int32)) S_3 _ _ _ hw hE  (lv_sub hl [2] rfl) hm
    · rw [if_neg h8] at hm
      refine lv_aload_n hx hb dX7_comingOut_16 rfl (lv_at hl 0 rfl) ?_
      obtain ⟨q9, hq9, hm⟩ := bd_some hm
      have Tq9 : TY S_3 q9 2 := hw.wf.ref (k := 7) (j := 3) Ta0 (by decide) (by decide) hq9
      refine pg_rb (k := 7) (j := 3) (f := 703) hx hb hown hU iu7 hw Ta0 (by decide) rfl (hU _ tw214) rfl hq9 dX7_comingOut_17 ?_
      refine lv_iconst (v := 0) hx hb dX7_comingOut_20 (by decide) ?_
      refine lv_iconst (v := 0) hx hb dX7_comingOut_21 (by decide) ?_
      refine lv_iconst (v := 1) hx hb dX7_comingOut_22 (by decide) ?_
      refine lv_iload_n hx hb dX7_comingOut_23 rfl (lv_at hl 1 rfl) ?_
      refine lv_iload_n hx hb dX7_comingOut_24 rfl (lv_at hl 2 rfl) ?_
      refine lv_iload_n hx hb dX7_comingOut_25 rfl (lv_at hl 3 rfl) ?_
      obtain ⟨r12, S_10, hq11, hm⟩ := cb_some hm
      refine pw_ci (va_runVN (As := [.int 0, .int 0, .int 1, .int x1, .int x2, .int x3]) (rest := []) ⟨hx, hb, hml, hown, hU⟩ (c_X2_value l C X n S_3 hw.wf _ q9 0 0 1 x1 x2 x3 (Tq9) r12 S_10 hq11) ⟨va_cnB (host := "WickNights") 6 hU (pq_g1 tc_X2_value) rfl rfl rfl (hw.nw 140 rfl) (hU _ tw7) cd_X2_value.2 ⟨Nat.le_of_ble_eq_true rfl, Nat.le_of_ble_eq_true rfl⟩, hU _ tw879, hU _ ts56⟩ (pw_preV hw Tq9 (by decide) rfl) rfl rfl hl.1 rfl (lv_room (Nat.le_of_ble_eq_true rfl)) dX7_comingOut_26 ⟨Nat.zero_le _, Nat.zero_le _⟩) hw (fun H locs hw hx13 => ?_)
      have Ta0 : TY S_10 a0 7 := ty_ext hx13 Ta0
      have hE : Ext S0 S_10 := Ext.tr hE hx13
      refine lv_goto (tgt := 35) hx hb dX7_comingOut_29 (by decide) ?_
      exact wb_X7_comingOut_35 cx C X S0 n r S1 x2 r12 S_10 _ _ _ hw hE  (lv_sub hl [2] rfl) hm
  · rw [if_pos h1] at hm
    refine lv_iconst (v := 0) hx hb dX7_comingOut_4 (by decide) ?_
    cases hm
    exact pw_iret hx hb hr rfl hlk hw hE dX7_comingOut_5
