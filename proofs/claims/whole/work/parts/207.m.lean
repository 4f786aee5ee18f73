abbrev rmg_modP (d : Nat) : Room := { frames := 6 + d, cells := 0, slots := 0, locals := 128 + d * 22 }
theorem rmg_modP_l (d : Nat) {q : Nat} (h : q ≤ 3) : 8 + (q + 11) + (rmg_modP d).locals ≤ (rmg_modP (d + 1)).locals := by show 8 + (q + 11) + (128 + d * 22) ≤ 128 + (d + 1) * 22; omega
theorem tc_X12_readSum : Cond.code yX12_readSum cX12_readSum 2 none ∈ pq_U := tw1782
theorem cd_X12_readSum : yX12_readSum.cls = RX12 ∧ yX12_readSum.cls ≠ "java/lang/invoke/MethodHandle" ∧ yX12_readSum.cls ≠ "java/lang/invoke/VarHandle" ∧ (parseMethodDescriptor yX12_readSum.desc).map (fun d => d.parameters.length) = some 0 := by decide +kernel
theorem tc_X12_readProduct : Cond.code yX12_readProduct cX12_readProduct 2 none ∈ pq_U := tw1786
theorem cd_X12_readProduct : yX12_readProduct.cls = RX12 ∧ yX12_readProduct.cls ≠ "java/lang/invoke/MethodHandle" ∧ yX12_readProduct.cls ≠ "java/lang/invoke/VarHandle" ∧ (parseMethodDescriptor yX12_readProduct.desc).map (fun d => d.parameters.length) = some 0 := by decide +kernel
theorem tc_X12_readTwo : Cond.code yX12_readTwo cX12_readTwo 3 none ∈ pq_U := tw1803
theorem cd_X12_readTwo : yX12_readTwo.cls = RX12 ∧ yX12_readTwo.cls ≠ "java/lang/invoke/MethodHandle" ∧ yX12_readTwo.cls ≠ "java/lang/invoke/VarHandle" ∧ (parseMethodDescriptor yX12_readTwo.desc).map (fun d => d.parameters.length) = some 2 := by decide +kernel
theorem tc_X12_readUnit : Cond.code yX12_readUnit cX12_readUnit 2 none ∈ pq_U := tw1790
theorem cd_X12_readUnit : yX12_readUnit.cls = RX12 ∧ yX12_readUnit.cls ≠ "java/lang/invoke/MethodHandle" ∧ yX12_readUnit.cls ≠ "java/lang/invoke/VarHandle" ∧ (parseMethodDescriptor yX12_readUnit.desc).map (fun d => d.parameters.length) = some 0 := by decide +kernel
def HG_modP (n d : Nat) (rec : (Nat → pq_S → Option pq_S) × (Nat → pq_S → Option pq_S) × (Nat → Int32 → Int32 → pq_S → Option pq_S) × (Nat → pq_S → Option pq_S)) : Prop := (∀ (l : Launch) (C : pq_C) (X : va_W) (S0 : pq_S) (_ : WF S0) (sz : Nat) (a0 : Nat) (_Ta0 : TY S0 a0 12) (S1 : pq_S), rec.1 a0 S0 = some S1 → MV l yX12_readSum (.code yX12_readSum cX12_readSum 2 none :: pq_U) (rmg_modP d) C X S0 sz [.ref a0] S1 0 0) ∧ (∀ (l : Launch) (C : pq_C) (X : va_W) (S0 : pq_S) (_ : WF S0) (sz : Nat) (a0 : Nat) (_Ta0 : TY S0 a0 12) (S1 : pq_S), rec.2.1 a0 S0 = some S1 → MV l yX12_readProduct (.code yX12_readProduct cX12_readProduct 2 none :: pq_U) (rmg_modP d) C X S0 sz [.ref a0] S1 0 0) ∧ (∀ (l : Launch) (C : pq_C) (X : va_W) (S0 : pq_S) (_ : WF S0) (sz : Nat) (a0 : Nat) (x1 : Int32) (x2 : Int32) (_Ta0 : TY S0 a0 12) (S1 : pq_S), rec.2.2.1 a0 x1 x2 S0 = some S1 → MV l yX12_readTwo (.code yX12_readTwo cX12_readTwo 3 none :: pq_U) (rmg_modP d) C X S0 sz [.ref a0, .int x1, .int x2] S1 0 0) ∧ (∀ (l : Launch) (C : pq_C) (X : va_W) (S0 : pq_S) (_ : WF S0) (sz : Nat) (a0 : Nat) (_Ta0 : TY S0 a0 12) (S1 : pq_S), rec.2.2.2 a0 S0 = some S1 → MV l yX12_readUnit (.code yX12_readUnit cX12_readUnit 2 none :: pq_U) (rmg_modP d) C X S0 sz [.ref a0] S1 0 0)
def b_X12_readSum_43 (n : Nat) (rec : (Nat → pq_S → Option pq_S) × (Nat → pq_S → Option pq_S) × (Nat → Int32 → Int32 → pq_S → Option pq_S) × (Nat → pq_S → Option pq_S)) (k2 : Nat → pq_S → Option pq_S) (a0 : Nat) (z0 : Int32) (S : pq_S) : Option pq_S := Option.bind (rec.2.1 a0 (sI S 1204 a0 ((pI S 1204 a0) + (1 : Int32)))) fun S_25 => Option.bind (m_X12_emit n a0 z0 0 S_25) fun S_28 => k2 a0 S_28
set_option maxHeartbeats 4000000 in
set_option maxRecDepth 100000 in
theorem wb_X12_readSum_43 {p : Program} {l : Launch} {e : Env} {s : State} {m : MethodId} {args : Array Value} {below : List Frame} {meth : Method} {c : Code} (cx : Cx p s m args meth c cX12_readSum 2 RX12 none) (C : pq_C) (X : va_W) (S0 : pq_S) (n : Nat) (d : Nat) (rec : (Nat → pq_S → Option pq_S) × (Nat → pq_S → Option pq_S) × (Nat → Int32 → Int32 → pq_S → Option pq_S) × (Nat → pq_S → Option pq_S)) (hrec : HG_modP n d rec) (S1 : pq_S) (k2 : Nat → pq_S → Option pq_S) (hk2 : ∀ (a0 : Nat) (S : pq_S) (H : Heap) (locs : List Loc) (ls : Array Slot), PW C X S (pq_F C X S0 s.heap.size) H locs s → Ext S0 S → TY S a0 12 → lv_has ls 2 [(0, .ref a0)] → k2 a0 S = some S1 → W p l e (rmg_modP (d + 1)) s m args below meth c H locs 0 0 (MQ below (QcV C X S0 s.heap.size S1) args s 0 0 (pq_F C X S0 s.heap.size)) (F0 m 4 ls [])) : ∀ (a0 : Nat) (z0 : Int32) (S : pq_S) (H : Heap) (locs : List Loc) (ls : Array Slot), PW C X S (pq_F C X S0 s.heap.size) H locs s → Ext S0 S → TY S a0 12 → lv_has ls 2 [(0, .ref a0)] → b_X12_readSum_43 n rec k2 a0 z0 S = some S1 → W p l e (rmg_modP (d + 1)) s m args below meth c H locs 0 0 (MQ below (QcV C X S0 s.heap.size S1) args s 0 0 (pq_F C X S0 s.heap.size)) (F0 m 43 ls [.int z0]) := by
  obtain ⟨hx, hb, hml, hown, hU, hr, hlk⟩ := id cx
  intro a0 z0 S H locs ls hw hE Ta0 hl hm
  rw [b_X12_readSum_43] at hm
  refine lv_istore_n (lv' := [(1, .int z0), (0, .ref a0)]) hx hb dX12_readSum_43 rfl hl (by decide) rfl (fun ls hl => ?_)
  refine lv_aload_n hx hb dX12_readSum_44 rfl (lv_at hl 1 rfl) ?_
  refine lv_dup hx hb dX12_readSum_45 rfl ?_
  refine pg_i (k := 12) (j := 4) (f := 1204) hx hb hown hU iu12 hw Ta0 (by decide) rfl (hU _ tw1475) rfl dX12_readSum_46 ?_
  refine lv_iconst (v := 1) hx hb dX12_readSum_49 (by decide) ?_
  refine lv_iadd hx hb dX12_readSum_50 ?_
  refine pp_i (k := 12) (j := 4) (f := 1204) hx hb hown hU iu12 tyX12_ok nmX12 hw Ta0 (by decide) rfl (hU _ tw1475) rfl rfl rfl dX12_readSum_51 (fun H locs hw => ?_)
  refine lv_aload_n hx hb dX12_readSum_54 rfl (lv_at hl 1 rfl) ?_
  obtain ⟨S_25, hq26, hm⟩ := bd_some hm
  refine pw_cv (va_runV (As := []) (rest := []) ⟨hx, hb, hml, hown, hU⟩ (hrec.2.1 l C X (sI S 1204 a0 ((pI S 1204 a0) + (1 : Int32))) hw.wf _ a0 (Ta0) S_25 hq26) (cwV 0 hU (pq_gV tw1783 tw1785 ts137 tw14 tc_X12_readProduct) rfl rfl rfl cd_X12_readProduct ⟨Nat.le_refl _, rmg_modP_l d (by decide)⟩) (pw_preV hw Ta0 (by decide) rfl) rfl rfl hl.1 rfl (lv_room (Nat.le_of_ble_eq_true rfl)) dX12_readSum_55 ⟨Nat.zero_le _, Nat.zero_le _⟩) hw (fun H locs hw hx27 => ?_)
  have Ta0 : TY S_25 a0 12 := ty_ext hx27 Ta0
  have hE : Ext S0 S_25 := Ext.tr hE hx27
  refine lv_aload_n hx hb dX12_readSum_58 rfl (lv_at hl 1 rfl) ?_
  refine lv_iload_n hx hb dX12_readSum_59 rfl (lv_at hl 0 rfl) ?_
  refine lv_iconst (v := 0) hx hb dX12_readSum_60 (by decide) ?_
  obtain ⟨S_28, hq29, hm⟩ := bd_some hm
  refine pw_cv (va_runV (As := [.int z0, .int 0]) (rest := []) ⟨hx, hb, hml, hown, hU⟩ (c_X12_emit l C X n S_25 hw.wf _ a0 z0 0 (Ta0) S_28 hq29) (cwV 2 hU (pq_gV tw1795 tw1797 ts140 tw14 tc_X12_emit) rfl rfl rfl cd_X12_emit ⟨Nat.le_trans (Nat.le_of_ble_eq_true rfl) (Nat.le_add_right _ _), Nat.le_trans (Nat.le_of_ble_eq_true rfl) (Nat.le_add_right _ _)⟩) (pw_preV hw Ta0 (by decide) rfl) rfl rfl hl.1 rfl (lv_room (Nat.le_of_ble_eq_true rfl)) dX12_readSum_61 ⟨Nat.zero_le _, Nat.zero_le _⟩) hw (fun H locs hw hx30 => ?_)
  have Ta0 : TY S_28 a0 12 := ty_ext hx30 Ta0
  have hE : Ext S0 S_28 := Ext.tr hE hx30
  refine lv_goto (tgt := 4) hx hb dX12_readSum_64 (by decide) ?_
  exact hk2 a0 S_28 _ _ _ hw hE Ta0 (lv_sub hl [1] rfl) hm
def b_X12_readSum_29 (n : Nat) (rec : (Nat → pq_S → Option pq_S) × (Nat → pq_S → Option pq_S) × (Nat → Int32 → Int32 → pq_S → Option pq_S) × (Nat → pq_S → Option pq_S)) (k2 : Nat → pq_S → Option pq_S) (a0 : Nat) (S : pq_S) : Option pq_S := cb (m_X12_here n a0 S) fun r22 S_20 => if r22 = 43 then b_X12_readSum_43 n rec k2 a0 2 S_20 else b_X12_readSum_43 n rec k2 a0 3 S_20
set_option maxHeartbeats 4000000 in
set_option maxRecDepth 100000 in
theorem wb_X12_readSum_29 {p : Program} {l : Launch} {e : Env} {s : State} {m : MethodId} {args : Array Value} {below : List Frame} {meth : Method} {c : Code} (cx : Cx p s m args meth c cX12_readSum 2 RX12 none) (C : pq_C) (X : va_W) (S0 : pq_S) (n : Nat) (d : Nat) (rec : (Nat → pq_S → Option pq_S) × (Nat → pq_S → Option pq_S) × (Nat → Int32 → Int32 → pq_S → Option pq_S) × (Nat → pq_S → Option pq_S)) (hrec : HG_modP n d rec) (S1 : pq_S) (k2 : Nat → pq_S → Option pq_S) (hk2 : ∀ (a0 : Nat) (S : pq_S) (H : Heap) (locs : List Loc) (ls : Array Slot), PW C X S (pq_F C X S0 s.heap.size) H locs s → Ext S0 S → TY S a0 12 → lv_has ls 2 [(0, .ref a0)] → k2 a0 S = some S1 → W p l e (rmg_modP (d + 1)) s m args below meth c H locs 0 0 (MQ below (QcV C X S0 s.heap.size S1) args s 0 0 (pq_F C X S0 s.heap.size)) (F0 m 4 ls [])) : ∀ (a0 : Nat) (S : pq_S) (H : Heap) (locs : List Loc) (ls : Array Slot), PW C X S (pq_F C X S0 s.heap.size) H locs s → Ext S0 S → TY S a0 12 → lv_has ls 2 [(0, .ref a0)] → b_X12_readSum_29 n rec k2 a0 S = some S1 → W p l e (rmg_modP (d + 1)) s m args below meth c H locs 0 0 (MQ below (QcV C X S0 s.heap.size S1) args s 0 0 (pq_F C X S0 s.heap.size)) (F0 m 29 ls []) := by
  obtain ⟨hx, hb, hml, hown, hU, hr, hlk⟩ := id cx
  intro a0 S H locs ls hw hE Ta0 hl hm
  rw [b_X12_readSum_29] at hm
  refine lv_aload_n hx hb dX12_readSum_29 rfl (lv_at hl 0 rfl) ?_
  obtain ⟨r22, S_20, hq21, hm⟩ := cb_some hm
  refine pw_ci (va_runV (As := []) (rest := []) ⟨hx, hb, hml, hown, hU⟩ (c_X12_here l C X n S hw.wf _ a0 (Ta0) r22 S_20 hq21) (cwV 0 hU (pq_gV tw1719 tw1721 ts127 tw14 tc_X12_here) rfl rfl rfl cd_X12_here ⟨Nat.le_trans (Nat.le_of_ble_eq_true rfl) (Nat.le_add_right _ _), Nat.le_trans (Nat.le_of_ble_eq_true rfl) (Nat.le_add_right _ _)⟩) (pw_preV hw Ta0 (by decide) rfl) rfl rfl hl.1 rfl (lv_room (Nat.le_of_ble_eq_true rfl)) dX12_readSum_30 ⟨Nat.zero_le _, Nat.zero_le _⟩) hw (fun H locs hw hx23 => ?_)
  have Ta0 : TY S_20 a0 12 := ty_ext hx23 Ta0
  have hE : Ext S0 S_20 := Ext.tr hE hx23
  refine lv_bipush (v := 43) hx hb dX12_readSum_33 (by decide) ?_
  refine lv_icmp_ne (tgt := 42) hx hb dX12_readSum_35 (by decide) (fun h24 => ?_) (fun h24 => ?_)
  · rw [if_neg h24] at hm
    refine lv_iconst (v := 3) hx hb dX12_readSum_42 (by decide) ?_
    exact wb_X12_readSum_43 cx C X S0 n d rec hrec S1 _ hk2 a0 3 S_20 _ _ _ hw hE Ta0 (lv_sub hl [0] rfl) hm
  · rw [if_pos h24] at hm
    refine lv_iconst (v := 2) hx hb dX12_readSum_38 (by decide) ?_
    refine lv_goto (tgt := 43) hx hb dX12_readSum_39 (by decide) ?_
    exact wb_X12_readSum_43 cx C X S0 n d rec hrec S1 _ hk2 a0 2 S_20 _ _ _ hw hE Ta0 (lv_sub hl [0] rfl) hm
def b_X12_readSum_4 (n : Nat) (rec : (Nat → pq_S → Option pq_S) × (Nat → pq_S → Option pq_S) × (Nat → Int32 → Int32 → pq_S → Option pq_S) × (Nat → pq_S → Option pq_S)) : Nat → Nat → pq_S → Option pq_S
  | 0, _, _ => none
  | f + 1, a0, S => cb (m_X12_fine n a0 S) fun r6 S_4 => if r6 = 0 then some S_4 else cb (m_X12_here n a0 S_4) fun r12 S_10 => if r12 = 43 then b_X12_readSum_29 n rec (b_X12_readSum_4 n rec f) a0 S_10 else cb (m_X12_here n a0 S_10) fun r17 S_15 => if r17 = 45 then b_X12_readSum_29 n rec (b_X12_readSum_4 n rec f) a0 S_15 else some S_15
set_option maxHeartbeats 4000000 in
set_option maxRecDepth 100000 in
theorem wb_X12_readSum_4 {p : Program} {l : Launch} {e : Env} {s : State} {m : MethodId} {args : Array Value} {below : List Frame} {meth : Method} {c : Code} (cx : Cx p s m args meth c cX12_readSum 2 RX12 none) (C : pq_C) (X : va_W) (S0 : pq_S) (n : Nat) (d : Nat) (rec : (Nat → pq_S → Option pq_S) × (Nat → pq_S → Option pq_S) × (Nat → Int32 → Int32 → pq_S → Option pq_S) × (Nat → pq_S → Option pq_S)) (hrec : HG_modP n d rec) (S1 : pq_S) : ∀ (f : Nat) (a0 : Nat) (S : pq_S) (H : Heap) (locs : List Loc) (ls : Array Slot), PW C X S (pq_F C X S0 s.heap.size) H locs s → Ext S0 S → TY S a0 12 → lv_has ls 2 [(0, .ref a0)] → b_X12_readSum_4 n rec f a0 S = some S1 → W p l e (rmg_modP (d + 1)) s m args below meth c H locs 0 0 (MQ below (QcV C X S0 s.heap.size S1) args s 0 0 (pq_F C X S0 s.heap.size)) (F0 m 4 ls []) := by
  obtain ⟨hx, hb, hml, hown, hU, hr, hlk⟩ := id cx
  intro f
  induction f with
  | zero =>
    intro a0 S H locs ls hw hE Ta0 hl hm
    cases hm
  | succ f ih =>
    intro a0 S H locs ls hw hE Ta0 hl hm
    rw [b_X12_readSum_4] at hm
    refine lv_aload_n hx hb dX12_readSum_4 rfl (lv_at hl 0 rfl) ?_
    obtain ⟨r6, S_4, hq5, hm⟩ := cb_some hm
    refine pw_cz (va_runV (As := []) (rest := []) ⟨hx, hb, hml, hown, hU⟩ (c_X12_fine l C X n S hw.wf _ a0 (Ta0) r6 S_4 hq5) (cwV 0 hU (pq_gV tw1711 tw1713 ts125 tw14 tc_X12_fine) rfl rfl rfl cd_X12_fine ⟨Nat.le_trans (Nat.le_of_ble_eq_true rfl) (Nat.le_add_right _ _), Nat.le_trans (Nat.le_of_ble_eq_true rfl) (Nat.le_add_right _ _)⟩) (pw_preV hw Ta0 (by decide) rfl) rfl rfl hl.1 rfl (lv_room (Nat.le_of_ble_eq_true rfl)) dX12_readSum_5 ⟨Nat.zero_le _, Nat.zero_le _⟩) hw (fun H locs hw hx7 hz8 => ?_)
    have Ta0 : TY S_4 a0 12 := ty_ext hx7 Ta0
    have hE : Ext S0 S_4 := Ext.tr hE hx7
    refine lv_if_eq (tgt := 67) hx hb dX12_readSum_8 (by decide) (fun h9 => ?_) (fun h9 => ?_)
    · rw [if_pos h9] at hm
      cases hm
      exact pw_vret hx hb hr hlk hw hE dX12_readSum_67
    · rw [if_neg h9] at hm
      refine lv_aload_n hx hb dX12_readSum_11 rfl (lv_at hl 0 rfl) ?_
      obtain ⟨r12, S_10, hq11, hm⟩ := cb_some hm
      refine pw_ci (va_runV (As := []) (rest := []) ⟨hx, hb, hml, hown, hU⟩ (c_X12_here l C X n S_4 hw.wf _ a0 (Ta0) r12 S_10 hq11) (cwV 0 hU (pq_gV tw1719 tw1721 ts127 tw14 tc_X12_here) rfl rfl rfl cd_X12_here ⟨Nat.le_trans (Nat.le_of_ble_eq_true rfl) (Nat.le_add_right _ _), Nat.le_trans (Nat.le_of_ble_eq_true rfl) (Nat.le_add_right _ _)⟩) (pw_preV hw Ta0 (by decide) rfl) rfl rfl hl.1 rfl (lv_room (Nat.le_of_ble_eq_true rfl)) dX12_readSum_12 ⟨Nat.zero_le _, Nat.zero_le _⟩) hw (fun H locs hw hx13 => ?_)
      have Ta0 : TY S_10 a0 12 := ty_ext hx13 Ta0
      have hE : Ext S0 S_10 := Ext.tr hE hx13
      refine lv_bipush (v := 43) hx hb dX12_readSum_15 (by decide) ?_
      refine lv_icmp_eq (tgt := 29) hx hb dX12_readSum_17 (by decide) (fun h14 => ?_) (fun h14 => ?_)
      · rw [if_pos h14] at hm
        exact wb_X12_readSum_29 cx C X S0 n d rec hrec S1 _ ih a0 S_10 _ _ _ hw hE Ta0 (lv_sub hl [0] rfl) hm
      · rw [if_neg h14] at hm
        refine lv_aload_n hx hb dX12_readSum_20 rfl (lv_at hl 0 rfl) ?_
        obtain ⟨r17, S_15, hq16, hm⟩ := cb_some hm
        refine pw_ci (va_runV (As := []) (rest := []) ⟨hx, hb, hml, hown, hU⟩ (c_X12_here l C X n S_10 hw.wf _ a0 (Ta0) r17 S_15 hq16) (cwV 0 hU (pq_gV tw1719 tw1721 ts127 tw14 tc_X12_here) rfl rfl rfl cd_X12_here ⟨Nat.le_trans (Nat.le_of_ble_eq_true rfl) (Nat.le_add_right _ _), Nat.le_trans (Nat.le_of_ble_eq_true rfl) (Nat.le_add_right _ _)⟩) (pw_preV hw Ta0 (by decide) rfl) rfl rfl hl.1 rfl (lv_room (Nat.le_of_ble_eq_true rfl)) dX12_readSum_21 ⟨Nat.zero_le _, Nat.zero_le _⟩) hw (fun H locs hw hx18 => ?_)
        have Ta0 : TY S_15 a0 12 := ty_ext hx18 Ta0
        have hE : Ext S0 S_15 := Ext.tr hE hx18
        refine lv_bipush (v := 45) hx hb dX12_readSum_24 (by decide) ?_
        refine lv_icmp_ne (tgt := 67) hx hb dX12_readSum_26 (by decide) (fun h19 => ?_) (fun h19 => ?_)
        · rw [if_neg h19] at hm
          cases hm
          exact pw_vret hx hb hr hlk hw hE dX12_readSum_67
        · rw [if_pos h19] at hm
          exact wb_X12_readSum_29 cx C X S0 n d rec hrec S1 _ ih a0 S_15 _ _ _ hw hE Ta0 (lv_sub hl [0] rfl) hm
def g_X12_readSum (n : Nat) (rec : (Nat → pq_S → Option pq_S) × (Nat → pq_S → Option pq_S) × (Nat → Int32 → Int32 → pq_S → Option pq_S) × (Nat → pq_S → Option pq_S)) (a0 : Nat) (S0 : pq_S) : Option pq_S := Option.bind (rec.2.1 a0 S0) fun S_1 => b_X12_readSum_4 n rec n a0 S_1
set_option maxHeartbeats 4000000 in
set_option maxRecDepth 100000 in
theorem cg_X12_readSum (n d : Nat) (rec : (Nat → pq_S → Option pq_S) × (Nat → pq_S → Option pq_S) × (Nat → Int32 → Int32 → pq_S → Option pq_S) × (Nat → pq_S → Option pq_S)) (hrec : HG_modP n d rec) (l : Launch) (C : pq_C) (X : va_W) (S0 : pq_S) (hF : WF S0) (sz : Nat) (a0 : Nat) (Ta0 : TY S0 a0 12) (S1 : pq_S) (hm : g_X12_readSum n rec a0 S0 = some S1) : MV l yX12_readSum (.code yX12_readSum cX12_readSum 2 none :: pq_U) (rmg_modP (d + 1)) C X S0 sz [.ref a0] S1 0 0 := by
  refine Met.ofW (cc := cX12_readSum) (maxL := 2) (ret := none) (by decide) rfl ?_
  intro p e s m args below meth c s₁ B hml hv
  obtain ⟨rfl, hv⟩ := hv
  have hsz := hv.1
  subst hsz
  have hw := pw_entry hF hv
  have hts := atoms_spec (ws := .code yX12_readSum cX12_readSum 2 none :: pq_U) B.pre
  have hU : ∀ w ∈ pq_U, w.before _ s = true := fun w h => hts w (List.mem_cons_of_mem _ h)
  have hx := B.exec
  have hb := B.bytes
  have hr := B.returns
  have hown : s.vm.findClass RX12 = some m.cls := findClass_of_methodNamed B.named
  have hlk := B.notSynchronized
  have hl := lv_entry ([.ref a0]) (n := 2) (Nat.le_of_ble_eq_true rfl)
  rw [lg_entry_eq]
  generalize (lg_sl ([.ref a0]) ++ List.replicate (2 - (lg_sl ([.ref a0])).length) Slot.unset).toArray = ls at hl ⊢
  have hl : lv_has ls 2 [(0, .ref a0)] := hl
  have hE : Ext S0 S0 := Ext.rf _
  have cx : Cx p s m _ meth c cX12_readSum 2 RX12 none := ⟨hx, hb, hml, hown, hU, hr, hlk⟩
  rw [g_X12_readSum] at hm
  refine lv_aload_n hx hb dX12_readSum_0 rfl (lv_at hl 0 rfl) ?_
  obtain ⟨S_1, hq2, hm⟩ := bd_some hm
  refine pw_cv (va_runV (As := []) (rest := []) ⟨hx, hb, hml, hown, hU⟩ (hrec.2.1 l C X S0 hw.wf _ a0 (Ta0) S_1 hq2) (cwV 0 hU (pq_gV tw1783 tw1785 ts137 tw14 tc_X12_readProduct) rfl rfl rfl cd_X12_readProduct ⟨Nat.le_refl _, rmg_modP_l d (by decide)⟩) (pw_preV hw Ta0 (by decide) rfl) rfl rfl hl.1 rfl (lv_room (Nat.le_of_ble_eq_true rfl)) dX12_readSum_1 ⟨Nat.zero_le _, Nat.zero_le _⟩) hw (fun H locs hw hx3 => ?_)
  have Ta0 : TY S_1 a0 12 := ty_ext hx3 Ta0
  have hE : Ext S0 S_1 := Ext.tr hE hx3
  exact wb_X12_readSum_4 cx C X S0 n d rec hrec S1 n a0 S_1 _ _ _ hw hE Ta0 (lv_sub hl [0] rfl) hm
def b_X12_readProduct_43 (n : Nat) (rec : (Nat → pq_S → Option pq_S) × (Nat → pq_S → Option pq_S) × (Nat → Int32 → Int32 → pq_S → Option pq_S) × (Nat → pq_S → Option pq_S)) (k2 : Nat → pq_S → Option pq_S) (a0 : Nat) (z0 : Int32) (S : pq_S) : Option pq_S := Option.bind (rec.2.2.2 a0 (sI S 1204 a0 ((pI S 1204 a0) + (1 : Int32)))) fun S_25 => Option.bind (m_X12_emit n a0 z0 0 S_25) fun S_28 => k2 a0 S_28
set_option maxHeartbeats 4000000 in
set_option maxRecDepth 100000 in
theorem wb_X12_readProduct_43 {p : Program} {l : Launch} {e : Env} {s : State} {m : MethodId} {args : Array Value} {below : List Frame} {meth : Method} {c : Code} (cx : Cx p s m args meth c cX12_readProduct 2 RX12 none) (C : pq_C) (X : va_W) (S0 : pq_S) (n : Nat) (d : Nat) (rec : (Nat → pq_S → Option pq_S) × (Nat → pq_S → Option pq_S) × (Nat → Int32 → Int32 → pq_S → Option pq_S) × (Nat → pq_S → Option pq_S)) (hrec : HG_modP n d rec) (S1 : pq_S) (k2 : Nat → pq_S → Option pq_S) (hk2 : ∀ (a0 : Nat) (S : pq_S) (H : Heap) (locs : List Loc) (ls : Array Slot), PW C X S (pq_F C X S0 s.heap.size) H locs s → Ext S0 S → TY S a0 12 → lv_has ls 2 [(0, .ref a0)] → k2 a0 S = some S1 → W p l e (rmg_modP (d + 1)) s m args below meth c H locs 0 0 (MQ below (QcV C X S0 s.heap.size S1) args s 0 0 (pq_F C X S0 s.heap.size)) (F0 m 4 ls [])) : ∀ (a0 : Nat) (z0 : Int32) (S : pq_S) (H : Heap) (locs : List Loc) (ls : Array Slot), PW C X S (pq_F C X S0 s.heap.size) H locs s → Ext S0 S → TY S a0 12 → lv_has ls 2 [(0, .ref a0)] → b_X12_readProduct_43 n rec k2 a0 z0 S = some S1 → W p l e (rmg_modP (d + 1)) s m args below meth c H locs 0 0 (MQ below (QcV C X S0 s.heap.size S1) args s 0 0 (pq_F C X S0 s.heap.size)) (F0 m 43 ls [.int z0]) := by
  obtain ⟨hx, hb, hml, hown, hU, hr, hlk⟩ := id cx
  intro a0 z0 S H locs ls hw hE Ta0 hl hm
  rw [b_X12_readProduct_43] at hm
  refine lv_istore_n (lv' := [(1, .int z0), (0, .ref a0)]) hx hb dX12_readProduct_43 rfl hl (by decide) rfl (fun ls hl => ?_)
  refine lv_aload_n hx hb dX12_readProduct_44 rfl (lv_at hl 1 rfl) ?_
  refine lv_dup hx hb dX12_readProduct_45 rfl ?_
  refine pg_i (k := 12) (j := 4) (f := 1204) hx hb hown hU iu12 hw Ta0 (by decide) rfl (hU _ tw1475) rfl dX12_readProduct_46 ?_
  refine lv_iconst (v := 1) hx hb dX12_readProduct_49 (by decide) ?_
  refine lv_iadd hx hb dX12_readProduct_50 ?_
  refine pp_i (k := 12) (j := 4) (f := 1204) hx hb hown hU iu12 tyX12_ok nmX12 hw Ta0 (by decide) rfl (hU _ tw1475) rfl rfl rfl dX12_readProduct_51 (fun H locs hw => ?_)
  refine lv_aload_n hx hb dX12_readProduct_54 rfl (lv_at hl 1 rfl) ?_
  obtain ⟨S_25, hq26, hm⟩ := bd_some hm
  refine pw_cv (va_runV (As := []) (rest := []) ⟨hx, hb, hml, hown, hU⟩ (hrec.2.2.2 l C X (sI S 1204 a0 ((pI S 1204 a0) + (1 : Int32))) hw.wf _ a0 (Ta0) S_25 hq26) (cwV 0 hU (pq_gV tw1787 tw1789 ts138 tw14 tc_X12_readUnit) rfl rfl rfl cd_X12_readUnit ⟨Nat.le_refl _, rmg_modP_l d (by decide)⟩) (pw_preV hw Ta0 (by decide) rfl) rfl rfl hl.1 rfl (lv_room (Nat.le_of_ble_eq_true rfl)) dX12_readProduct_55 ⟨Nat.zero_le _, Nat.zero_le _⟩) hw (fun H locs hw hx27 => ?_)
  have Ta0 : TY S_25 a0 12 := ty_ext hx27 Ta0
  have hE : Ext S0 S_25 := Ext.tr hE hx27
  refine lv_aload_n hx hb dX12_readProduct_58 rfl (lv_at hl 1 rfl) ?_
  refine lv_iload_n hx hb dX12_readProduct_59 rfl (lv_at hl 0 rfl) ?_
  refine lv_iconst (v := 0) hx hb dX12_readProduct_60 (by decide) ?_
  obtain ⟨S_28, hq29, hm⟩ := bd_some hm
  refine pw_cv (va_runV (As := [.int z0, .int 0]) (rest := []) ⟨hx, hb, hml, hown, hU⟩ (c_X12_emit l C X n S_25 hw.wf _ a0 z0 0 (Ta0) S_28 hq29) (cwV 2 hU (pq_gV tw1795 tw1797 ts140 tw14 tc_X12_emit) rfl rfl rfl cd_X12_emit ⟨Nat.le_trans (Nat.le_of_ble_eq_true rfl) (Nat.le_add_right _ _), Nat.le_trans (Nat.le_of_ble_eq_true rfl) (Nat.le_add_right _ _)⟩) (pw_preV hw Ta0 (by decide) rfl) rfl rfl hl.1 rfl (lv_room (Nat.le_of_ble_eq_true rfl)) dX12_readProduct_61 ⟨Nat.zero_le _, Nat.zero_le _⟩) hw (fun H locs hw hx30 => ?_)
  have Ta0 : TY S_28 a0 12 := ty_ext hx30 Ta0
  have hE : Ext S0 S_28 := Ext.tr hE hx30
  refine lv_goto (tgt := 4) hx hb dX12_readProduct_64 (by decide) ?_
  exact hk2 a0 S_28 _ _ _ hw hE Ta0 (lv_sub hl [1] rfl) hm
def b_X12_readProduct_29 (n : Nat) (rec : (Nat → pq_S → Option pq_S) × (Nat → pq_S → Option pq_S) × (Nat → Int32 → Int32 → pq_S → Option pq_S) × (Nat → pq_S → Option pq_S)) (k2 : Nat → pq_S → Option pq_S) (a0 : Nat) (S : pq_S) : Option pq_S := cb (m_X12_here n a0 S) fun r22 S_20 => if r22 = 42 then b_X12_readProduct_43 n rec k2 a0 4 S_20 else b_X12_readProduct_43 n rec k2 a0 5 S_20
set_option maxHeartbeats 4000000 in
set_option maxRecDepth 100000 in
theorem wb_X12_readProduct_29 {p : Program} {l : Launch} {e : Env} {s : State} {m : MethodId} {args : Array Value} {below : List Frame} {meth : Method} {c : Code} (cx : Cx p s m args meth c cX12_readProduct 2 RX12 none) (C : pq_C) (X : va_W) (S0 : pq_S) (n : Nat) (d : Nat) (rec : (Nat → pq_S → Option pq_S) × (Nat → pq_S → Option pq_S) × (Nat → Int32 → Int32 → pq_S → Option pq_S) × (Nat → pq_S → Option pq_S)) (hrec : HG_modP n d rec) (S1 : pq_S) (k2 : Nat → pq_S → Option pq_S) (hk2 : ∀ (a0 : Nat) (S : pq_S) (H : Heap) (locs : List Loc) (ls : Array Slot), PW C X S (pq_F C X S0 s.heap.size) H locs s → Ext S0 S → TY S a0 12 → lv_has ls 2 [(0, .ref a0)] → k2 a0 S = some S1 → W p l e (rmg_modP (d + 1)) s m args below meth c H locs 0 0 (MQ below (QcV C X S0 s.heap.size S1) args s 0 0 (pq_F C X S0 s.heap.size)) (F0 m 4 ls [])) : ∀ (a0 : Nat) (S : pq_S) (H : Heap) (locs : List Loc) (ls : Array Slot), PW C X S (pq_F C X S0 s.heap.size) H locs s → Ext S0 S → TY S a0 12 → lv_has ls 2 [(0, .ref a0)] → b_X12_readProduct_29 n rec k2 a0 S = some S1 → W p l e (rmg_modP (d + 1)) s m args below meth c H locs 0 0 (MQ below (QcV C X S0 s.heap.size S1) args s 0 0 (pq_F C X S0 s.heap.size)) (F0 m 29 ls []) := by
  obtain ⟨hx, hb, hml, hown, hU, hr, hlk⟩ := id cx
  intro a0 S H locs ls hw hE Ta0 hl hm
  rw [b_X12_readProduct_29] at hm
  refine lv_aload_n hx hb dX12_readProduct_29 rfl (lv_at hl 0 rfl) ?_
  obtain ⟨r22, S_20, hq21, hm⟩ := cb_some hm
  refine pw_ci (va_runV (As := []) (rest := []) ⟨hx, hb, hml, hown, hU⟩ (c_X12_here l C X n S hw.wf _ a0 (Ta0) r22 S_20 hq21) (cwV 0 hU (pq_gV tw1719 tw1721 ts127 tw14 tc_X12_here) rfl rfl rfl cd_X12_here ⟨Nat.le_trans (Nat.le_of_ble_eq_true rfl) (Nat.le_add_right _ _), Nat.le_trans (Nat.le_of_ble_eq_true rfl) (Nat.le_add_right _ _)⟩) (pw_preV hw Ta0 (by decide) rfl) rfl rfl hl.1 rfl (lv_room (Nat.le_of_ble_eq_true rfl)) dX12_readProduct_30 ⟨Nat.zero_le _, Nat.zero_le _⟩) hw (fun H locs hw hx23 => ?_)
  have Ta0 : TY S_20 a0 12 := ty_ext hx23 Ta0
  have hE : Ext S0 S_20 := Ext.tr hE hx23
  refine lv_bipush (v := 42) hx hb dX12_readProduct_33 (by decide) ?_
  refine lv_icmp_ne (tgt := 42) hx hb dX12_readProduct_35 (by decide) (fun h24 => ?_) (fun h24 => ?_)
  · rw [if_neg h24] at hm
    refine lv_iconst (v := 5) hx hb dX12_readProduct_42 (by decide) ?_
    exact wb_X12_readProduct_43 cx C X S0 n d rec hrec S1 _ hk2 a0 5 S_20 _ _ _ hw hE Ta0 (lv_sub hl [0] rfl) hm
  · rw [if_pos h24] at hm
    refine lv_iconst (v := 4) hx hb dX12_readProduct_38 (by decide) ?_
    refine lv_goto (tgt := 43) hx hb dX12_readProduct_39 (by decide) ?_
    exact wb_X12_readProduct_43 cx C X S0 n d rec hrec S1 _ hk2 a0 4 S_20 _ _ _ hw hE Ta0 (lv_sub hl [0] rfl) hm
def b_X12_readProduct_4 (n : Nat) (rec : (Nat → pq_S → Option pq_S) × (Nat → pq_S → Option pq_S) × (Nat → Int32 → Int32 → pq_S → Option pq_S) × (Nat → pq_S → Option pq_S)) : Nat → Nat → pq_S → Option pq_S
  | 0, _, _ => none
  | f + 1, a0, S => cb (m_X12_fine n a0 S) fun r6 S_4 => if r6 = 0 then some S_4 else cb (m_X12_here n a0 S_4) fun r12 S_10 => if r12 = 42 then b_X12_readProduct_29 n rec (b_X12_readProduct_4 n rec f) a0 S_10 else cb (m_X12_here n a0 S_10) fun r17 S_15 => if r17 = 47 then b_X12_readProduct_29 n rec (b_X12_readProduct_4 n rec f) a0 S_15 else some S_15
set_option maxHeartbeats 4000000 in
set_option maxRecDepth 100000 in
theorem wb_X12_readProduct_4 {p : Program} {l : Launch} {e : Env} {s : State} {m : MethodId} {args : Array Value} {below : List Frame} {meth : Method} {c : Code} (cx : Cx p s m args meth c cX12_readProduct 2 RX12 none) (C : pq_C) (X : va_W) (S0 : pq_S) (n : Nat) (d : Nat) (rec : (Nat → pq_S → Option pq_S) × (Nat → pq_S → Option pq_S) × (Nat → Int32 → Int32 → pq_S → Option pq_S) × (Nat → pq_S → Option pq_S)) (hrec : HG_modP n d rec) (S1 : pq_S) : ∀ (f : Nat) (a0 : Nat) (S : pq_S) (H : Heap) (locs : List Loc) (ls : Array Slot), PW C X S (pq_F C X S0 s.heap.size) H locs s → Ext S0 S → TY S a0 12 → lv_has ls 2 [(0, .ref a0)] → b_X12_readProduct_4 n rec f a0 S = some S1 → W p l e (rmg_modP (d + 1)) s m args below meth c H locs 0 0 (MQ below (QcV C X S0 s.heap.size S1) args s 0 0 (pq_F C X S0 s.heap.size)) (F0 m 4 ls []) := by
  obtain ⟨hx, hb, hml, hown, hU, hr, hlk⟩ := id cx
  intro f
  induction f with
  | zero =>
    intro a0 S H locs ls hw hE Ta0 hl hm
    cases hm
  | succ f ih =>
    intro a0 S H locs ls hw hE Ta0 hl hm
    rw [b_X12_readProduct_4] at hm
    refine lv_aload_n hx hb dX12_readProduct_4 rfl (lv_at hl 0 rfl) ?_
    obtain ⟨r6, S_4, hq5, hm⟩ := cb_some hm
    refine pw_cz (va_runV (As := []) (rest := []) ⟨hx, hb, hml, hown, hU⟩ (c_X12_fine l C X n S hw.wf _ a0 (Ta0) r6 S_4 hq5) (cwV 0 hU (pq_gV tw1711 tw1713 ts125 tw14 tc_X12_fine) rfl rfl rfl cd_X12_fine ⟨Nat.le_trans (Nat.le_of_ble_eq_true rfl) (Nat.le_add_right _ _), Nat.le_trans (Nat.le_of_ble_eq_true rfl) (Nat.le_add_right _ _)⟩) (pw_preV hw Ta0 (by decide) rfl) rfl rfl hl.1 rfl (lv_room (Nat.le_of_ble_eq_true rfl)) dX12_readProduct_5 ⟨Nat.zero_le _, Nat.zero_le _⟩) hw (fun H locs hw hx7 hz8 => ?_)
    have Ta0 : TY S_4 a0 12 := ty_ext hx7 Ta0
    have hE : Ext S0 S_4 := Ext.tr hE hx7
    refine lv_if_eq (tgt := 67) hx hb dX12_readProduct_8 (by decide) (fun h9 => ?_) (fun h9 => ?_)
    · rw [if_pos h9] at hm
      cases hm
      exact pw_vret hx hb hr hlk hw hE dX12_readProduct_67
    · rw [if_neg h9] at hm
      refine lv_aload_n hx hb dX12_readProduct_11 rfl (lv_at hl 0 rfl) ?_
      obtain ⟨r12, S_10, hq11, hm⟩ := cb_some hm
      refine pw_ci (va_runV (As := []) (rest := []) ⟨hx, hb, hml, hown, hU⟩ (c_X12_here l C X n S_4 hw.wf _ a0 (Ta0) r12 S_10 hq11) (cwV 0 hU (pq_gV tw1719 tw1721 ts127 tw14 tc_X12_here) rfl rfl rfl cd_X12_here ⟨Nat.le_trans (Nat.le_of_ble_eq_true rfl) (Nat.le_add_right _ _), Nat.le_trans (Nat.le_of_ble_eq_true rfl) (Nat.le_add_right _ _)⟩) (pw_preV hw Ta0 (by decide) rfl) rfl rfl hl.1 rfl (lv_room (Nat.le_of_ble_eq_true rfl)) dX12_readProduct_12 ⟨Nat.zero_le _, Nat.zero_le _⟩) hw (fun H locs hw hx13 => ?_)
      have Ta0 : TY S_10 a0 12 := ty_ext hx13 Ta0
      have hE : Ext S0 S_10 := Ext.tr hE hx13
      refine lv_bipush (v := 42) hx hb dX12_readProduct_15 (by decide) ?_
      refine lv_icmp_eq (tgt := 29) hx hb dX12_readProduct_17 (by decide) (fun h14 => ?_) (fun h14 => ?_)
      · rw [if_pos h14] at hm
        exact wb_X12_readProduct_29 cx C X S0 n d rec hrec S1 _ ih a0 S_10 _ _ _ hw hE Ta0 (lv_sub hl [0] rfl) hm
      · rw [if_neg h14] at hm
        refine lv_aload_n hx hb dX12_readProduct_20 rfl (lv_at hl 0 rfl) ?_
        obtain ⟨r17, S_15, hq16, hm⟩ := cb_some hm
        refine pw_ci (va_runV (As := []) (rest := []) ⟨hx, hb, hml, hown, hU⟩ (c_X12_here l C X n S_10 hw.wf _ a0 (Ta0) r17 S_15 hq16) (cwV 0 hU (pq_gV tw1719 tw1721 ts127 tw14 tc_X12_here) rfl rfl rfl cd_X12_here ⟨Nat.le_trans (Nat.le_of_ble_eq_true rfl) (Nat.le_add_right _ _), Nat.le_trans (Nat.le_of_ble_eq_true rfl) (Nat.le_add_right _ _)⟩) (pw_preV hw Ta0 (by decide) rfl) rfl rfl hl.1 rfl (lv_room (Nat.le_of_ble_eq_true rfl)) dX12_readProduct_21 ⟨Nat.zero_le _, Nat.zero_le _⟩) hw (fun H locs hw hx18 => ?_)
        have Ta0 : TY S_15 a0 12 := ty_ext hx18 Ta0
        have hE : Ext S0 S_15 := Ext.tr hE hx18
        refine lv_bipush (v := 47) hx hb dX12_readProduct_24 (by decide) ?_
        refine lv_icmp_ne (tgt := 67) hx hb dX12_readProduct_26 (by decide) (fun h19 => ?_) (fun h19 => ?_)
        · rw [if_neg h19] at hm
          cases hm
          exact pw_vret hx hb hr hlk hw hE dX12_readProduct_67
        · rw [if_pos h19] at hm
          exact wb_X12_readProduct_29 cx C X S0 n d rec hrec S1 _ ih a0 S_15 _ _ _ hw hE Ta0 (lv_sub hl [0] rfl) hm
def g_X12_readProduct (n : Nat) (rec : (Nat → pq_S → Option pq_S) × (Nat → pq_S → Option pq_S) × (Nat → Int32 → Int32 → pq_S → Option pq_S) × (Nat → pq_S → Option pq_S)) (a0 : Nat) (S0 : pq_S) : Option pq_S := Option.bind (rec.2.2.2 a0 S0) fun S_1 => b_X12_readProduct_4 n rec n a0 S_1
set_option maxHeartbeats 4000000 in
set_option maxRecDepth 100000 in
theorem cg_X12_readProduct (n d : Nat) (rec : (Nat → pq_S → Option pq_S) × (Nat → pq_S → Option pq_S) × (Nat → Int32 → Int32 → pq_S → Option pq_S) × (Nat → pq_S → Option pq_S)) (hrec : HG_modP n d rec) (l : Launch) (C : pq_C) (X : va_W) (S0 : pq_S) (hF : WF S0) (sz : Nat) (a0 : Nat) (Ta0 : TY S0 a0 12) (S1 : pq_S) (hm : g_X12_readProduct n rec a0 S0 = some S1) : MV l yX12_readProduct (.code yX12_readProduct cX12_readProduct 2 none :: pq_U) (rmg_modP (d + 1)) C X S0 sz [.ref a0] S1 0 0 := by
  refine Met.ofW (cc := cX12_readProduct) (maxL := 2) (ret := none) (by decide) rfl ?_
  intro p e s m args below meth c s₁ B hml hv
  obtain ⟨rfl, hv⟩ := hv
  have hsz := hv.1
  subst hsz
  have hw := pw_entry hF hv
  have hts := atoms_spec (ws := .code yX12_readProduct cX12_readProduct 2 none :: pq_U) B.pre
  have hU : ∀ w ∈ pq_U, w.before _ s = true := fun w h => hts w (List.mem_cons_of_mem _ h)
  have hx := B.exec
  have hb := B.bytes
  have hr := B.returns
  have hown : s.vm.findClass RX12 = some m.cls := findClass_of_methodNamed B.named
  have hlk := B.notSynchronized
  have hl := lv_entry ([.ref a0]) (n := 2) (Nat.le_of_ble_eq_true rfl)
  rw [lg_entry_eq]
  generalize (lg_sl ([.ref a0]) ++ List.replicate (2 - (lg_sl ([.ref a0])).length) Slot.unset).toArray = ls at hl ⊢
  have hl : lv_has ls 2 [(0, .ref a0)] := hl
  have hE : Ext S0 S0 := Ext.rf _
  have cx : Cx p s m _ meth c cX12_readProduct 2 RX12 none := ⟨hx, hb, hml, hown, hU, hr, hlk⟩
  rw [g_X12_readProduct] at hm
  refine lv_aload_n hx hb dX12_readProduct_0 rfl (lv_at hl 0 rfl) ?_
  obtain ⟨S_1, hq2, hm⟩ := bd_some hm
  refine pw_cv (va_runV (As := []) (rest := []) ⟨hx, hb, hml, hown, hU⟩ (hrec.2.2.2 l C X S0 hw.wf _ a0 (Ta0) S_1 hq2) (cwV 0 hU (pq_gV tw1787 tw1789 ts138 tw14 tc_X12_readUnit) rfl rfl rfl cd_X12_readUnit ⟨Nat.le_refl _, rmg_modP_l d (by decide)⟩) (pw_preV hw Ta0 (by decide) rfl) rfl rfl hl.1 rfl (lv_room (Nat.le_of_ble_eq_true rfl)) dX12_readProduct_1 ⟨Nat.zero_le _, Nat.zero_le _⟩) hw (fun H locs hw hx3 => ?_)
  have Ta0 : TY S_1 a0 12 := ty_ext hx3 Ta0
  have hE : Ext S0 S_1 := Ext.tr hE hx3
  exact wb_X12_readProduct_4 cx C X S0 n d rec hrec S1 n a0 S_1 _ _ _ hw hE Ta0 (lv_sub hl [0] rfl) hm
def g_X12_readTwo (n : Nat) (rec : (Nat → pq_S → Option pq_S) × (Nat → pq_S → Option pq_S) × (Nat → Int32 → Int32 → pq_S → Option pq_S) × (Nat → pq_S → Option pq_S)) (a0 : Nat) (x1 : Int32) (x2 : Int32) (S0 : pq_S) : Option pq_S := Option.bind (m_X12_opensOne n a0 x1 S0) fun S_1 => Option.bind (m_X12_sign n a0 91 S_1) fun S_4 => Option.bind (rec.1 a0 S_4) fun S_7 => Option.bind (m_X12_sign n a0 44 S_7) fun S_10 => Option.bind (rec.1 a0 S_10) fun S_13 => Option.bind (m_X12_sign n a0 93 S_13) fun S_16 => Option.bind (m_X12_emit n a0 x2 0 (sI S_16 1207 a0 ((pI S_16 1207 a0) - (1 : Int32)))) fun S_19 => some S_19
set_option maxHeartbeats 4000000 in
set_option maxRecDepth 100000 in
theorem cg_X12_readTwo (n d : Nat) (rec : (Nat → pq_S → Option pq_S) × (Nat → pq_S → Option pq_S) × (Nat → Int32 → Int32 → pq_S → Option pq_S) × (Nat → pq_S → Option pq_S)) (hrec : HG_modP n d rec) (l : Launch) (C : pq_C) (X : va_W) (S0 : pq_S) (hF : WF S0) (sz : Nat) (a0 : Nat) (x1 : Int32) (x2 : Int32) (Ta0 : TY S0 a0 12) (S1 : pq_S) (hm : g_X12_readTwo n rec a0 x1 x2 S0 = some S1) : MV l yX12_readTwo (.code yX12_readTwo cX12_readTwo 3 none :: pq_U) (rmg_modP (d + 1)) C X S0 sz [.ref a0, .int x1, .int x2] S1 0 0 := by
  refine Met.ofW (cc := cX12_readTwo) (maxL := 3) (ret := none) (by decide) rfl ?_
  intro p e s m args below meth c s₁ B hml hv
  obtain ⟨rfl, hv⟩ := hv
  have hsz := hv.1
  subst hsz
  have hw := pw_entry hF hv
  have hts := atoms_spec (ws := .code yX12_readTwo cX12_readTwo 3 none :: pq_U) B.pre
  have hU : ∀ w ∈ pq_U, w.before _ s = true := fun w h => hts w (List.mem_cons_of_mem _ h)
  have hx := B.exec
  have hb := B.bytes
  have hr := B.returns
  have hown : s.vm.findClass RX12 = some m.cls := findClass_of_methodNamed B.named
  have hlk := B.notSynchronized
  have hl := lv_entry ([.ref a0, .int x1, .int x2]) (n := 3) (Nat.le_of_ble_eq_true rfl)
  rw [lg_entry_eq]
  generalize (lg_sl ([.ref a0, .int x1, .int x2]) ++ List.replicate (3 - (lg_sl ([.ref a0, .int x1, .int x2])).length) Slot.unset).toArray = ls at hl ⊢
  have hl : lv_has ls 3 [(0, .ref a0), (1, .int x1), (2, .int x2)] := hl
  have hE : Ext S0 S0 := Ext.rf _
  have cx : Cx p s m _ meth c cX12_readTwo 3 RX12 none := ⟨hx, hb, hml, hown, hU, hr, hlk⟩
  rw [g_X12_readTwo] at hm
  refine lv_aload_n hx hb dX12_readTwo_0 rfl (lv_at hl 0 rfl) ?_
  refine lv_iload_n hx hb dX12_readTwo_1 rfl (lv_at hl 1 rfl) ?_
  obtain ⟨S_1, hq2, hm⟩ := bd_some hm
  refine pw_cv (va_runV (As := [.int x1]) (rest := []) ⟨hx, hb, hml, hown, hU⟩ (c_X12_opensOne l C X n S0 hw.wf _ a0 x1 (Ta0) S_1 hq2) (cwV 1 hU (pq_gV tw1791 tw1793 ts139 tw14 tc_X12_opensOne) rfl rfl rfl cd_X12_opensOne ⟨Nat.le_trans (Nat.le_of_ble_eq_true rfl) (Nat.le_add_right _ _), Nat.le_trans (Nat.le_of_ble_eq_true rfl) (Nat.le_add_right _ _)⟩) (pw_preV hw Ta0 (by decide) rfl) rfl rfl hl.1 rfl (lv_room (Nat.le_of_ble_eq_true rfl)) dX12_readTwo_2 ⟨Nat.zero_le _, Nat.zero_le _⟩) hw (fun H locs hw hx3 => ?_)
  have Ta0 : TY S_1 a0 12 := ty_ext hx3 Ta0
  have hE : Ext S0 S_1 := Ext.tr hE hx3
  refine lv_aload_n hx hb dX12_readTwo_5 rfl (lv_at hl 0 rfl) ?_
  refine lv_bipush (v := 91) hx hb dX12_readTwo_6 (by decide) ?_
  obtain ⟨S_4, hq5, hm⟩ := bd_some hm
  refine pw_cv (va_runV (As := [.int 91]) (rest := []) ⟨hx, hb, hml, hown, hU⟩ (c_X12_sign l C X n S_1 hw.wf _ a0 91 (Ta0) S_4 hq5) (cwV 1 hU (pq_gV tw1764 tw1766 ts134 tw14 tc_X12_sign) rfl rfl rfl cd_X12_sign ⟨Nat.le_trans (Nat.le_of_ble_eq_true rfl) (Nat.le_add_right _ _), Nat.le_trans (Nat.le_of_ble_eq_true rfl) (Nat.le_add_right _ _)⟩) (pw_preV hw Ta0 (by decide) rfl) rfl rfl hl.1 rfl (lv_room (Nat.le_of_ble_eq_true rfl)) dX12_readTwo_8 ⟨Nat.zero_le _, Nat.zero_le _⟩) hw (fun H locs hw hx6 => ?_)
  have Ta0 : TY S_4 a0 12 := ty_ext hx6 Ta0
  have hE : Ext S0 S_4 := Ext.tr hE hx6
  refine lv_aload_n hx hb dX12_readTwo_11 rfl (lv_at hl 0 rfl) ?_
  obtain ⟨S_7, hq8, hm⟩ := bd_some hm
  refine pw_cv (va_runV (As := []) (rest := []) ⟨hx, hb, hml, hown, hU⟩ (hrec.1 l C X S_4 hw.wf _ a0 (Ta0) S_7 hq8) (cwV 0 hU (pq_gV tw1779 tw1781 ts136 tw14 tc_X12_readSum) rfl rfl rfl cd_X12_readSum ⟨Nat.le_refl _, rmg_modP_l d (by decide)⟩) (pw_preV hw Ta0 (by decide) rfl) rfl rfl hl.1 rfl (lv_room (Nat.le_of_ble_eq_true rfl)) dX12_readTwo_12 ⟨Nat.zero_le _, Nat.zero_le _⟩) hw (fun H locs hw hx9 => ?_)
  have Ta0 : TY S_7 a0 12 := ty_ext hx9 Ta0
  have hE : Ext S0 S_7 := Ext.tr hE hx9
  refine lv_aload_n hx hb dX12_readTwo_15 rfl (lv_at hl 0 rfl) ?_
  refine lv_bipush (v := 44) hx hb dX12_readTwo_16 (by decide) ?_
  obtain ⟨S_10, hq11, hm⟩ := bd_some hm
  refine pw_cv (va_runV (As := [.int 44]) (rest := []) ⟨hx, hb, hml, hown, hU⟩ (c_X12_sign l C X n S_7 hw.wf _ a0 44 (Ta0) S_10 hq11) (cwV 1 hU (pq_gV tw1764 tw1766 ts134 tw14 tc_X12_sign) rfl rfl rfl cd_X12_sign ⟨Nat.le_trans (Nat.le_of_ble_eq_true rfl) (Nat.le_add_right _ _), Nat.le_trans (Nat.le_of_ble_eq_true rfl) (Nat.le_add_right _ _)⟩) (pw_preV hw Ta0 (by decide) rfl) rfl rfl hl.1 rfl (lv_room (Nat.le_of_ble_eq_true rfl)) dX12_readTwo_18 ⟨Nat.zero_le _, Nat.zero_le _⟩) hw (fun H locs hw hx12 => ?_)
  have Ta0 : TY S_10 a0 12 := ty_ext hx12 Ta0
  have hE : Ext S0 S_10 := Ext.tr hE hx12
  refine lv_aload_n hx hb dX12_readTwo_21 rfl (lv_at hl 0 rfl) ?_
  obtain ⟨S_13, hq14, hm⟩ := bd_some hm
  refine pw_cv (va_runV (As := []) (rest := []) ⟨hx, hb, hml, hown, hU⟩ (hrec.1 l C X S_10 hw.wf _ a0 (Ta0) S_13 hq14) (cwV 0 hU (pq_gV tw1779 tw1781 ts136 tw14 tc_X12_readSum) rfl rfl rfl cd_X12_readSum ⟨Nat.le_refl _, rmg_modP_l d (by decide)⟩) (pw_preV hw Ta0 (by decide) rfl) rfl rfl hl.1 rfl (lv_room (Nat.le_of_ble_eq_true rfl)) dX12_readTwo_22 ⟨Nat.zero_le _, Nat.zero_le _⟩) hw (fun H locs hw hx15 => ?_)
  have Ta0 : TY S_13 a0 12 := ty_ext hx15 Ta0
  have hE : Ext S0 S_13 := Ext.tr hE hx15
  refine lv_aload_n hx hb dX12_readTwo_25 rfl (lv_at hl 0 rfl) ?_
  refine lv_bipush (v := 93) hx hb dX12_readTwo_26 (by decide) ?_
  obtain ⟨S_16, hq17, hm⟩ := bd_some hm
  refine pw_cv (va_runV (As := [.int 93]) (rest := []) ⟨hx, hb, hml, hown, hU⟩ (c_X12_sign l C X n S_13 hw.wf _ a0 93 (Ta0) S_16 hq17) (cwV 1 hU (pq_gV tw1764 tw1766 ts134 tw14 tc_X12_sign) rfl rfl rfl cd_X12_sign ⟨Nat.le_trans (Nat.le_of_ble_eq_true rfl) (Nat.le_add_right _ _), Nat.le_trans (Nat.le_of_ble_eq_true rfl) (Nat.le_add_right _ _)⟩) (pw_preV hw Ta0 (by decide) rfl) rfl rfl hl.1 rfl (lv_room (Nat.le_of_ble_eq_true rfl)) dX12_readTwo_28 ⟨Nat.zero_le _, Nat.zero_le _⟩) hw (fun H locs hw hx18 => ?_)
  have Ta0 : TY S_16 a0 12 := ty_ext hx18 Ta0
  have hE : Ext S0 S_16 := Ext.tr hE hx18
  refine lv_aload_n hx hb dX12_readTwo_31 rfl (lv_at hl 0 rfl) ?_
  refine lv_dup hx hb dX12_readTwo_32 rfl ?_
  refine pg_i (k := 12) (j := 7) (f := 1207) hx hb hown hU iu12 hw Ta0 (by decide) rfl (hU _ tw1478) rfl dX12_readTwo_33 ?_
  refine lv_iconst (v := 1) hx hb dX12_readTwo_36 (by decide) ?_
  refine lv_isub hx hb dX12_readTwo_37 ?_
  refine pp_i (k := 12) (j := 7) (f := 1207) hx hb hown hU iu12 tyX12_ok nmX12 hw Ta0 (by decide) rfl (hU _ tw1478) rfl rfl rfl dX12_readTwo_38 (fun H locs hw => ?_)
  refine lv_aload_n hx hb dX12_readTwo_41 rfl (lv_at hl 0 rfl) ?_
  refine lv_iload_n hx hb dX12_readTwo_42 rfl (lv_at hl 2 rfl) ?_
  refine lv_iconst (v := 0) hx hb dX12_readTwo_43 (by decide) ?_
  obtain ⟨S_19, hq20, hm⟩ := bd_some hm
  refine pw_cv (va_runV (As := [.int x2, .int 0]) (rest := []) ⟨hx, hb, hml, hown, hU⟩ (c_X12_emit l C X n (sI S_16 1207 a0 ((pI S_16 1207 a0) - (1 : Int32))) hw.wf _ a0 x2 0 (Ta0) S_19 hq20) (cwV 2 hU (pq_gV tw1795 tw1797 ts140 tw14 tc_X12_emit) rfl rfl rfl cd_X12_emit ⟨Nat.le_trans (Nat.le_of_ble_eq_true rfl) (Nat.le_add_right _ _), Nat.le_trans (Nat.le_of_ble_eq_true rfl) (Nat.le_add_right _ _)⟩) (pw_preV hw Ta0 (by decide) rfl) rfl rfl hl.1 rfl (lv_room (Nat.le_of_ble_eq_true rfl)) dX12_readTwo_44 ⟨Nat.zero_le _, Nat.zero_le _⟩) hw (fun H locs hw hx21 => ?_)
  have Ta0 : TY S_19 a0 12 := ty_ext hx21 Ta0
  have hE : Ext S0 S_19 := Ext.tr hE hx21
  cases hm
  exact pw_vret hx hb hr hlk hw hE dX12_readTwo_47
def b_X12_readUnit_136 (n : Nat) (rec : (Nat → pq_S → Option pq_S) × (Nat → pq_S → Option pq_S) × (Nat → Int32 → Int32 → pq_S → Option pq_S) × (Nat → pq_S → Option pq_S)) (a0 : Nat) (x1 : Int32) (S : pq_S) : Option pq_S := cb (m_X12_fine n a0 S) fun r72 S_70 => if r72 = 0 then some S_70 else Option.bind (m_X12_pass n a0 S_70) fun S_76 => Option.bind (m_X12_emit n a0 1 x1 S_76) fun S_79 => some S_79
set_option maxHeartbeats 4000000 in
set_option maxRecDepth 100000 in
theorem wb_X12_readUnit_136 {p : Program} {l : Launch} {e : Env} {s : State} {m : MethodId} {args : Array Value} {below : List Frame} {meth : Method} {c : Code} (cx : Cx p s m args meth c cX12_readUnit 2 RX12 none) (C : pq_C) (X : va_W) (S0 : pq_S) (n : Nat) (d : Nat) (rec : (Nat → pq_S → Option pq_S) × (Nat → pq_S → Option pq_S) × (Nat → Int32 → Int32 → pq_S → Option pq_S) × (Nat → pq_S → Option pq_S)) (hrec : HG_modP n d rec) (S1 : pq_S) : ∀ (a0 : Nat) (x1 : Int32) (S : pq_S) (H : Heap) (locs : List Loc) (ls : Array Slot), PW C X S (pq_F C X S0 s.heap.size) H locs s → Ext S0 S → TY S a0 12 → lv_has ls 2 [(0, .ref a0), (1, .int x1)] → b_X12_readUnit_136 n rec a0 x1 S = some S1 → W p l e (rmg_modP (d + 1)) s m args below meth c H locs 0 0 (MQ below (QcV C X S0 s.heap.size S1) args s 0 0 (pq_F C X S0 s.heap.size)) (F0 m 136 ls []) := by
  obtain ⟨hx, hb, hml, hown, hU, hr, hlk⟩ := id cx
  intro a0 x1 S H locs ls hw hE Ta0 hl hm
  rw [b_X12_readUnit_136] at hm
  refine lv_aload_n hx hb dX12_readUnit_136 rfl (lv_at hl 0 rfl) ?_
  obtain ⟨r72, S_70, hq71, hm⟩ := cb_some hm
  refine pw_cz (va_runV (As := []) (rest := []) ⟨hx, hb, hml, hown, hU⟩ (c_X12_fine l C X n S hw.wf _ a0 (Ta0) r72 S_70 hq71) (cwV 0 hU (pq_gV tw1711 tw1713 ts125 tw14 tc_X12_fine) rfl rfl rfl cd_X12_fine ⟨Nat.le_trans (Nat.le_of_ble_eq_true rfl) (Nat.le_add_right _ _), Nat.le_trans (Nat.le_of_ble_eq_true rfl) (Nat.le_add_right _ _)⟩) (pw_preV hw Ta0 (by decide) rfl) rfl rfl hl.1 rfl (lv_room (Nat.le_of_ble_eq_true rfl)) dX12_readUnit_137 ⟨Nat.zero_le _, Nat.zero_le _⟩) hw (fun H locs hw hx73 hz74 => ?_)
  have Ta0 : TY S_70 a0 12 := ty_ext hx73 Ta0
  have hE : Ext S0 S_70 := Ext.tr hE hx73
  refine lv_if_ne (tgt := 144) hx hb dX12_readUnit_140 (by decide) (fun h75 => ?_) (fun h75 => ?_)
  · rw [if_neg h75] at hm
    refine lv_aload_n hx hb dX12_readUnit_144 rfl (lv_at hl 0 rfl) ?_
    obtain ⟨S_76, hq77, hm⟩ := bd_some hm
    refine pw_cv (va_runV (As := []) (rest := []) ⟨hx, hb, hml, hown, hU⟩ (c_X12_pass l C X n S_70 hw.wf _ a0 (Ta0) S_76 hq77) (cwV 0 hU (pq_gV tw1749 tw1751 ts131 tw14 tc_X12_pass) rfl rfl rfl cd_X12_pass ⟨Nat.le_trans (Nat.le_of_ble_eq_true rfl) (Nat.le_add_right _ _), Nat.le_trans (Nat.le_of_ble_eq_true rfl) (Nat.le_add_right _ _)⟩) (pw_preV hw Ta0 (by decide) rfl) rfl rfl hl.1 rfl (lv_room (Nat.le_of_ble_eq_true rfl)) dX12_readUnit_145 ⟨Nat.zero_le _, Nat.zero_le _⟩) hw (fun H locs hw hx78 => ?_)
    have Ta0 : TY S_76 a0 12 := ty_ext hx78 Ta0
    have hE : Ext S0 S_76 := Ext.tr hE hx78
    refine lv_aload_n hx hb dX12_readUnit_148 rfl (lv_at hl 0 rfl) ?_
    refine lv_iconst (v := 1) hx hb dX12_readUnit_149 (by decide) ?_
    refine lv_iload_n hx hb dX12_readUnit_150 rfl (lv_at hl 1 rfl) ?_
    obtain ⟨S_79, hq80, hm⟩ := bd_some hm
    refine pw_cv (va_runV (As := [.int 1, .int x1]) (rest := []) ⟨hx, hb, hml, hown, hU⟩ (c_X12_emit l C X n S_76 hw.wf _ a0 1 x1 (Ta0) S_79 hq80) (cwV 2 hU (pq_gV tw1795 tw1797 ts140 tw14 tc_X12_emit) rfl rfl rfl cd_X12_emit ⟨Nat.le_trans (Nat.le_of_ble_eq_true rfl) (Nat.le_add_right _ _), Nat.le_trans (Nat.le_of_ble_eq_true rfl) (Nat.le_add_right _ _)⟩) (pw_preV hw Ta0 (by decide) rfl) rfl rfl hl.1 rfl (lv_room (Nat.le_of_ble_eq_true rfl)) dX12_readUnit_151 ⟨Nat.zero_le _, Nat.zero_le _⟩) hw (fun H locs hw hx81 => ?_)
    have Ta0 : TY S_79 a0 12 := ty_ext hx81 Ta0
    have hE : Ext S0 S_79 := Ext.tr hE hx81
    cases hm
    exact pw_vret hx hb hr hlk hw hE dX12_readUnit_154
  · rw [if_pos h75] at hm
    cases hm
    exact pw_vret hx hb hr hlk hw hE dX12_readUnit_143
def g_X12_readUnit (n : Nat) (rec : (Nat → pq_S → Option pq_S) × (Nat → pq_S → Option pq_S) × (Nat → Int32 → Int32 → pq_S → Option pq_S) × (Nat → pq_S → Option pq_S)) (a0 : Nat) (S0 : pq_S) : Option pq_S := cb (m_X12_fine n a0 S0) fun r3 S_1 => if r3 = 0 then some S_1 else cb (m_X12_here n a0 S_1) fun r9 S_7 => if r9 = 40 then Option.bind (m_X12_opensOne n a0 1 S_7) fun S_61 => Option.bind (rec.1 a0 S_61) fun S_64 => Option.bind (m_X12_sign n a0 41 S_64) fun S_67 => some (sI S_67 1207 a0 ((pI S_67 1207 a0) - (1 : Int32))) else cb (m_X12_here n a0 S_7) fun r14 S_12 => cb (m_X12_isDigit n r14 S_12) fun r18 S_16 => if r18 = 0 then cb (m_X12_word n a0 S_16) fun r24 S_22 => cb (m_X12_of n 6 S_22) fun r28 S_26 => if r24 = r28 then Option.bind (rec.2.2.1 a0 5 6 S_26) fun S_51 => some S_51 else cb (m_X12_word n a0 S_26) fun r33 S_31 => cb (m_X12_of n 7 S_31) fun r37 S_35 => if r33 = r37 then Option.bind (rec.2.2.1 a0 4 7 S_35) fun S_48 => some S_48 else cb (m_X12_factHere n a0 S_35) fun r42 S_40 => if r42 = (-1) then Option.bind (m_X12_wrong n a0 1 (pI S_40 1204 a0) S_40) fun S_45 => b_X12_readUnit_136 n rec a0 r42 S_45 else b_X12_readUnit_136 n rec a0 r42 S_40 else cb (m_X12_readNumber n a0 0 999 S_16) fun r56 S_54 => Option.bind (m_X12_emit n a0 0 r56 S_54) fun S_58 => some S_58
set_option maxHeartbeats 4000000 in
set_option maxRecDepth 100000 in
theorem cg_X12_readUnit (n d : Nat) (rec : (Nat → pq_S → Option pq_S) × (Nat → pq_S → Option pq_S) × (Nat → Int32 → Int32 → pq_S → Option pq_S) × (Nat → pq_S → Option pq_S)) (hrec : HG_modP n d rec) (l : Launch) (C : pq_C) (X : va_W) (S0 : pq_S) (hF : WF S0) (sz : Nat) (a0 : Nat) (Ta0 : TY S0 a0 12) (S1 : pq_S) (hm : g_X12_readUnit n rec a0 S0 = some S1) : MV l yX12_readUnit (.code yX12_readUnit cX12_readUnit 2 none :: pq_U) (rmg_modP (d + 1)) C X S0 sz [.ref a0] S1 0 0 := by
  refine Met.ofW (cc := cX12_readUnit) (maxL := 2) (ret := none) (by decide) rfl ?_
  intro p e s m args below meth c s₁ B hml hv
  obtain ⟨rfl, hv⟩ := hv
  have hsz := hv.1
  subst hsz
  have hw := pw_entry hF hv
  have hts := atoms_spec (ws := .code yX12_readUnit cX12_readUnit 2 none :: pq_U) B.pre
  have hU : ∀ w ∈ pq_U, w.before _ s = true := fun w h => hts w (List.mem_cons_of_mem _ h)
  have hx := B.exec
  have hb := B.bytes
  have hr := B.returns
  have hown : s.vm.findClass RX12 = some m.cls := findClass_of_methodNamed B.named
  have hlk := B.notSynchronized
  have hl := lv_entry ([.ref a0]) (n := 2) (Nat.le_of_ble_eq_true rfl)
  rw [lg_entry_eq]
  generalize (lg_sl ([.ref a0]) ++ List.replicate (2 - (lg_sl ([.ref a0])).length) Slot.unset).toArray = ls at hl ⊢
  have hl : lv_has ls 2 [(0, .ref a0)] := hl
  have hE : Ext S0 S0 := Ext.rf _
  have cx : Cx p s m _ meth c cX12_readUnit 2 RX12 none := ⟨hx, hb, hml, hown, hU, hr, hlk⟩
  rw [g_X12_readUnit] at hm
  refine lv_aload_n hx hb dX12_readUnit_0 rfl (lv_at hl 0 rfl) ?_
  obtain ⟨r3, S_1, hq2, hm⟩ := cb_some hm
  refine pw_cz (va_runV (As := []) (rest := []) ⟨hx, hb, hml, hown, hU⟩ (c_X12_fine l C X n S0 hw.wf _ a0 (Ta0) r3 S_1 hq2) (cwV 0 hU (pq_gV tw1711 tw1713 ts125 tw14 tc_X12_fine) rfl rfl rfl cd_X12_fine ⟨Nat.le_trans (Nat.le_of_ble_eq_true rfl) (Nat.le_add_right _ _), Nat.le_trans (Nat.le_of_ble_eq_true rfl) (Nat.le_add_right _ _)⟩) (pw_preV hw Ta0 (by decide) rfl) rfl rfl hl.1 rfl (lv_room (Nat.le_of_ble_eq_true rfl)) dX12_readUnit_1 ⟨Nat.zero_le _, Nat.zero_le _⟩) hw (fun H locs hw hx4 hz5 => ?_)
  have Ta0 : TY S_1 a0 12 := ty_ext hx4 Ta0
  have hE : Ext S0 S_1 := Ext.tr hE hx4
  refine lv_if_ne (tgt := 8) hx hb dX12_readUnit_4 (by decide) (fun h6 => ?_) (fun h6 => ?_)
  · rw [if_neg h6] at hm
    refine lv_aload_n hx hb dX12_readUnit_8 rfl (lv_at hl 0 rfl) ?_
    obtain ⟨r9, S_7, hq8, hm⟩ := cb_some hm
    refine pw_ci (va_runV (As := []) (rest := []) ⟨hx, hb, hml, hown, hU⟩ (c_X12_here l C X n S_1 hw.wf _ a0 (Ta0) r9 S_7 hq8) (cwV 0 hU (pq_gV tw1719 tw1721 ts127 tw14 tc_X12_here) rfl rfl rfl cd_X12_here ⟨Nat.le_trans (Nat.le_of_ble_eq_true rfl) (Nat.le_add_right _ _), Nat.le_trans (Nat.le_of_ble_eq_true rfl) (Nat.le_add_right _ _)⟩) (pw_preV hw Ta0 (by decide) rfl) rfl rfl hl.1 rfl (lv_room (Nat.le_of_ble_eq_true rfl)) dX12_readUnit_9 ⟨Nat.zero_le _, Nat.zero_le _⟩) hw (fun H locs hw hx10 => ?_)
    have Ta0 : TY S_7 a0 12 := ty_ext hx10 Ta0
    have hE : Ext S0 S_7 := Ext.tr hE hx10
    refine lv_bipush (v := 40) hx hb dX12_readUnit_12 (by decide) ?_
    refine lv_icmp_ne (tgt := 45) hx hb dX12_readUnit_14 (by decide) (fun h11 => ?_) (fun h11 => ?_)
    · rw [if_neg h11] at hm
      refine lv_aload_n hx hb dX12_readUnit_45 rfl (lv_at hl 0 rfl) ?_
      obtain ⟨r14, S_12, hq13, hm⟩ := cb_some hm
      refine pw_ci (va_runV (As := []) (rest := []) ⟨hx, hb, hml, hown, hU⟩ (c_X12_here l C X n S_7 hw.wf _ a0 (Ta0) r14 S_12 hq13) (cwV 0 hU (pq_gV tw1719 tw1721 ts127 tw14 tc_X12_here) rfl rfl rfl cd_X12_here ⟨Nat.le_trans (Nat.le_of_ble_eq_true rfl) (Nat.le_add_right _ _), Nat.le_trans (Nat.le_of_ble_eq_true rfl) (Nat.le_add_right _ _)⟩) (pw_preV hw Ta0 (by decide) rfl) rfl rfl hl.1 rfl (lv_room (Nat.le_of_ble_eq_true rfl)) dX12_readUnit_46 ⟨Nat.zero_le _, Nat.zero_le _⟩) hw (fun H locs hw hx15 => ?_)
      have Ta0 : TY S_12 a0 12 := ty_ext hx15 Ta0
      have hE : Ext S0 S_12 := Ext.tr hE hx15
      obtain ⟨r18, S_16, hq17, hm⟩ := cb_some hm
      refine pw_cz (va_runS (As := [.int r14]) (rest := []) ⟨hx, hb, hml, hown, hU⟩ (c_X12_isDigit l C X n S_12 hw.wf _ r14  r18 S_16 hq17) ⟨callB_of 1 hU (pq_g1 tc_X12_isDigit) rfl rfl rfl (hU _ tw14) (hU _ tw1761) cd_X12_isDigit.2 ⟨Nat.le_trans (Nat.le_of_ble_eq_true rfl) (Nat.le_add_right _ _), Nat.le_trans (Nat.le_of_ble_eq_true rfl) (Nat.le_add_right _ _)⟩, hU _ tw1762⟩ (pw_preS hw) rfl rfl hl.1 rfl (lv_room (Nat.le_of_ble_eq_true rfl)) dX12_readUnit_49 ⟨Nat.zero_le _, Nat.zero_le _⟩) hw (fun H locs hw hx19 hz20 => ?_)
      have Ta0 : TY S_16 a0 12 := ty_ext hx19 Ta0
      have hE : Ext S0 S_16 := Ext.tr hE hx19
      refine lv_if_eq (tgt := 71) hx hb dX12_readUnit_52 (by decide) (fun h21 => ?_) (fun h21 => ?_)
      · rw [if_pos h21] at hm
        refine lv_aload_n hx hb dX12_readUnit_71 rfl (lv_at hl 0 rfl) ?_
        obtain ⟨r24, S_22, hq23, hm⟩ := cb_some hm
        refine pw_ci (va_runV (As := []) (rest := []) ⟨hx, hb, hml, hown, hU⟩ (c_X12_word l C X n S_16 hw.wf _ a0 (Ta0) r24 S_22 hq23) (cwV 0 hU (pq_gV tw1723 tw1725 ts128 tw14 tc_X12_word) rfl rfl rfl cd_X12_word ⟨Nat.le_trans (Nat.le_of_ble_eq_true rfl) (Nat.le_add_right _ _), Nat.le_trans (Nat.le_of_ble_eq_true rfl) (Nat.le_add_right _ _)⟩) (pw_preV hw Ta0 (by decide) rfl) rfl rfl hl.1 rfl (lv_room (Nat.le_of_ble_eq_true rfl)) dX12_readUnit_72 ⟨Nat.zero_le _, Nat.zero_le _⟩) hw (fun H locs hw hx25 => ?_)
        have Ta0 : TY S_22 a0 12 := ty_ext hx25 Ta0
        have hE : Ext S0 S_22 := Ext.tr hE hx25
        refine va_ldcwS hx hb hown (hw.str 27 rfl) dX12_readUnit_75 ?_
        obtain ⟨r28, S_26, hq27, hm⟩ := cb_some hm
        refine pw_ci (va_runS (As := [.ref (C.2.2.2.2.2.2.1 6)]) (rest := [.int r24]) ⟨hx, hb, hml, hown, hU⟩ (c_X12_of l C X n S_22 hw.wf _ 6 ((by decide)) r28 S_26 hq27) ⟨callB_of 1 hU (pq_g1 tc_X12_of) rfl rfl rfl (hU _ tw14) (hU _ tw1731) cd_X12_of.2 ⟨Nat.le_trans (Nat.le_of_ble_eq_true rfl) (Nat.le_add_right _ _), Nat.le_trans (Nat.le_of_ble_eq_true rfl) (Nat.le_add_right _ _)⟩, hU _ tw1732⟩ (pw_preS hw) rfl rfl hl.1 rfl (lv_room (Nat.le_of_ble_eq_true rfl)) dX12_readUnit_78 ⟨Nat.zero_le _, Nat.zero_le _⟩) hw (fun H locs hw hx29 => ?_)
        have Ta0 : TY S_26 a0 12 := ty_ext hx29 Ta0
        have hE : Ext S0 S_26 := Ext.tr hE hx29
        refine lv_icmp_ne (tgt := 94) hx hb dX12_readUnit_81 (by decide) (fun h30 => ?_) (fun h30 => ?_)
        · rw [if_neg h30] at hm
          refine lv_aload_n hx hb dX12_readUnit_94 rfl (lv_at hl 0 rfl) ?_
          obtain ⟨r33, S_31, hq32, hm⟩ := cb_some hm
          refine pw_ci (va_runV (As := []) (rest := []) ⟨hx, hb, hml, hown, hU⟩ (c_X12_word l C X n S_26 hw.wf _ a0 (Ta0) r33 S_31 hq32) (cwV 0 hU (pq_gV tw1723 tw1725 ts128 tw14 tc_X12_word) rfl rfl rfl cd_X12_word ⟨Nat.le_trans (Nat.le_of_ble_eq_true rfl) (Nat.le_add_right _ _), Nat.le_trans (Nat.le_of_ble_eq_true rfl) (Nat.le_add_right _ _)⟩) (pw_preV hw Ta0 (by decide) rfl) rfl rfl hl.1 rfl (lv_room (Nat.le_of_ble_eq_true rfl)) dX12_readUnit_95 ⟨Nat.zero_le _, Nat.zero_le _⟩) hw (fun H locs hw hx34 => ?_)
          have Ta0 : TY S_31 a0 12 := ty_ext hx34 Ta0
          have hE : Ext S0 S_31 := Ext.tr hE hx34
          refine va_ldcwS hx hb hown (hw.str 28 rfl) dX12_readUnit_98 ?_
          obtain ⟨r37, S_35, hq36, hm⟩ := cb_some hm
          refine pw_ci (va_runS (As := [.ref (C.2.2.2.2.2.2.1 7)]) (rest := [.int r33]) ⟨hx, hb, hml, hown, hU⟩ (c_X12_of l C X n S_31 hw.wf _ 7 ((by decide)) r37 S_35 hq36) ⟨callB_of 1 hU (pq_g1 tc_X12_of) rfl rfl rfl (hU _ tw14) (hU _ tw1731) cd_X12_of.2 ⟨Nat.le_trans (Nat.le_of_ble_eq_true rfl) (Nat.le_add_right _ _), Nat.le_trans (Nat.le_of_ble_eq_true rfl) (Nat.le_add_right _ _)⟩, hU _ tw1732⟩ (pw_preS hw) rfl rfl hl.1 rfl (lv_room (Nat.le_of_ble_eq_true rfl)) dX12_readUnit_101 ⟨Nat.zero_le _, Nat.zero_le _⟩) hw (fun H locs hw hx38 => ?_)
          have Ta0 : TY S_35 a0 12 := ty_ext hx38 Ta0
          have hE : Ext S0 S_35 := Ext.tr hE hx38
          refine lv_icmp_ne (tgt := 117) hx hb dX12_readUnit_104 (by decide) (fun h39 => ?_) (fun h39 => ?_)
          · rw [if_neg h39] at hm
            refine lv_aload_n hx hb dX12_readUnit_117 rfl (lv_at hl 0 rfl) ?_
            obtain ⟨r42, S_40, hq41, hm⟩ := cb_some hm
            refine pw_ci (va_runV (As := []) (rest := []) ⟨hx, hb, hml, hown, hU⟩ (c_X12_factHere l C X n S_35 hw.wf _ a0 (Ta0) r42 S_40 hq41) (cwV 0 hU (pq_gV tw1805 tw1807 ts142 tw14 tc_X12_factHere) rfl rfl rfl cd_X12_factHere ⟨Nat.le_trans (Nat.le_of_ble_eq_true rfl) (Nat.le_add_right _ _), Nat.le_trans (Nat.le_of_ble_eq_true rfl) (Nat.le_add_right _ _)⟩) (pw_preV hw Ta0 (by decide) rfl) rfl rfl hl.1 rfl (lv_room (Nat.le_of_ble_eq_true rfl)) dX12_readUnit_118 ⟨Nat.zero_le _, Nat.zero_le _⟩) hw (fun H locs hw hx43 => ?_)
            have Ta0 : TY S_40 a0 12 := ty_ext hx43 Ta0
            have hE : Ext S0 S_40 := Ext.tr hE hx43
            refine lv_istore_n (lv' := [(1, .int r42), (0, .ref a0)]) hx hb dX12_readUnit_121 rfl hl (by decide) rfl (fun ls hl => ?_)
            refine lv_iload_n hx hb dX12_readUnit_122 rfl (lv_at hl 0 rfl) ?_
            refine lv_iconst (v := (-1)) hx hb dX12_readUnit_123 (by decide) ?_
            refine lv_icmp_ne (tgt := 136) hx hb dX12_readUnit_124 (by decide) (fun h44 => ?_) (fun h44 => ?_)
            · rw [if_neg h44] at hm
              exact wb_X12_readUnit_136 cx C X S0 n d rec hrec S1 a0 r42 S_40 _ _ _ hw hE Ta0 (lv_sub hl [1, 0] rfl) hm
            · rw [if_pos h44] at hm
              refine lv_aload_n hx hb dX12_readUnit_127 rfl (lv_at hl 1 rfl) ?_
              refine lv_iconst (v := 1) hx hb dX12_readUnit_128 (by decide) ?_
              refine lv_aload_n hx hb dX12_readUnit_129 rfl (lv_at hl 1 rfl) ?_
              refine pg_i (k := 12) (j := 4) (f := 1204) hx hb hown hU iu12 hw Ta0 (by decide) rfl (hU _ tw1475) rfl dX12_readUnit_130 ?_
              obtain ⟨S_45, hq46, hm⟩ := bd_some hm
              refine pw_cv (va_runV (As := [.int 1, .int (pI S_40 1204 a0)]) (rest := []) ⟨hx, hb, hml, hown, hU⟩ (c_X12_wrong l C X n S_40 hw.wf _ a0 1 (pI S_40 1204 a0) (Ta0) S_45 hq46) (cwV 2 hU (pq_gV tw1741 tw1743 ts129 tw14 tc_X12_wrong) rfl rfl rfl cd_X12_wrong ⟨Nat.le_trans (Nat.le_of_ble_eq_true rfl) (Nat.le_add_right _ _), Nat.le_trans (Nat.le_of_ble_eq_true rfl) (Nat.le_add_right _ _)⟩) (pw_preV hw Ta0 (by decide) rfl) rfl rfl hl.1 rfl (lv_room (Nat.le_of_ble_eq_true rfl)) dX12_readUnit_133 ⟨Nat.zero_le _, Nat.zero_le _⟩) hw (fun H locs hw hx47 => ?_)
              have Ta0 : TY S_45 a0 12 := ty_ext hx47 Ta0
              have hE : Ext S0 S_45 := Ext.tr hE hx47
              exact wb_X12_readUnit_136 cx C X S0 n d rec hrec S1 a0 r42 S_45 _ _ _ hw hE Ta0 (lv_sub hl [1, 0] rfl) hm
          · rw [if_pos h39] at hm
            refine lv_aload_n hx hb dX12_readUnit_107 rfl (lv_at hl 0 rfl) ?_
            refine lv_iconst (v := 4) hx hb dX12_readUnit_108 (by decide) ?_
            refine lv_bipush (v := 7) hx hb dX12_readUnit_109 (by decide) ?_
            obtain ⟨S_48, hq49, hm⟩ := bd_some hm
            refine pw_cv (va_runV (As := [.int 4, .int 7]) (rest := []) ⟨hx, hb, hml, hown, hU⟩ (hrec.2.2.1 l C X S_35 hw.wf _ a0 4 7 (Ta0) S_48 hq49) (cwV 2 hU (pq_gV tw1800 tw1802 ts141 tw14 tc_X12_readTwo) rfl rfl rfl cd_X12_readTwo ⟨Nat.le_refl _, rmg_modP_l d (by decide)⟩) (pw_preV hw Ta0 (by decide) rfl) rfl rfl hl.1 rfl (lv_room (Nat.le_of_ble_eq_true rfl)) dX12_readUnit_111 ⟨Nat.zero_le _, Nat.zero_le _⟩) hw (fun H locs hw hx50 => ?_)
            have Ta0 : TY S_48 a0 12 := ty_ext hx50 Ta0
            have hE : Ext S0 S_48 := Ext.tr hE hx50
            refine lv_goto (tgt := 154) hx hb dX12_readUnit_114 (by decide) ?_
            cases hm
            exact pw_vret hx hb hr hlk hw hE dX12_readUnit_154
        · rw [if_pos h30] at hm
          refine lv_aload_n hx hb dX12_readUnit_84 rfl (lv_at hl 0 rfl) ?_
          refine lv_iconst (v := 5) hx hb dX12_readUnit_85 (by decide) ?_
          refine lv_bipush (v := 6) hx hb dX12_readUnit_86 (by decide) ?_
          obtain ⟨S_51, hq52, hm⟩ := bd_some hm
          refine pw_cv (va_runV (As := [.int 5, .int 6]) (rest := []) ⟨hx, hb, hml, hown, hU⟩ (hrec.2.2.1 l C X S_26 hw.wf _ a0 5 6 (Ta0) S_51 hq52) (cwV 2 hU (pq_gV tw1800 tw1802 ts141 tw14 tc_X12_readTwo) rfl rfl rfl cd_X12_readTwo ⟨Nat.le_refl _, rmg_modP_l d (by decide)⟩) (pw_preV hw Ta0 (by decide) rfl) rfl rfl hl.1 rfl (lv_room (Nat.le_of_ble_eq_true rfl)) dX12_readUnit_88 ⟨Nat.zero_le _, Nat.zero_le _⟩) hw (fun H locs hw hx53 => ?_)
          have Ta0 : TY S_51 a0 12 := ty_ext hx53 Ta0
          have hE : Ext S0 S_51 := Ext.tr hE hx53
          refine lv_goto (tgt := 154) hx hb dX12_readUnit_91 (by decide) ?_
          cases hm
          exact pw_vret hx hb hr hlk hw hE dX12_readUnit_154
      · rw [if_neg h21] at hm
        refine lv_aload_n hx hb dX12_readUnit_55 rfl (lv_at hl 0 rfl) ?_
        refine lv_iconst (v := 0) hx hb dX12_readUnit_56 (by decide) ?_
        refine lv_aload_n hx hb dX12_readUnit_57 rfl (lv_at hl 0 rfl) ?_
        refine lv_iconst (v := 0) hx hb dX12_readUnit_58 (by decide) ?_
        refine lv_sipush (v := 999) hx hb dX12_readUnit_59 (by decide) ?_
        obtain ⟨r56, S_54, hq55, hm⟩ := cb_some hm
        refine pw_ci (va_runV (As := [.int 0, .int 999]) (rest := [.int 0, .ref a0]) ⟨hx, hb, hml, hown, hU⟩ (c_X12_readNumber l C X n S_16 hw.wf _ a0 0 999 (Ta0) r56 S_54 hq55) (cwV 2 hU (pq_gV tw1757 tw1759 ts133 tw14 tc_X12_readNumber) rfl rfl rfl cd_X12_readNumber ⟨Nat.le_trans (Nat.le_of_ble_eq_true rfl) (Nat.le_add_right _ _), Nat.le_trans (Nat.le_of_ble_eq_true rfl) (Nat.le_add_right _ _)⟩) (pw_preV hw Ta0 (by decide) rfl) rfl rfl hl.1 rfl (lv_room (Nat.le_of_ble_eq_true rfl)) dX12_readUnit_62 ⟨Nat.zero_le _, Nat.zero_le _⟩) hw (fun H locs hw hx57 => ?_)
        have Ta0 : TY S_54 a0 12 := ty_ext hx57 Ta0
        have hE : Ext S0 S_54 := Ext.tr hE hx57
        obtain ⟨S_58, hq59, hm⟩ := bd_some hm
        refine pw_cv (va_runV (As := [.int 0, .int r56]) (rest := []) ⟨hx, hb, hml, hown, hU⟩ (c_X12_emit l C X n S_54 hw.wf _ a0 0 r56 (Ta0) S_58 hq59) (cwV 2 hU (pq_gV tw1795 tw1797 ts140 tw14 tc_X12_emit) rfl rfl rfl cd_X12_emit ⟨Nat.le_trans (Nat.le_of_ble_eq_true rfl) (Nat.le_add_right _ _), Nat.le_trans (Nat.le_of_ble_eq_true rfl) (Nat.le_add_right _ _)⟩) (pw_preV hw Ta0 (by decide) rfl) rfl rfl hl.1 rfl (lv_room (Nat.le_of_ble_eq_true rfl)) dX12_readUnit_65 ⟨Nat.zero_le _, Nat.zero_le _⟩) hw (fun H locs hw hx60 => ?_)
        have Ta0 : TY S_58 a0 12 := ty_ext hx60 Ta0
        have hE : Ext S0 S_58 := Ext.tr hE hx60
        refine lv_goto (tgt := 154) hx hb dX12_readUnit_68 (by decide) ?_
        cases hm
        exact pw_vret hx hb hr hlk hw hE dX12_readUnit_154
    · rw [if_pos h11] at hm
      refine lv_aload_n hx hb dX12_readUnit_17 rfl (lv_at hl 0 rfl) ?_
      refine lv_iconst (v := 1) hx hb dX12_readUnit_18 (by decide) ?_
      obtain ⟨S_61, hq62, hm⟩ := bd_some hm
      refine pw_cv (va_runV (As := [.int 1]) (rest := []) ⟨hx, hb, hml, hown, hU⟩ (c_X12_opensOne l C X n S_7 hw.wf _ a0 1 (Ta0) S_61 hq62) (cwV 1 hU (pq_gV tw1791 tw1793 ts139 tw14 tc_X12_opensOne) rfl rfl rfl cd_X12_opensOne ⟨Nat.le_trans (Nat.le_of_ble_eq_true rfl) (Nat.le_add_right _ _), Nat.le_trans (Nat.le_of_ble_eq_true rfl) (Nat.le_add_right _ _)⟩) (pw_preV hw Ta0 (by decide) rfl) rfl rfl hl.1 rfl (lv_room (Nat.le_of_ble_eq_true rfl)) dX12_readUnit_19 ⟨Nat.zero_le _, Nat.zero_le _⟩) hw (fun H locs hw hx63 => ?_)
      have Ta0 : TY S_61 a0 12 := ty_ext hx63 Ta0
      have hE : Ext S0 S_61 := Ext.tr hE hx63
      refine lv_aload_n hx hb dX12_readUnit_22 rfl (lv_at hl 0 rfl) ?_
      obtain ⟨S_64, hq65, hm⟩ := bd_some hm
      refine pw_cv (va_runV (As := []) (rest := []) ⟨hx, hb, hml, hown, hU⟩ (hrec.1 l C X S_61 hw.wf _ a0 (Ta0) S_64 hq65) (cwV 0 hU (pq_gV tw1779 tw1781 ts136 tw14 tc_X12_readSum) rfl rfl rfl cd_X12_readSum ⟨Nat.le_refl _, rmg_modP_l d (by decide)⟩) (pw_preV hw Ta0 (by decide) rfl) rfl rfl hl.1 rfl (lv_room (Nat.le_of_ble_eq_true rfl)) dX12_readUnit_23 ⟨Nat.zero_le _, Nat.zero_le _⟩) hw (fun H locs hw hx66 => ?_)
      have Ta0 : TY S_64 a0 12 := ty_ext hx66 Ta0
      have hE : Ext S0 S_64 := Ext.tr hE hx66
      refine lv_aload_n hx hb dX12_readUnit_26 rfl (lv_at hl 0 rfl) ?_
      refine lv_bipush (v := 41) hx hb dX12_readUnit_27 (by decide) ?_
      obtain ⟨S_67, hq68, hm⟩ := bd_some hm
      refine pw_cv (va_runV (As := [.int 41]) (rest := []) ⟨hx, hb, hml, hown, hU⟩ (c_X12_sign l C X n S_64 hw.wf _ a0 41 (Ta0) S_67 hq68) (cwV 1 hU (pq_gV tw1764 tw1766 ts134 tw14 tc_X12_sign) rfl rfl rfl cd_X12_sign ⟨Nat.le_trans (Nat.le_of_ble_eq_true rfl) (Nat.le_add_right _ _), Nat.le_trans (Nat.le_of_ble_eq_true rfl) (Nat.le_add_right _ _)⟩) (pw_preV hw Ta0 (by decide) rfl) rfl rfl hl.1 rfl (lv_room (Nat.le_of_ble_eq_true rfl)) dX12_readUnit_29 ⟨Nat.zero_le _, Nat.zero_le _⟩) hw (fun H locs hw hx69 => ?_)
      have Ta0 : TY S_67 a0 12 := ty_ext hx69 Ta0
      have hE : Ext S0 S_67 := Ext.tr hE hx69
      refine lv_aload_n hx hb dX12_readUnit_32 rfl (lv_at hl 0 rfl) ?_
      refine lv_dup hx hb dX12_readUnit_33 rfl ?_
      refine pg_i (k := 12) (j := 7) (f := 1207) hx hb hown hU iu12 hw Ta0 (by decide) rfl (hU _ tw1478) rfl dX12_readUnit_34 ?_
      refine lv_iconst (v := 1) hx hb dX12_readUnit_37 (by decide) ?_
      refine lv_isub hx hb dX12_readUnit_38 ?_
      refine pp_i (k := 12) (j := 7) (f := 1207) hx hb hown hU iu12 tyX12_ok nmX12 hw Ta0 (by decide) rfl (hU _ tw1478) rfl rfl rfl dX12_readUnit_39 (fun H locs hw => ?_)
      refine lv_goto (tgt := 154) hx hb dX12_readUnit_42 (by decide) ?_
      cases hm
      exact pw_vret hx hb hr hlk hw hE dX12_readUnit_154
  · rw [if_pos h6] at hm
    cases hm
    exact pw_vret hx hb hr hlk hw hE dX12_readUnit_7
def m_modP_d (n : Nat) : Nat → (Nat → pq_S → Option pq_S) × (Nat → pq_S → Option pq_S) × (Nat → Int32 → Int32 → pq_S → Option pq_S) × (Nat → pq_S → Option pq_S)
  | 0 => ((fun _ _ => none), (fun _ _ => none), (fun _ _ _ _ => none), (fun _ _ => none))
  | d + 1 => ((g_X12_readSum n (m_modP_d n d)), (g_X12_readProduct n (m_modP_d n d)), (g_X12_readTwo n (m_modP_d n d)), (g_X12_readUnit n (m_modP_d n d)))
theorem hg_modP (n : Nat) : ∀ d : Nat, HG_modP n d (m_modP_d n d) := by
  intro d
  induction d with
  | zero =>
    exact ⟨(fun _ _ _ _ _ _ _ _ _ hm => by cases hm), (fun _ _ _ _ _ _ _ _ _ hm => by cases hm), (fun _ _ _ _ _ _ _ _ _ _ _ hm => by cases hm), (fun _ _ _ _ _ _ _ _ _ hm => by cases hm)⟩
  | succ d ih =>
    exact ⟨(fun q0 q1 q2 q3 q4 q5 q6 q7 q8 hm => cg_X12_readSum n d _ ih q0 q1 q2 q3 q4 q5 q6 q7 q8 hm), (fun q0 q1 q2 q3 q4 q5 q6 q7 q8 hm => cg_X12_readProduct n d _ ih q0 q1 q2 q3 q4 q5 q6 q7 q8 hm), (fun q0 q1 q2 q3 q4 q5 q6 q7 q8 q9 q10 hm => cg_X12_readTwo n d _ ih q0 q1 q2 q3 q4 q5 q6 q7 q8 q9 q10 hm), (fun q0 q1 q2 q3 q4 q5 q6 q7 q8 hm => cg_X12_readUnit n d _ ih q0 q1 q2 q3 q4 q5 q6 q7 q8 hm)⟩
def m_X12_readSum (n : Nat) (a0 : Nat) (S : pq_S) : Option pq_S := (m_modP_d n 64).1 a0 S
abbrev rm_X12_readSum : Room := { frames := 70, cells := 0, slots := 0, locals := 1536 }
theorem c_X12_readSum (l : Launch) (C : pq_C) (X : va_W) (n : Nat) (S0 : pq_S) (hF : WF S0) (sz : Nat) (a0 : Nat) (Ta0 : TY S0 a0 12) (S1 : pq_S) (hm : m_X12_readSum n a0 S0 = some S1) : MV l yX12_readSum (.code yX12_readSum cX12_readSum 2 none :: pq_U) rm_X12_readSum C X S0 sz [.ref a0] S1 0 0 := (hg_modP n 64).1 l C X S0 hF sz a0 Ta0 S1 hm
def m_X12_readProduct (n : Nat) (a0 : Nat) (S : pq_S) : Option pq_S := (m_modP_d n 64).2.1 a0 S
abbrev rm_X12_readProduct : Room := { frames := 70, cells := 0, slots := 0, locals := 1536 }
theorem c_X12_readProduct (l : Launch) (C : pq_C) (X : va_W) (n : Nat) (S0 : pq_S) (hF : WF S0) (sz : Nat) (a0 : Nat) (Ta0 : TY S0 a0 12) (S1 : pq_S) (hm : m_X12_readProduct n a0 S0 = some S1) : MV l yX12_readProduct (.code yX12_readProduct cX12_readProduct 2 none :: pq_U) rm_X12_readProduct C X S0 sz [.ref a0] S1 0 0 := (hg_modP n 64).2.1 l C X S0 hF sz a0 Ta0 S1 hm
def m_X12_readTwo (n : Nat) (a0 : Nat) (x1 : Int32) (x2 : Int32) (S : pq_S) : Option pq_S := (m_modP_d n 64).2.2.1 a0 x1 x2 S
abbrev rm_X12_readTwo : Room := { frames := 70, cells := 0, slots := 0, locals := 1536 }
theorem c_X12_readTwo (l : Launch) (C : pq_C) (X : va_W) (n : Nat) (S0 : pq_S) (hF : WF S0) (sz : Nat) (a0 : Nat) (x1 : Int32) (x2 : Int32) (Ta0 : TY S0 a0 12) (S1 : pq_S) (hm : m_X12_readTwo n a0 x1 x2 S0 = some S1) : MV l yX12_readTwo (.code yX12_readTwo cX12_readTwo 3 none :: pq_U) rm_X12_readTwo C X S0 sz [.ref a0, .int x1, .int x2] S1 0 0 := (hg_modP n 64).2.2.1 l C X S0 hF sz a0 x1 x2 Ta0 S1 hm
def m_X12_readUnit (n : Nat) (a0 : Nat) (S : pq_S) : Option pq_S := (m_modP_d n 64).2.2.2 a0 S
abbrev rm_X12_readUnit : Room := { frames := 70, cells := 0, slots := 0, locals := 1536 }
theorem c_X12_readUnit (l : Launch) (C : pq_C) (X : va_W) (n : Nat) (S0 : pq_S) (hF : WF S0) (sz : Nat) (a0 : Nat) (Ta0 : TY S0 a0 12) (S1 : pq_S) (hm : m_X12_readUnit n a0 S0 = some S1) : MV l yX12_readUnit (.code yX12_readUnit cX12_readUnit 2 none :: pq_U) rm_X12_readUnit C X S0 sz [.ref a0] S1 0 0 := (hg_modP n 64).2.2.2 l C X S0 hF sz a0 Ta0 S1 hm
abbrev rmg_modS (d : Nat) : Room := { frames := 5 + d, cells := 0, slots := 0, locals := 107 + d * 23 }
theorem rmg_modS_l (d : Nat) {q : Nat} (h : q ≤ 4) : 8 + (q + 11) + (rmg_modS d).locals ≤ (rmg_modS (d + 1)).locals := by show 8 + (q + 11) + (107 + d * 23) ≤ 107 + (d + 1) * 23; omega
theorem tc_X12_readStep : Cond.code yX12_readStep cX12_readStep 4 none ∈ pq_U := tw1823
theorem cd_X12_readStep : yX12_readStep.cls = RX12 ∧ yX12_readStep.cls ≠ "java/lang/invoke/MethodHandle" ∧ yX12_readStep.cls ≠ "java/lang/invoke/VarHandle" ∧ (parseMethodDescriptor yX12_readStep.desc).map (fun d => d.parameters.length) = some 0 := by decide +kernel
def HG_modS (n d : Nat) (rec : (Nat → pq_S → Option pq_S)) : Prop := (∀ (l : Launch) (C : pq_C) (X : va_W) (S0 : pq_S) (_ : WF S0) (sz : Nat) (a0 : Nat) (_Ta0 : TY S0 a0 12) (S1 : pq_S), rec a0 S0 = some S1 → MV l yX12_readStep (.code yX12_readStep cX12_readStep 4 none :: pq_U) (rmg_modS d) C X S0 sz [.ref a0] S1 0 0)
def b_X12_readStep_289 (n : Nat) (rec : (Nat → pq_S → Option pq_S)) (a0 : Nat) (S : pq_S) : Option pq_S := Option.bind (m_X12_sign n a0 59 S) fun S_127 => some S_127
set_option maxHeartbeats 4000000 in
set_option maxRecDepth 100000 in
theorem wb_X12_readStep_289 {p : Program} {l : Launch} {e : Env} {s : State} {m : MethodId} {args : Array Value} {below : List Frame} {meth : Method} {c : Code} (cx : Cx p s m args meth c cX12_readStep 4 RX12 none) (C : pq_C) (X : va_W) (S0 : pq_S) (n : Nat) (d : Nat) (rec : (Nat → pq_S → Option pq_S)) (hrec : HG_modS n d rec) (S1 : pq_S) : ∀ (a0 : Nat) (S : pq_S) (H : Heap) (locs : List Loc) (ls : Array Slot), PW C X S (pq_F C X S0 s.heap.size) H locs s → Ext S0 S → TY S a0 12 → lv_has ls 4 [(0, .ref a0)] → b_X12_readStep_289 n rec a0 S = some S1 → W p l e (rmg_modS (d + 1)) s m args below meth c H locs 0 0 (MQ below (QcV C X S0 s.heap.size S1) args s 0 0 (pq_F C X S0 s.heap.size)) (F0 m 289 ls []) := by
  obtain ⟨hx, hb, hml, hown, hU, hr, hlk⟩ := id cx
  intro a0 S H locs ls hw hE Ta0 hl hm
  rw [b_X12_readStep_289] at hm
  refine lv_aload_n hx hb dX12_readStep_289 rfl (lv_at hl 0 rfl) ?_
  refine lv_bipush (v := 59) hx hb dX12_readStep_290 (by decide) ?_
  obtain ⟨S_127, hq128, hm⟩ := bd_some hm
  refine pw_cv (va_runV (As := [.int 59]) (rest := []) ⟨hx, hb, hml, hown, hU⟩ (c_X12_sign l C X n S hw.wf _ a0 59 (Ta0) S_127 hq128) (cwV 1 hU (pq_gV tw1764 tw1766 ts134 tw14 tc_X12_sign) rfl rfl rfl cd_X12_sign ⟨Nat.le_trans (Nat.le_of_ble_eq_true rfl) (Nat.le_add_right _ _), Nat.le_trans (Nat.le_of_ble_eq_true rfl) (Nat.le_add_right _ _)⟩) (pw_preV hw Ta0 (by decide) rfl) rfl rfl hl.1 rfl (lv_room (Nat.le_of_ble_eq_true rfl)) dX12_readStep_292 ⟨Nat.zero_le _, Nat.zero_le _⟩) hw (fun H locs hw hx129 => ?_)
  have Ta0 : TY S_127 a0 12 := ty_ext hx129 Ta0
  have hE : Ext S0 S_127 := Ext.tr hE hx129
  cases hm
  exact pw_vret hx hb hr hlk hw hE dX12_readStep_295
def b_X12_readStep_277 (n : Nat) (rec : (Nat → pq_S → Option pq_S)) (a0 : Nat) (S : pq_S) : Option pq_S := b_X12_readStep_289 n rec a0 S
set_option maxHeartbeats 4000000 in
set_option maxRecDepth 100000 in
theorem wb_X12_readStep_277 {p : Program} {l : Launch} {e : Env} {s : State} {m : MethodId} {args : Array Value} {below : List Frame} {meth : Method} {c : Code} (cx : Cx p s m args meth c cX12_readStep 4 RX12 none) (C : pq_C) (X : va_W) (S0 : pq_S) (n : Nat) (d : Nat) (rec : (Nat → pq_S → Option pq_S)) (hrec : HG_modS n d rec) (S1 : pq_S) : ∀ (a0 : Nat) (S : pq_S) (H : Heap) (locs : List Loc) (ls : Array Slot), PW C X S (pq_F C X S0 s.heap.size) H locs s → Ext S0 S → TY S a0 12 → lv_has ls 4 [(0, .ref a0)] → b_X12_readStep_277 n rec a0 S = some S1 → W p l e (rmg_modS (d + 1)) s m args below meth c H locs 0 0 (MQ below (QcV C X S0 s.heap.size S1) args s 0 0 (pq_F C X S0 s.heap.size)) (F0 m 277 ls []) := by
  obtain ⟨hx, hb, hml, hown, hU, hr, hlk⟩ := id cx
  intro a0 S H locs ls hw hE Ta0 hl hm
  rw [b_X12_readStep_277] at hm
  refine lv_goto (tgt := 289) hx hb dX12_readStep_277 (by decide) ?_
  exact wb_X12_readStep_289 cx C X S0 n d rec hrec S1 a0 S _ _ _ hw hE Ta0 (lv_sub hl [0] rfl) hm
def b_X12_readStep_242 (n : Nat) (rec : (Nat → pq_S → Option pq_S)) (a0 : Nat) (x3 : Int32) (S : pq_S) : Option pq_S := Option.bind (m_X12_sign n a0 93 S) fun S_115 => cb (m_X12_fine n a0 (sI S_115 1207 a0 ((pI S_115 1207 a0) - (1 : Int32)))) fun r120 S_118 => if r120 = 0 then b_X12_readStep_277 n rec a0 S_118 else Option.bind (pR S_118 1238 a0) fun q124 => ck (ix (x3 + (2 : Int32)) (pN S_118 q124)) (dix _ _) (lt_ (sA S_118 q124 (Int32.toNatClampNeg (x3 + (2 : Int32))) (pI S_118 1240 a0)) fun S_126 => b_X12_readStep_277 n rec a0 S_126)
set_option maxHeartbeats 4000000 in
set_option maxRecDepth 100000 in
theorem wb_X12_readStep_242 {p : Program} {l : Launch} {e : Env} {s : State} {m : MethodId} {args : Array Value} {below : List Frame} {meth : Method} {c : Code} (cx : Cx p s m args meth c cX12_readStep 4 RX12 none) (C : pq_C) (X : va_W) (S0 : pq_S) (n : Nat) (d : Nat) (rec : (Nat → pq_S → Option pq_S)) (hrec : HG_modS n d rec) (S1 : pq_S) : ∀ (a0 : Nat) (x3 : Int32) (S : pq_S) (H : Heap) (locs : List Loc) (ls : Array Slot), PW C X S (pq_F C X S0 s.heap.size) H locs s → Ext S0 S → TY S a0 12 → lv_has ls 4 [(0, .ref a0), (3, .int x3)] → b_X12_readStep_242 n rec a0 x3 S = some S1 → W p l e (rmg_modS (d + 1)) s m args below meth c H locs 0 0 (MQ below (QcV C X S0 s.heap.size S1) args s 0 0 (pq_F C X S0 s.heap.size)) (F0 m 242 ls []) := by
  obtain ⟨hx, hb, hml, hown, hU, hr, hlk⟩ := id cx
  intro a0 x3 S H locs ls hw hE Ta0 hl hm
  rw [b_X12_readStep_242] at hm
  refine lv_aload_n hx hb dX12_readStep_242 rfl (lv_at hl 0 rfl) ?_
  refine lv_bipush (v := 93) hx hb dX12_readStep_243 (by decide) ?_
  obtain ⟨S_115, hq116, hm⟩ := bd_some hm
  refine pw_cv (va_runV (As := [.int 93]) (rest := []) ⟨hx, hb, hml, hown, hU⟩ (c_X12_sign l C X n S hw.wf _ a0 93 (Ta0) S_115 hq116) (cwV 1 hU (pq_gV tw1764 tw1766 ts134 tw14 tc_X12_sign) rfl rfl rfl cd_X12_sign ⟨Nat.le_trans (Nat.le_of_ble_eq_true rfl) (Nat.le_add_right _ _), Nat.le_trans (Nat.le_of_ble_eq_true rfl) (Nat.le_add_right _ _)⟩) (pw_preV hw Ta0 (by decide) rfl) rfl rfl hl.1 rfl (lv_room (Nat.le_of_ble_eq_true rfl)) dX12_readStep_245 ⟨Nat.zero_le _, Nat.zero_le _⟩) hw (fun H locs hw hx117 => ?_)
  have Ta0 : TY S_115 a0 12 := ty_ext hx117 Ta0
  have hE : Ext S0 S_115 := Ext.tr hE hx117
  refine lv_aload_n hx hb dX12_readStep_248 rfl (lv_at hl 0 rfl) ?_
  refine lv_dup hx hb dX12_readStep_249 rfl ?_
  refine pg_i (k := 12) (j := 7) (f := 1207) hx hb hown hU iu12 hw Ta0 (by decide) rfl (hU _ tw1478) rfl dX12_readStep_250 ?_
  refine lv_iconst (v := 1) hx hb dX12_readStep_253 (by decide) ?_
  refine lv_isub hx hb dX12_readStep_254 ?_
  refine pp_i (k := 12) (j := 7) (f := 1207) hx hb hown hU iu12 tyX12_ok nmX12 hw Ta0 (by decide) rfl (hU _ tw1478) rfl rfl rfl dX12_readStep_255 (fun H locs hw => ?_)
  refine lv_aload_n hx hb dX12_readStep_258 rfl (lv_at hl 0 rfl) ?_
  obtain ⟨r120, S_118, hq119, hm⟩ := cb_some hm
  refine pw_cz (va_runV (As := []) (rest := []) ⟨hx, hb, hml, hown, hU⟩ (c_X12_fine l C X n (sI S_115 1207 a0 ((pI S_115 1207 a0) - (1 : Int32))) hw.wf _ a0 (Ta0) r120 S_118 hq119) (cwV 0 hU (pq_gV tw1711 tw1713 ts125 tw14 tc_X12_fine) rfl rfl rfl cd_X12_fine ⟨Nat.le_trans (Nat.le_of_ble_eq_true rfl) (Nat.le_add_right _ _), Nat.le_trans (Nat.le_of_ble_eq_true rfl) (Nat.le_add_right _ _)⟩) (pw_preV hw Ta0 (by decide) rfl) rfl rfl hl.1 rfl (lv_room (Nat.le_of_ble_eq_true rfl)) dX12_readStep_259 ⟨Nat.zero_le _, Nat.zero_le _⟩) hw (fun H locs hw hx121 hz122 => ?_)
  have Ta0 : TY S_118 a0 12 := ty_ext hx121 Ta0
  have hE : Ext S0 S_118 := Ext.tr hE hx121
  refine lv_if_eq (tgt := 277) hx hb dX12_readStep_262 (by decide) (fun h123 => ?_) (fun h123 => ?_)
  · rw [if_pos h123] at hm
    exact wb_X12_readStep_277 cx C X S0 n d rec hrec S1 a0 S_118 _ _ _ hw hE Ta0 (lv_sub hl [0] rfl) hm
  · rw [if_neg h123] at hm
    refine lv_aload_n hx hb dX12_readStep_265 rfl (lv_at hl 0 rfl) ?_
    obtain ⟨q124, hq124, hm⟩ := bd_some hm
    have Tq124 : TY S_118 q124 14 := hw.wf.ref (k := 12) (j := 38) Ta0 (by decide) (by decide) hq124
    refine pg_rb (k := 12) (j := 38) (f := 1238) hx hb hown hU iu12 hw Ta0 (by decide) rfl (hU _ tw1509) rfl hq124 dX12_readStep_266 ?_
    refine lv_iload_n hx hb dX12_readStep_269 rfl (lv_at hl 1 rfl) ?_
    refine lv_iconst (v := 2) hx hb dX12_readStep_270 (by decide) ?_
    refine lv_iadd hx hb dX12_readStep_271 ?_
    refine lv_aload_n hx hb dX12_readStep_272 rfl (lv_at hl 0 rfl) ?_
    refine pg_i (k := 12) (j := 40) (f := 1240) hx hb hown hU iu12 hw Ta0 (by decide) rfl (hU _ tw1511) rfl dX12_readStep_273 ?_
    obtain ⟨hi125, hm⟩ := ck_some hm
    refine pw_iast hx hb hw Tq124 hi125 dX12_readStep_276 (fun H locs hw => ?_)
    obtain ⟨S_126, eS_126, hm⟩ := lt_some hm
    rw [← eS_126] at hw
    have Ta0 : TY S_126 a0 12 := by rw [eS_126]; exact Ta0
    have hE : Ext S0 S_126 := by rw [eS_126]; exact hE
    exact wb_X12_readStep_277 cx C X S0 n d rec hrec S1 a0 S_126 _ _ _ hw hE Ta0 (lv_sub hl [0] rfl) hm
def b_X12_readStep_219 (n : Nat) (rec : (Nat → pq_S → Option pq_S)) : Nat → Nat → Int32 → pq_S → Option pq_S
  | 0, _, _, _ => none
  | f + 1, a0, x3, S => cb (m_X12_fine n a0 S) fun r103 S_101 => if r103 = 0 then b_X12_readStep_242 n rec a0 x3 S_101 else cb (m_X12_here n a0 S_101) fun r109 S_107 => if r109 = 93 then b_X12_readStep_242 n rec a0 x3 S_107 else Option.bind (rec a0 S_107) fun S_112 => b_X12_readStep_219 n rec f a0 x3 S_112
set_option maxHeartbeats 4000000 in
set_option maxRecDepth 100000 in
theorem wb_X12_readStep_219 {p : Program} {l : Launch} {e : Env} {s : State} {m : MethodId} {args : Array Value} {below : List Frame} {meth : Method} {c : Code} (cx : Cx p s m args meth c cX12_readStep 4 RX12 none) (C : pq_C) (X : va_W) (S0 : pq_S) (n : Nat) (d : Nat) (rec : (Nat → pq_S → Option pq_S)) (hrec : HG_modS n d rec) (S1 : pq_S) : ∀ (f : Nat) (a0 : Nat) (x3 : Int32) (S : pq_S) (H : Heap) (locs : List Loc) (ls : Array Slot), PW C X S (pq_F C X S0 s.heap.size) H locs s → Ext S0 S → TY S a0 12 → lv_has ls 4 [(0, .ref a0), (3, .int x3)] → b_X12_readStep_219 n rec f a0 x3 S = some S1 → W p l e (rmg_modS (d + 1)) s m args below meth c H locs 0 0 (MQ below (QcV C X S0 s.heap.size S1) args s 0 0 (pq_F C X S0 s.heap.size)) (F0 m 219 ls []) := by
  obtain ⟨hx, hb, hml, hown, hU, hr, hlk⟩ := id cx
  intro f
  induction f with
  | zero =>
    intro a0 x3 S H locs ls hw hE Ta0 hl hm
    cases hm
  | succ f ih =>
    intro a0 x3 S H locs ls hw hE Ta0 hl hm
    rw [b_X12_readStep_219] at hm
    refine lv_aload_n hx hb dX12_readStep_219 rfl (lv_at hl 0 rfl) ?_
    obtain ⟨r103, S_101, hq102, hm⟩ := cb_some hm
    refine pw_cz (va_runV (As := []) (rest := []) ⟨hx, hb, hml, hown, hU⟩ (c_X12_fine l C X n S hw.wf _ a0 (Ta0) r103 S_101 hq102) (cwV 0 hU (pq_gV tw1711 tw1713 ts125 tw14 tc_X12_fine) rfl rfl rfl cd_X12_fine ⟨Nat.le_trans (Nat.le_of_ble_eq_true rfl) (Nat.le_add_right _ _), Nat.le_trans (Nat.le_of_ble_eq_true rfl) (Nat.le_add_right _ _)⟩) (pw_preV hw Ta0 (by decide) rfl) rfl rfl hl.1 rfl (lv_room (Nat.le_of_ble_eq_true rfl)) dX12_readStep_220 ⟨Nat.zero_le _, Nat.zero_le _⟩) hw (fun H locs hw hx104 hz105 => ?_)
    have Ta0 : TY S_101 a0 12 := ty_ext hx104 Ta0
    have hE : Ext S0 S_101 := Ext.tr hE hx104
    refine lv_if_eq (tgt := 242) hx hb dX12_readStep_223 (by decide) (fun h106 => ?_) (fun h106 => ?_)
    · rw [if_pos h106] at hm
      exact wb_X12_readStep_242 cx C X S0 n d rec hrec S1 a0 x3 S_101 _ _ _ hw hE Ta0 (lv_sub hl [0, 1] rfl) hm
    · rw [if_neg h106] at hm
      refine lv_aload_n hx hb dX12_readStep_226 rfl (lv_at hl 0 rfl) ?_
      obtain ⟨r109, S_107, hq108, hm⟩ := cb_some hm
      refine pw_ci (va_runV (As := []) (rest := []) ⟨hx, hb, hml, hown, hU⟩ (c_X12_here l C X n S_101 hw.wf _ a0 (Ta0) r109 S_107 hq108) (cwV 0 hU (pq_gV tw1719 tw1721 ts127 tw14 tc_X12_here) rfl rfl rfl cd_X12_here ⟨Nat.le_trans (Nat.le_of_ble_eq_true rfl) (Nat.le_add_right _ _), Nat.le_trans (Nat.le_of_ble_eq_true rfl) (Nat.le_add_right _ _)⟩) (pw_preV hw Ta0 (by decide) rfl) rfl rfl hl.1 rfl (lv_room (Nat.le_of_ble_eq_true rfl)) dX12_readStep_227 ⟨Nat.zero_le _, Nat.zero_le _⟩) hw (fun H locs hw hx110 => ?_)
      have Ta0 : TY S_107 a0 12 := ty_ext hx110 Ta0
      have hE : Ext S0 S_107 := Ext.tr hE hx110
      refine lv_bipush (v := 93) hx hb dX12_readStep_230 (by decide) ?_
      refine lv_icmp_eq (tgt := 242) hx hb dX12_readStep_232 (by decide) (fun h111 => ?_) (fun h111 => ?_)
      · rw [if_pos h111] at hm
        exact wb_X12_readStep_242 cx C X S0 n d rec hrec S1 a0 x3 S_107 _ _ _ hw hE Ta0 (lv_sub hl [0, 1] rfl) hm
      · rw [if_neg h111] at hm
        refine lv_aload_n hx hb dX12_readStep_235 rfl (lv_at hl 0 rfl) ?_
        obtain ⟨S_112, hq113, hm⟩ := bd_some hm
        refine pw_cv (va_runV (As := []) (rest := []) ⟨hx, hb, hml, hown, hU⟩ (hrec l C X S_107 hw.wf _ a0 (Ta0) S_112 hq113) (cwV 0 hU (pq_gV tw1820 tw1822 ts143 tw14 tc_X12_readStep) rfl rfl rfl cd_X12_readStep ⟨Nat.le_refl _, rmg_modS_l d (by decide)⟩) (pw_preV hw Ta0 (by decide) rfl) rfl rfl hl.1 rfl (lv_room (Nat.le_of_ble_eq_true rfl)) dX12_readStep_236 ⟨Nat.zero_le _, Nat.zero_le _⟩) hw (fun H locs hw hx114 => ?_)
        have Ta0 : TY S_112 a0 12 := ty_ext hx114 Ta0
        have hE : Ext S0 S_112 := Ext.tr hE hx114
        refine lv_goto (tgt := 219) hx hb dX12_readStep_239 (by decide) ?_
        exact ih a0 x3 S_112 _ _ _ hw hE Ta0 (lv_sub hl [0, 1] rfl) hm
def g_X12_readStep (n : Nat) (rec : (Nat → pq_S → Option pq_S)) (a0 : Nat) (S0 : pq_S) : Option pq_S := cb (m_X12_word n a0 S0) fun r3 S_1 => cb (m_X12_of n 15 S_1) fun r7 S_5 => if r3 = r7 then Option.bind (m_X12_pass n a0 S_5) fun S_95 => Option.bind (m_X12_readCarry n a0 S_95) fun S_98 => b_X12_readStep_289 n rec a0 S_98 else cb (m_X12_of n 16 S_5) fun r12 S_10 => if r3 = r12 then Option.bind (m_X12_pass n a0 S_10) fun S_85 => cb (m_X12_readNumber n a0 0 ((pI S_85 1225 a0) - (1 : Int32)) S_85) fun r90 S_88 => Option.bind (m_X12_tellsStep n a0 1 r90 0 0 0 S_88) fun S_92 => b_X12_readStep_289 n rec a0 S_92 else cb (m_X12_of n 17 S_10) fun r17 S_15 => if r3 = r17 then Option.bind (m_X12_pass n a0 S_15) fun S_71 => cb (m_X12_readNumber n a0 0 ((pI S_71 1224 a0) - (1 : Int32)) S_71) fun r76 S_74 => cb (m_X12_readNumber n a0 1 99 S_74) fun r80 S_78 => Option.bind (m_X12_tellsStep n a0 2 r76 r80 0 0 S_78) fun S_82 => b_X12_readStep_289 n rec a0 S_82 else cb (m_X12_of n 18 S_15) fun r22 S_20 => if r3 = r22 then Option.bind (m_X12_pass n a0 S_20) fun S_57 => cb (m_X12_readNumber n a0 0 ((pI S_57 1226 a0) - (1 : Int32)) S_57) fun r62 S_60 => cb (m_X12_readNumber n a0 1 9 S_60) fun r66 S_64 => Option.bind (m_X12_tellsStep n a0 3 r62 r66 0 0 S_64) fun S_68 => b_X12_readStep_289 n rec a0 S_68 else cb (m_X12_of n 13 S_20) fun r27 S_25 => if r3 = r27 then Option.bind (m_X12_pass n a0 S_25) fun S_51 => Option.bind (m_X12_tellsStep n a0 4 0 0 0 0 S_51) fun S_54 => b_X12_readStep_289 n rec a0 S_54 else cb (m_X12_of n 19 S_25) fun r32 S_30 => if r3 = r32 then Option.bind (m_X12_opensOne n a0 5 S_30) fun S_38 => cb (m_X12_readNumber n a0 0 20 S_38) fun r43 S_41 => Option.bind (m_X12_sign n a0 91 S_41) fun S_45 => Option.bind (m_X12_tellsStep n a0 5 r43 0 0 0 S_45) fun S_48 => b_X12_readStep_219 n rec n a0 (pI S_45 1240 a0) S_48 else Option.bind (m_X12_wrong n a0 1 (pI S_30 1204 a0) S_30) fun S_35 => b_X12_readStep_289 n rec a0 S_35
set_option maxHeartbeats 4000000 in
set_option maxRecDepth 100000 in
theorem cg_X12_readStep (n d : Nat) (rec : (Nat → pq_S → Option pq_S)) (hrec : HG_modS n d rec) (l : Launch) (C : pq_C) (X : va_W) (S0 : pq_S) (hF : WF S0) (sz : Nat) (a0 : Nat) (Ta0 : TY S0 a0 12) (S1 : pq_S) (hm : g_X12_readStep n rec a0 S0 = some S1) : MV l yX12_readStep (.code yX12_readStep cX12_readStep 4 none :: pq_U) (rmg_modS (d + 1)) C X S0 sz [.ref a0] S1 0 0 := by
  refine Met.ofW (cc := cX12_readStep) (maxL := 4) (ret := none) (by decide) rfl ?_
  intro p e s m args below meth c s₁ B hml hv
  obtain ⟨rfl, hv⟩ := hv
  have hsz := hv.1
  subst hsz
  have hw := pw_entry hF hv
  have hts := atoms_spec (ws := .code yX12_readStep cX12_readStep 4 none :: pq_U) B.pre
  have hU : ∀ w ∈ pq_U, w.before _ s = true := fun w h => hts w (List.mem_cons_of_mem _ h)
  have hx := B.exec
  have hb := B.bytes
  have hr := B.returns
  have hown : s.vm.findClass RX12 = some m.cls := findClass_of_methodNamed B.named
  have hlk := B.notSynchronized
  have hl := lv_entry ([.ref a0]) (n := 4) (Nat.le_of_ble_eq_true rfl)
  rw [lg_entry_eq]
  generalize (lg_sl ([.ref a0]) ++ List.replicate (4 - (lg_sl ([.ref a0])).length) Slot.unset).toArray = ls at hl ⊢
  have hl : lv_has ls 4 [(0, .ref a0)] := hl
  have hE : Ext S0 S0 := Ext.rf _
  have cx : Cx p s m _ meth c cX12_readStep 4 RX12 none := ⟨hx, hb, hml, hown, hU, hr, hlk⟩
  rw [g_X12_readStep] at hm
  refine lv_aload_n hx hb dX12_readStep_0 rfl (lv_at hl 0 rfl) ?_
  obtain ⟨r3, S_1, hq2, hm⟩ := cb_some hm
  refine pw_ci (va_runV (As := []) (rest := []) ⟨hx, hb, hml, hown, hU⟩ (c_X12_word l C X n S0 hw.wf _ a0 (Ta0) r3 S_1 hq2) (cwV 0 hU (pq_gV tw1723 tw1725 ts128 tw14 tc_X12_word) rfl rfl rfl cd_X12_word ⟨Nat.le_trans (Nat.le_of_ble_eq_true rfl) (Nat.le_add_right _ _), Nat.le_trans (Nat.le_of_ble_eq_true rfl) (Nat.le_add_right _ _)⟩) (pw_preV hw Ta0 (by decide) rfl) rfl rfl hl.1 rfl (lv_room (Nat.le_of_ble_eq_true rfl)) dX12_readStep_1 ⟨Nat.zero_le _, Nat.zero_le _⟩) hw (fun H locs hw hx4 => ?_)
  have Ta0 : TY S_1 a0 12 := ty_ext hx4 Ta0
  have hE : Ext S0 S_1 := Ext.tr hE hx4
  refine lv_istore_n (lv' := [(1, .int r3), (0, .ref a0)]) hx hb dX12_readStep_4 rfl hl (by decide) rfl (fun ls hl => ?_)
  refine lv_iload_n hx hb dX12_readStep_5 rfl (lv_at hl 0 rfl) ?_
  refine va_ldcwS hx hb hown (hw.str 36 rfl) dX12_readStep_6 ?_
  obtain ⟨r7, S_5, hq6, hm⟩ := cb_some hm
  refine pw_ci (va_runS (As := [.ref (C.2.2.2.2.2.2.1 15)]) (rest := [.int r3]) ⟨hx, hb, hml, hown, hU⟩ (c_X12_of l C X n S_1 hw.wf _ 15 ((by decide)) r7 S_5 hq6) ⟨callB_of 1 hU (pq_g1 tc_X12_of) rfl rfl rfl (hU _ tw14) (hU _ tw1731) cd_X12_of.2 ⟨Nat.le_trans (Nat.le_of_ble_eq_true rfl) (Nat.le_add_right _ _), Nat.le_trans (Nat.le_of_ble_eq_true rfl) (Nat.le_add_right _ _)⟩, hU _ tw1732⟩ (pw_preS hw) rfl rfl hl.1 rfl (lv_room (Nat.le_of_ble_eq_true rfl)) dX12_readStep_9 ⟨Nat.zero_le _, Nat.zero_le _⟩) hw (fun H locs hw hx8 => ?_)
  have Ta0 : TY S_5 a0 12 := ty_ext hx8 Ta0
  have hE : Ext S0 S_5 := Ext.tr hE hx8
  refine lv_icmp_ne (tgt := 26) hx hb dX12_readStep_12 (by decide) (fun h9 => ?_) (fun h9 => ?_)
  · rw [if_neg h9] at hm
    refine lv_iload_n hx hb dX12_readStep_26 rfl (lv_at hl 0 rfl) ?_
    refine va_ldcwS hx hb hown (hw.str 37 rfl) dX12_readStep_27 ?_
    obtain ⟨r12, S_10, hq11, hm⟩ := cb_some hm
    refine pw_ci (va_runS (As := [.ref (C.2.2.2.2.2.2.1 16)]) (rest := [.int r3]) ⟨hx, hb, hml, hown, hU⟩ (c_X12_of l C X n S_5 hw.wf _ 16 ((by decide)) r12 S_10 hq11) ⟨callB_of 1 hU (pq_g1 tc_X12_of) rfl rfl rfl (hU _ tw14) (hU _ tw1731) cd_X12_of.2 ⟨Nat.le_trans (Nat.le_of_ble_eq_true rfl) (Nat.le_add_right _ _), Nat.le_trans (Nat.le_of_ble_eq_true rfl) (Nat.le_add_right _ _)⟩, hU _ tw1732⟩ (pw_preS hw) rfl rfl hl.1 rfl (lv_room (Nat.le_of_ble_eq_true rfl)) dX12_readStep_30 ⟨Nat.zero_le _, Nat.zero_le _⟩) hw (fun H locs hw hx13 => ?_)
    have Ta0 : TY S_10 a0 12 := ty_ext hx13 Ta0
    have hE : Ext S0 S_10 := Ext.tr hE hx13
    refine lv_icmp_ne (tgt := 62) hx hb dX12_readStep_33 (by decide) (fun h14 => ?_) (fun h14 => ?_)
    · rw [if_neg h14] at hm
      refine lv_iload_n hx hb dX12_readStep_62 rfl (lv_at hl 0 rfl) ?_
      refine va_ldcwS hx hb hown (hw.str 38 rfl) dX12_readStep_63 ?_
      obtain ⟨r17, S_15, hq16, hm⟩ := cb_some hm
      refine pw_ci (va_runS (As := [.ref (C.2.2.2.2.2.2.1 17)]) (rest := [.int r3]) ⟨hx, hb, hml, hown, hU⟩ (c_X12_of l C X n S_10 hw.wf _ 17 ((by decide)) r17 S_15 hq16) ⟨callB_of 1 hU (pq_g1 tc_X12_of) rfl rfl rfl (hU _ tw14) (hU _ tw1731) cd_X12_of.2 ⟨Nat.le_trans (Nat.le_of_ble_eq_true rfl) (Nat.le_add_right _ _), Nat.le_trans (Nat.le_of_ble_eq_true rfl) (Nat.le_add_right _ _)⟩, hU _ tw1732⟩ (pw_preS hw) rfl rfl hl.1 rfl (lv_room (Nat.le_of_ble_eq_true rfl)) dX12_readStep_66 ⟨Nat.zero_le _, Nat.zero_le _⟩) hw (fun H locs hw hx18 => ?_)
      have Ta0 : TY S_15 a0 12 := ty_ext hx18 Ta0
      have hE : Ext S0 S_15 := Ext.tr hE hx18
      refine lv_icmp_ne (tgt := 106) hx hb dX12_readStep_69 (by decide) (fun h19 => ?_) (fun h19 => ?_)
      · rw [if_neg h19] at hm
        refine lv_iload_n hx hb dX12_readStep_106 rfl (lv_at hl 0 rfl) ?_
        refine va_ldcwS hx hb hown (hw.str 39 rfl) dX12_readStep_107 ?_
        obtain ⟨r22, S_20, hq21, hm⟩ := cb_some hm
        refine pw_ci (va_runS (As := [.ref (C.2.2.2.2.2.2.1 18)]) (rest := [.int r3]) ⟨hx, hb, hml, hown, hU⟩ (c_X12_of l C X n S_15 hw.wf _ 18 ((by decide)) r22 S_20 hq21) ⟨callB_of 1 hU (pq_g1 tc_X12_of) rfl rfl rfl (hU _ tw14) (hU _ tw1731) cd_X12_of.2 ⟨Nat.le_trans (Nat.le_of_ble_eq_true rfl) (Nat.le_add_right _ _), Nat.le_trans (Nat.le_of_ble_eq_true rfl) (Nat.le_add_right _ _)⟩, hU _ tw1732⟩ (pw_preS hw) rfl rfl hl.1 rfl (lv_room (Nat.le_of_ble_eq_true rfl)) dX12_readStep_110 ⟨Nat.zero_le _, Nat.zero_le _⟩) hw (fun H locs hw hx23 => ?_)
        have Ta0 : TY S_20 a0 12 := ty_ext hx23 Ta0
        have hE : Ext S0 S_20 := Ext.tr hE hx23
        refine lv_icmp_ne (tgt := 150) hx hb dX12_readStep_113 (by decide) (fun h24 => ?_) (fun h24 => ?_)
        · rw [if_neg h24] at hm
          refine lv_iload_n hx hb dX12_readStep_150 rfl (lv_at hl 0 rfl) ?_
          refine va_ldcwS hx hb hown (hw.str 34 rfl) dX12_readStep_151 ?_
          obtain ⟨r27, S_25, hq26, hm⟩ := cb_some hm
          refine pw_ci (va_runS (As := [.ref (C.2.2.2.2.2.2.1 13)]) (rest := [.int r3]) ⟨hx, hb, hml, hown, hU⟩ (c_X12_of l C X n S_20 hw.wf _ 13 ((by decide)) r27 S_25 hq26) ⟨callB_of 1 hU (pq_g1 tc_X12_of) rfl rfl rfl (hU _ tw14) (hU _ tw1731) cd_X12_of.2 ⟨Nat.le_trans (Nat.le_of_ble_eq_true rfl) (Nat.le_add_right _ _), Nat.le_trans (Nat.le_of_ble_eq_true rfl) (Nat.le_add_right _ _)⟩, hU _ tw1732⟩ (pw_preS hw) rfl rfl hl.1 rfl (lv_room (Nat.le_of_ble_eq_true rfl)) dX12_readStep_154 ⟨Nat.zero_le _, Nat.zero_le _⟩) hw (fun H locs hw hx28 => ?_)
          have Ta0 : TY S_25 a0 12 := ty_ext hx28 Ta0
          have hE : Ext S0 S_25 := Ext.tr hE hx28
          refine lv_icmp_ne (tgt := 176) hx hb dX12_readStep_157 (by decide) (fun h29 => ?_) (fun h29 => ?_)
          · rw [if_neg h29] at hm
            refine lv_iload_n hx hb dX12_readStep_176 rfl (lv_at hl 0 rfl) ?_
            refine va_ldcwS hx hb hown (hw.str 40 rfl) dX12_readStep_177 ?_
            obtain ⟨r32, S_30, hq31, hm⟩ := cb_some hm
            refine pw_ci (va_runS (As := [.ref (C.2.2.2.2.2.2.1 19)]) (rest := [.int r3]) ⟨hx, hb, hml, hown, hU⟩ (c_X12_of l C X n S_25 hw.wf _ 19 ((by decide)) r32 S_30 hq31) ⟨callB_of 1 hU (pq_g1 tc_X12_of) rfl rfl rfl (hU _ tw14) (hU _ tw1731) cd_X12_of.2 ⟨Nat.le_trans (Nat.le_of_ble_eq_true rfl) (Nat.le_add_right _ _), Nat.le_trans (Nat.le_of_ble_eq_true rfl) (Nat.le_add_right _ _)⟩, hU _ tw1732⟩ (pw_preS hw) rfl rfl hl.1 rfl (lv_room (Nat.le_of_ble_eq_true rfl)) dX12_readStep_180 ⟨Nat.zero_le _, Nat.zero_le _⟩) hw (fun H locs hw hx33 => ?_)
            have Ta0 : TY S_30 a0 12 := ty_ext hx33 Ta0
            have hE : Ext S0 S_30 := Ext.tr hE hx33
            refine lv_icmp_ne (tgt := 280) hx hb dX12_readStep_183 (by decide) (fun h34 => ?_) (fun h34 => ?_)
            · rw [if_neg h34] at hm
              refine lv_aload_n hx hb dX12_readStep_280 rfl (lv_at hl 1 rfl) ?_
              refine lv_iconst (v := 1) hx hb dX12_readStep_281 (by decide) ?_
              refine lv_aload_n hx hb dX12_readStep_282 rfl (lv_at hl 1 rfl) ?_
              refine pg_i (k := 12) (j := 4) (f := 1204) hx hb hown hU iu12 hw Ta0 (by decide) rfl (hU _ tw1475) rfl dX12_readStep_283 ?_
              obtain ⟨S_35, hq36, hm⟩ := bd_some hm
              refine pw_cv (va_runV (As := [.int 1, .int (pI S_30 1204 a0)]) (rest := []) ⟨hx, hb, hml, hown, hU⟩ (c_X12_wrong l C X n S_30 hw.wf _ a0 1 (pI S_30 1204 a0) (Ta0) S_35 hq36) (cwV 2 hU (pq_gV tw1741 tw1743 ts129 tw14 tc_X12_wrong) rfl rfl rfl cd_X12_wrong ⟨Nat.le_trans (Nat.le_of_ble_eq_true rfl) (Nat.le_add_right _ _), Nat.le_trans (Nat.le_of_ble_eq_true rfl) (Nat.le_add_right _ _)⟩) (pw_preV hw Ta0 (by decide) rfl) rfl rfl hl.1 rfl (lv_room (Nat.le_of_ble_eq_true rfl)) dX12_readStep_286 ⟨Nat.zero_le _, Nat.zero_le _⟩) hw (fun H locs hw hx37 => ?_)
              have Ta0 : TY S_35 a0 12 := ty_ext hx37 Ta0
              have hE : Ext S0 S_35 := Ext.tr hE hx37
              exact wb_X12_readStep_289 cx C X S0 n d rec hrec S1 a0 S_35 _ _ _ hw hE Ta0 (lv_sub hl [1] rfl) hm
            · rw [if_pos h34] at hm
              refine lv_aload_n hx hb dX12_readStep_186 rfl (lv_at hl 1 rfl) ?_
              refine lv_iconst (v := 5) hx hb dX12_readStep_187 (by decide) ?_
              obtain ⟨S_38, hq39, hm⟩ := bd_some hm
              refine pw_cv (va_runV (As := [.int 5]) (rest := []) ⟨hx, hb, hml, hown, hU⟩ (c_X12_opensOne l C X n S_30 hw.wf _ a0 5 (Ta0) S_38 hq39) (cwV 1 hU (pq_gV tw1791 tw1793 ts139 tw14 tc_X12_opensOne) rfl rfl rfl cd_X12_opensOne ⟨Nat.le_trans (Nat.le_of_ble_eq_true rfl) (Nat.le_add_right _ _), Nat.le_trans (Nat.le_of_ble_eq_true rfl) (Nat.le_add_right _ _)⟩) (pw_preV hw Ta0 (by decide) rfl) rfl rfl hl.1 rfl (lv_room (Nat.le_of_ble_eq_true rfl)) dX12_readStep_188 ⟨Nat.zero_le _, Nat.zero_le _⟩) hw (fun H locs hw hx40 => ?_)
              have Ta0 : TY S_38 a0 12 := ty_ext hx40 Ta0
              have hE : Ext S0 S_38 := Ext.tr hE hx40
              refine lv_aload_n hx hb dX12_readStep_191 rfl (lv_at hl 1 rfl) ?_
              refine lv_iconst (v := 0) hx hb dX12_readStep_192 (by decide) ?_
              refine lv_bipush (v := 20) hx hb dX12_readStep_193 (by decide) ?_
              obtain ⟨r43, S_41, hq42, hm⟩ := cb_some hm
              refine pw_ci (va_runV (As := [.int 0, .int 20]) (rest := []) ⟨hx, hb, hml, hown, hU⟩ (c_X12_readNumber l C X n S_38 hw.wf _ a0 0 20 (Ta0) r43 S_41 hq42) (cwV 2 hU (pq_gV tw1757 tw1759 ts133 tw14 tc_X12_readNumber) rfl rfl rfl cd_X12_readNumber ⟨Nat.le_trans (Nat.le_of_ble_eq_true rfl) (Nat.le_add_right _ _), Nat.le_trans (Nat.le_of_ble_eq_true rfl) (Nat.le_add_right _ _)⟩) (pw_preV hw Ta0 (by decide) rfl) rfl rfl hl.1 rfl (lv_room (Nat.le_of_ble_eq_true rfl)) dX12_readStep_195 ⟨Nat.zero_le _, Nat.zero_le _⟩) hw (fun H locs hw hx44 => ?_)
              have Ta0 : TY S_41 a0 12 := ty_ext hx44 Ta0
              have hE : Ext S0 S_41 := Ext.tr hE hx44
              refine lv_istore_n (lv' := [(2, .int r43), (1, .int r3), (0, .ref a0)]) hx hb dX12_readStep_198 rfl hl (by decide) rfl (fun ls hl => ?_)
              refine lv_aload_n hx hb dX12_readStep_199 rfl (lv_at hl 2 rfl) ?_
              refine lv_bipush (v := 91) hx hb dX12_readStep_200 (by decide) ?_
              obtain ⟨S_45, hq46, hm⟩ := bd_some hm
              refine pw_cv (va_runV (As := [.int 91]) (rest := []) ⟨hx, hb, hml, hown, hU⟩ (c_X12_sign l C X n S_41 hw.wf _ a0 91 (Ta0) S_45 hq46) (cwV 1 hU (pq_gV tw1764 tw1766 ts134 tw14 tc_X12_sign) rfl rfl rfl cd_X12_sign ⟨Nat.le_trans (Nat.le_of_ble_eq_true rfl) (Nat.le_add_right _ _), Nat.le_trans (Nat.le_of_ble_eq_true rfl) (Nat.le_add_right _ _)⟩) (pw_preV hw Ta0 (by decide) rfl) rfl rfl hl.1 rfl (lv_room (Nat.le_of_ble_eq_true rfl)) dX12_readStep_202 ⟨Nat.zero_le _, Nat.zero_le _⟩) hw (fun H locs hw hx47 => ?_)
              have Ta0 : TY S_45 a0 12 := ty_ext hx47 Ta0
              have hE : Ext S0 S_45 := Ext.tr hE hx47
              refine lv_aload_n hx hb dX12_readStep_205 rfl (lv_at hl 2 rfl) ?_
              refine pg_i (k := 12) (j := 40) (f := 1240) hx hb hown hU iu12 hw Ta0 (by decide) rfl (hU _ tw1511) rfl dX12_readStep_206 ?_
              refine lv_istore_n (lv' := [(3, .int (pI S_45 1240 a0)), (2, .int r43), (1, .int r3), (0, .ref a0)]) hx hb dX12_readStep_209 rfl hl (by decide) rfl (fun ls hl => ?_)
              refine lv_aload_n hx hb dX12_readStep_210 rfl (lv_at hl 3 rfl) ?_
              refine lv_iconst (v := 5) hx hb dX12_readStep_211 (by decide) ?_
              refine lv_iload_n hx hb dX12_readStep_212 rfl (lv_at hl 1 rfl) ?_
              refine lv_iconst (v := 0) hx hb dX12_readStep_213 (by decide) ?_
              refine lv_iconst (v := 0) hx hb dX12_readStep_214 (by decide) ?_
              refine lv_iconst (v := 0) hx hb dX12_readStep_215 (by decide) ?_
              obtain ⟨S_48, hq49, hm⟩ := bd_some hm
              refine pw_cv (va_runV (As := [.int 5, .int r43, .int 0, .int 0, .int 0]) (rest := []) ⟨hx, hb, hml, hown, hU⟩ (c_X12_tellsStep l C X n S_45 hw.wf _ a0 5 r43 0 0 0 (Ta0) S_48 hq49) (cwV 5 hU (pq_gV tw1829 tw1831 ts145 tw14 tc_X12_tellsStep) rfl rfl rfl cd_X12_tellsStep ⟨Nat.le_trans (Nat.le_of_ble_eq_true rfl) (Nat.le_add_right _ _), Nat.le_trans (Nat.le_of_ble_eq_true rfl) (Nat.le_add_right _ _)⟩) (pw_preV hw Ta0 (by decide) rfl) rfl rfl hl.1 rfl (lv_room (Nat.le_of_ble_eq_true rfl)) dX12_readStep_216 ⟨Nat.zero_le _, Nat.zero_le _⟩) hw (fun H locs hw hx50 => ?_)
              have Ta0 : TY S_48 a0 12 := ty_ext hx50 Ta0
              have hE : Ext S0 S_48 := Ext.tr hE hx50
              exact wb_X12_readStep_219 cx C X S0 n d rec hrec S1 n a0 (pI S_45 1240 a0) S_48 _ _ _ hw hE Ta0 (lv_sub hl [3, 0] rfl) hm
          · rw [if_pos h29] at hm
            refine lv_aload_n hx hb dX12_readStep_160 rfl (lv_at hl 1 rfl) ?_
            obtain ⟨S_51, hq52, hm⟩ := bd_some hm
            refine pw_cv (va_runV (As := []) (rest := []) ⟨hx, hb, hml, hown, hU⟩ (c_X12_pass l C X n S_25 hw.wf _ a0 (Ta0) S_51 hq52) (cwV 0 hU (pq_gV tw1749 tw1751 ts131 tw14 tc_X12_pass) rfl rfl rfl cd_X12_pass ⟨Nat.le_trans (Nat.le_of_ble_eq_true rfl) (Nat.le_add_right _ _), Nat.le_trans (Nat.le_of_ble_eq_true rfl) (Nat.le_add_right _ _)⟩) (pw_preV hw Ta0 (by decide) rfl) rfl rfl hl.1 rfl (lv_room (Nat.le_of_ble_eq_true rfl)) dX12_readStep_161 ⟨Nat.zero_le _, Nat.zero_le _⟩) hw (fun H locs hw hx53 => ?_)
            have Ta0 : TY S_51 a0 12 := ty_ext hx53 Ta0
            have hE : Ext S0 S_51 := Ext.tr hE hx53
            refine lv_aload_n hx hb dX12_readStep_164 rfl (lv_at hl 1 rfl) ?_
            refine lv_iconst (v := 4) hx hb dX12_readStep_165 (by decide) ?_
            refine lv_iconst (v := 0) hx hb dX12_readStep_166 (by decide) ?_
            refine lv_iconst (v := 0) hx hb dX12_readStep_167 (by decide) ?_
            refine lv_iconst (v := 0) hx hb dX12_readStep_168 (by decide) ?_
            refine lv_iconst (v := 0) hx hb dX12_readStep_169 (by decide) ?_
            obtain ⟨S_54, hq55, hm⟩ := bd_some hm
            refine pw_cv (va_runV (As := [.int 4, .int 0, .int 0, .int 0, .int 0]) (rest := []) ⟨hx, hb, hml, hown, hU⟩ (c_X12_tellsStep l C X n S_51 hw.wf _ a0 4 0 0 0 0 (Ta0) S_54 hq55) (cwV 5 hU (pq_gV tw1829 tw1831 ts145 tw14 tc_X12_tellsStep) rfl rfl rfl cd_X12_tellsStep ⟨Nat.le_trans (Nat.le_of_ble_eq_true rfl) (Nat.le_add_right _ _), Nat.le_trans (Nat.le_of_ble_eq_true rfl) (Nat.le_add_right _ _)⟩) (pw_preV hw Ta0 (by decide) rfl) rfl rfl hl.1 rfl (lv_room (Nat.le_of_ble_eq_true rfl)) dX12_readStep_170 ⟨Nat.zero_le _, Nat.zero_le _⟩) hw (fun H locs hw hx56 => ?_)
            have Ta0 : TY S_54 a0 12 := ty_ext hx56 Ta0
            have hE : Ext S0 S_54 := Ext.tr hE hx56
            refine lv_goto (tgt := 289) hx hb dX12_readStep_173 (by decide) ?_
            exact wb_X12_readStep_289 cx C X S0 n d rec hrec S1 a0 S_54 _ _ _ hw hE Ta0 (lv_sub hl [1] rfl) hm
        · rw [if_pos h24] at hm
          refine lv_aload_n hx hb dX12_readStep_116 rfl (lv_at hl 1 rfl) ?_
          obtain ⟨S_57, hq58, hm⟩ := bd_some hm
          refine pw_cv (va_runV (As := []) (rest := []) ⟨hx, hb, hml, hown, hU⟩ (c_X12_pass l C X n S_20 hw.wf _ a0 (Ta0) S_57 hq58) (cwV 0 hU (pq_gV tw1749 tw1751 ts131 tw14 tc_X12_pass) rfl rfl rfl cd_X12_pass ⟨Nat.le_trans (Nat.le_of_ble_eq_true rfl) (Nat.le_add_right _ _), Nat.le_trans (Nat.le_of_ble_eq_true rfl) (Nat.le_add_right _ _)⟩) (pw_preV hw Ta0 (by decide) rfl) rfl rfl hl.1 rfl (lv_room (Nat.le_of_ble_eq_true rfl)) dX12_readStep_117 ⟨Nat.zero_le _, Nat.zero_le _⟩) hw (fun H locs hw hx59 => ?_)
          have Ta0 : TY S_57 a0 12 := ty_ext hx59 Ta0
          have hE : Ext S0 S_57 := Ext.tr hE hx59
          refine lv_aload_n hx hb dX12_readStep_120 rfl (lv_at hl 1 rfl) ?_
          refine lv_iconst (v := 0) hx hb dX12_readStep_121 (by decide) ?_
          refine lv_aload_n hx hb dX12_readStep_122 rfl (lv_at hl 1 rfl) ?_
          refine pg_i (k := 12) (j := 26) (f := 1226) hx hb hown hU iu12 hw Ta0 (by decide) rfl (hU _ tw1497) rfl dX12_readStep_123 ?_
          refine lv_iconst (v := 1) hx hb dX12_readStep_126 (by decide) ?_
          refine lv_isub hx hb dX12_readStep_127 ?_
          obtain ⟨r62, S_60, hq61, hm⟩ := cb_some hm
          refine pw_ci (va_runV (As := [.int 0, .int ((pI S_57 1226 a0) - (1 : Int32))]) (rest := []) ⟨hx, hb, hml, hown, hU⟩ (c_X12_readNumber l C X n S_57 hw.wf _ a0 0 ((pI S_57 1226 a0) - (1 : Int32)) (Ta0) r62 S_60 hq61) (cwV 2 hU (pq_gV tw1757 tw1759 ts133 tw14 tc_X12_readNumber) rfl rfl rfl cd_X12_readNumber ⟨Nat.le_trans (Nat.le_of_ble_eq_true rfl) (Nat.le_add_right _ _), Nat.le_trans (Nat.le_of_ble_eq_true rfl) (Nat.le_add_right _ _)⟩) (pw_preV hw Ta0 (by decide) rfl) rfl rfl hl.1 rfl (lv_room (Nat.le_of_ble_eq_true rfl)) dX12_readStep_128 ⟨Nat.zero_le _, Nat.zero_le _⟩) hw (fun H locs hw hx63 => ?_)
          have Ta0 : TY S_60 a0 12 := ty_ext hx63 Ta0
          have hE : Ext S0 S_60 := Ext.tr hE hx63
          refine lv_istore_n (lv' := [(2, .int r62), (1, .int r3), (0, .ref a0)]) hx hb dX12_readStep_131 rfl hl (by decide) rfl (fun ls hl => ?_)
          refine lv_aload_n hx hb dX12_readStep_132 rfl (lv_at hl 2 rfl) ?_
          refine lv_iconst (v := 3) hx hb dX12_readStep_133 (by decide) ?_
          refine lv_iload_n hx hb dX12_readStep_134 rfl (lv_at hl 0 rfl) ?_
          refine lv_aload_n hx hb dX12_readStep_135 rfl (lv_at hl 2 rfl) ?_
          refine lv_iconst (v := 1) hx hb dX12_readStep_136 (by decide) ?_
          refine lv_bipush (v := 9) hx hb dX12_readStep_137 (by decide) ?_
          obtain ⟨r66, S_64, hq65, hm⟩ := cb_some hm
          refine pw_ci (va_runV (As := [.int 1, .int 9]) (rest := [.int r62, .int 3, .ref a0]) ⟨hx, hb, hml, hown, hU⟩ (c_X12_readNumber l C X n S_60 hw.wf _ a0 1 9 (Ta0) r66 S_64 hq65) (cwV 2 hU (pq_gV tw1757 tw1759 ts133 tw14 tc_X12_readNumber) rfl rfl rfl cd_X12_readNumber ⟨Nat.le_trans (Nat.le_of_ble_eq_true rfl) (Nat.le_add_right _ _), Nat.le_trans (Nat.le_of_ble_eq_true rfl) (Nat.le_add_right _ _)⟩) (pw_preV hw Ta0 (by decide) rfl) rfl rfl hl.1 rfl (lv_room (Nat.le_of_ble_eq_true rfl)) dX12_readStep_139 ⟨Nat.zero_le _, Nat.zero_le _⟩) hw (fun H locs hw hx67 => ?_)
          have Ta0 : TY S_64 a0 12 := ty_ext hx67 Ta0
          have hE : Ext S0 S_64 := Ext.tr hE hx67
          refine lv_iconst (v := 0) hx hb dX12_readStep_142 (by decide) ?_
          refine lv_iconst (v := 0) hx hb dX12_readStep_143 (by decide) ?_
          obtain ⟨S_68, hq69, hm⟩ := bd_some hm
          refine pw_cv (va_runV (As := [.int 3, .int r62, .int r66, .int 0, .int 0]) (rest := []) ⟨hx, hb, hml, hown, hU⟩ (c_X12_tellsStep l C X n S_64 hw.wf _ a0 3 r62 r66 0 0 (Ta0) S_68 hq69) (cwV 5 hU (pq_gV tw1829 tw1831 ts145 tw14 tc_X12_tellsStep) rfl rfl rfl cd_X12_tellsStep ⟨Nat.le_trans (Nat.le_of_ble_eq_true rfl) (Nat.le_add_right _ _), Nat.le_trans (Nat.le_of_ble_eq_true rfl) (Nat.le_add_right _ _)⟩) (pw_preV hw Ta0 (by decide) rfl) rfl rfl hl.1 rfl (lv_room (Nat.le_of_ble_eq_true rfl)) dX12_readStep_144 ⟨Nat.zero_le _, Nat.zero_le _⟩) hw (fun H locs hw hx70 => ?_)
          have Ta0 : TY S_68 a0 12 := ty_ext hx70 Ta0
          have hE : Ext S0 S_68 := Ext.tr hE hx70
          refine lv_goto (tgt := 289) hx hb dX12_readStep_147 (by decide) ?_
          exact wb_X12_readStep_289 cx C X S0 n d rec hrec S1 a0 S_68 _ _ _ hw hE Ta0 (lv_sub hl [2] rfl) hm
      · rw [if_pos h19] at hm
        refine lv_aload_n hx hb dX12_readStep_72 rfl (lv_at hl 1 rfl) ?_
        obtain ⟨S_71, hq72, hm⟩ := bd_some hm
        refine pw_cv (va_runV (As := []) (rest := []) ⟨hx, hb, hml, hown, hU⟩ (c_X12_pass l C X n S_15 hw.wf _ a0 (Ta0) S_71 hq72) (cwV 0 hU (pq_gV tw1749 tw1751 ts131 tw14 tc_X12_pass) rfl rfl rfl cd_X12_pass ⟨Nat.le_trans (Nat.le_of_ble_eq_true rfl) (Nat.le_add_right _ _), Nat.le_trans (Nat.le_of_ble_eq_true rfl) (Nat.le_add_right _ _)⟩) (pw_preV hw Ta0 (by decide) rfl) rfl rfl hl.1 rfl (lv_room (Nat.le_of_ble_eq_true rfl)) dX12_readStep_73 ⟨Nat.zero_le _, Nat.zero_le _⟩) hw (fun H locs hw hx73 => ?_)
        have Ta0 : TY S_71 a0 12 := ty_ext hx73 Ta0
        have hE : Ext S0 S_71 := Ext.tr hE hx73
        refine lv_aload_n hx hb dX12_readStep_76 rfl (lv_at hl 1 rfl) ?_
        refine lv_iconst (v := 0) hx hb dX12_readStep_77 (by decide) ?_
        refine lv_aload_n hx hb dX12_readStep_78 rfl (lv_at hl 1 rfl) ?_
        refine pg_i (k := 12) (j := 24) (f := 1224) hx hb hown hU iu12 hw Ta0 (by decide) rfl (hU _ tw1495) rfl dX12_readStep_79 ?_
        refine lv_iconst (v := 1) hx hb dX12_readStep_82 (by decide) ?_
        refine lv_isub hx hb dX12_readStep_83 ?_
        obtain ⟨r76, S_74, hq75, hm⟩ := cb_some hm
        refine pw_ci (va_runV (As := [.int 0, .int ((pI S_71 1224 a0) - (1 : Int32))]) (rest := []) ⟨hx, hb, hml, hown, hU⟩ (c_X12_readNumber l C X n S_71 hw.wf _ a0 0 ((pI S_71 1224 a0) - (1 : Int32)) (Ta0) r76 S_74 hq75) (cwV 2 hU (pq_gV tw1757 tw1759 ts133 tw14 tc_X12_readNumber) rfl rfl rfl cd_X12_readNumber ⟨Nat.le_trans (Nat.le_of_ble_eq_true rfl) (Nat.le_add_right _ _), Nat.le_trans (Nat.le_of_ble_eq_true rfl) (Nat.le_add_right _ _)⟩) (pw_preV hw Ta0 (by decide) rfl) rfl rfl hl.1 rfl (lv_room (Nat.le_of_ble_eq_true rfl)) dX12_readStep_84 ⟨Nat.zero_le _, Nat.zero_le _⟩) hw (fun H locs hw hx77 => ?_)
        have Ta0 : TY S_74 a0 12 := ty_ext hx77 Ta0
        have hE : Ext S0 S_74 := Ext.tr hE hx77
        refine lv_istore_n (lv' := [(2, .int r76), (1, .int r3), (0, .ref a0)]) hx hb dX12_readStep_87 rfl hl (by decide) rfl (fun ls hl => ?_)
        refine lv_aload_n hx hb dX12_readStep_88 rfl (lv_at hl 2 rfl) ?_
        refine lv_iconst (v := 2) hx hb dX12_readStep_89 (by decide) ?_
        refine lv_iload_n hx hb dX12_readStep_90 rfl (lv_at hl 0 rfl) ?_
        refine lv_aload_n hx hb dX12_readStep_91 rfl (lv_at hl 2 rfl) ?_
        refine lv_iconst (v := 1) hx hb dX12_readStep_92 (by decide) ?_
        refine lv_bipush (v := 99) hx hb dX12_readStep_93 (by decide) ?_
        obtain ⟨r80, S_78, hq79, hm⟩ := cb_some hm
        refine pw_ci (va_runV (As := [.int 1, .int 99]) (rest := [.int r76, .int 2, .ref a0]) ⟨hx, hb, hml, hown, hU⟩ (c_X12_readNumber l C X n S_74 hw.wf _ a0 1 99 (Ta0) r80 S_78 hq79) (cwV 2 hU (pq_gV tw1757 tw1759 ts133 tw14 tc_X12_readNumber) rfl rfl rfl cd_X12_readNumber ⟨Nat.le_trans (Nat.le_of_ble_eq_true rfl) (Nat.le_add_right _ _), Nat.le_trans (Nat.le_of_ble_eq_true rfl) (Nat.le_add_right _ _)⟩) (pw_preV hw Ta0 (by decide) rfl) rfl rfl hl.1 rfl (lv_room (Nat.le_of_ble_eq_true rfl)) dX12_readStep_95 ⟨Nat.zero_le _, Nat.zero_le _⟩) hw (fun H locs hw hx81 => ?_)
        have Ta0 : TY S_78 a0 12 := ty_ext hx81 Ta0
        have hE : Ext S0 S_78 := Ext.tr hE hx81
        refine lv_iconst (v := 0) hx hb dX12_readStep_98 (by decide) ?_
        refine lv_iconst (v := 0) hx hb dX12_readStep_99 (by decide) ?_
        obtain ⟨S_82, hq83, hm⟩ := bd_some hm
        refine pw_cv (va_runV (As := [.int 2, .int r76, .int r80, .int 0, .int 0]) (rest := []) ⟨hx, hb, hml, hown, hU⟩ (c_X12_tellsStep l C X n S_78 hw.wf _ a0 2 r76 r80 0 0 (Ta0) S_82 hq83) (cwV 5 hU (pq_gV tw1829 tw1831 ts145 tw14 tc_X12_tellsStep) rfl rfl rfl cd_X12_tellsStep ⟨Nat.le_trans (Nat.le_of_ble_eq_true rfl) (Nat.le_add_right _ _), Nat.le_trans (Nat.le_of_ble_eq_true rfl) (Nat.le_add_right _ _)⟩) (pw_preV hw Ta0 (by decide) rfl) rfl rfl hl.1 rfl (lv_room (Nat.le_of_ble_eq_true rfl)) dX12_readStep_100 ⟨Nat.zero_le _, Nat.zero_le _⟩) hw (fun H locs hw hx84 => ?_)
        have Ta0 : TY S_82 a0 12 := ty_ext hx84 Ta0
        have hE : Ext S0 S_82 := Ext.tr hE hx84
        refine lv_goto (tgt := 289) hx hb dX12_readStep_103 (by decide) ?_
        exact wb_X12_readStep_289 cx C X S0 n d rec hrec S1 a0 S_82 _ _ _ hw hE Ta0 (lv_sub hl [2] rfl) hm
    · rw [if_pos h14] at hm
      refine lv_aload_n hx hb dX12_readStep_36 rfl (lv_at hl 1 rfl) ?_
      obtain ⟨S_85, hq86, hm⟩ := bd_some hm
      refine pw_cv (va_runV (As := []) (rest := []) ⟨hx, hb, hml, hown, hU⟩ (c_X12_pass l C X n S_10 hw.wf _ a0 (Ta0) S_85 hq86) (cwV 0 hU (pq_gV tw1749 tw1751 ts131 tw14 tc_X12_pass) rfl rfl rfl cd_X12_pass ⟨Nat.le_trans (Nat.le_of_ble_eq_true rfl) (Nat.le_add_right _ _), Nat.le_trans (Nat.le_of_ble_eq_true rfl) (Nat.le_add_right _ _)⟩) (pw_preV hw Ta0 (by decide) rfl) rfl rfl hl.1 rfl (lv_room (Nat.le_of_ble_eq_true rfl)) dX12_readStep_37 ⟨Nat.zero_le _, Nat.zero_le _⟩) hw (fun H locs hw hx87 => ?_)
      have Ta0 : TY S_85 a0 12 := ty_ext hx87 Ta0
      have hE : Ext S0 S_85 := Ext.tr hE hx87
      refine lv_aload_n hx hb dX12_readStep_40 rfl (lv_at hl 1 rfl) ?_
      refine lv_iconst (v := 1) hx hb dX12_readStep_41 (by decide) ?_
      refine lv_aload_n hx hb dX12_readStep_42 rfl (lv_at hl 1 rfl) ?_
      refine lv_iconst (v := 0) hx hb dX12_readStep_43 (by decide) ?_
      refine lv_aload_n hx hb dX12_readStep_44 rfl (lv_at hl 1 rfl) ?_
      refine pg_i (k := 12) (j := 25) (f := 1225) hx hb hown hU iu12 hw Ta0 (by decide) rfl (hU _ tw1496) rfl dX12_readStep_45 ?_
      refine lv_iconst (v := 1) hx hb dX12_readStep_48 (by decide) ?_
      refine lv_isub hx hb dX12_readStep_49 ?_
      obtain ⟨r90, S_88, hq89, hm⟩ := cb_some hm
      refine pw_ci (va_runV (As := [.int 0, .int ((pI S_85 1225 a0) - (1 : Int32))]) (rest := [.int 1, .ref a0]) ⟨hx, hb, hml, hown, hU⟩ (c_X12_readNumber l C X n S_85 hw.wf _ a0 0 ((pI S_85 1225 a0) - (1 : Int32)) (Ta0) r90 S_88 hq89) (cwV 2 hU (pq_gV tw1757 tw1759 ts133 tw14 tc_X12_readNumber) rfl rfl rfl cd_X12_readNumber ⟨Nat.le_trans (Nat.le_of_ble_eq_true rfl) (Nat.le_add_right _ _), Nat.le_trans (Nat.le_of_ble_eq_true rfl) (Nat.le_add_right _ _)⟩) (pw_preV hw Ta0 (by decide) rfl) rfl rfl hl.1 rfl (lv_room (Nat.le_of_ble_eq_true rfl)) dX12_readStep_50 ⟨Nat.zero_le _, Nat.zero_le _⟩) hw (fun H locs hw hx91 => ?_)
      have Ta0 : TY S_88 a0 12 := ty_ext hx91 Ta0
      have hE : Ext S0 S_88 := Ext.tr hE hx91
      refine lv_iconst (v := 0) hx hb dX12_readStep_53 (by decide) ?_
      refine lv_iconst (v := 0) hx hb dX12_readStep_54 (by decide) ?_
      refine lv_iconst (v := 0) hx hb dX12_readStep_55 (by decide) ?_
      obtain ⟨S_92, hq93, hm⟩ := bd_some hm
      refine pw_cv (va_runV (As := [.int 1, .int r90, .int 0, .int 0, .int 0]) (rest := []) ⟨hx, hb, hml, hown, hU⟩ (c_X12_tellsStep l C X n S_88 hw.wf _ a0 1 r90 0 0 0 (Ta0) S_92 hq93) (cwV 5 hU (pq_gV tw1829 tw1831 ts145 tw14 tc_X12_tellsStep) rfl rfl rfl cd_X12_tellsStep ⟨Nat.le_trans (Nat.le_of_ble_eq_true rfl) (Nat.le_add_right _ _), Nat.le_trans (Nat.le_of_ble_eq_true rfl) (Nat.le_add_right _ _)⟩) (pw_preV hw Ta0 (by decide) rfl) rfl rfl hl.1 rfl (lv_room (Nat.le_of_ble_eq_true rfl)) dX12_readStep_56 ⟨Nat.zero_le _, Nat.zero_le _⟩) hw (fun H locs hw hx94 => ?_)
      have Ta0 : TY S_92 a0 12 := ty_ext hx94 Ta0
      have hE : Ext S0 S_92 := Ext.tr hE hx94
      refine lv_goto (tgt := 289) hx hb dX12_readStep_59 (by decide) ?_
      exact wb_X12_readStep_289 cx C X S0 n d rec hrec S1 a0 S_92 _ _ _ hw hE Ta0 (lv_sub hl [1] rfl) hm
  · rw [if_pos h9] at hm
    refine lv_aload_n hx hb dX12_readStep_15 rfl (lv_at hl 1 rfl) ?_
    obtain ⟨S_95, hq96, hm⟩ := bd_some hm
    refine pw_cv (va_runV (As := []) (rest := []) ⟨hx, hb, hml, hown, hU⟩ (c_X12_pass l C X n S_5 hw.wf _ a0 (Ta0) S_95 hq96) (cwV 0 hU (pq_gV tw1749 tw1751 ts131 tw14 tc_X12_pass) rfl rfl rfl cd_X12_pass ⟨Nat.le_trans (Nat.le_of_ble_eq_true rfl) (Nat.le_add_right _ _), Nat.le_trans (Nat.le_of_ble_eq_true rfl) (Nat.le_add_right _ _)⟩) (pw_preV hw Ta0 (by decide) rfl) rfl rfl hl.1 rfl (lv_room (Nat.le_of_ble_eq_true rfl)) dX12_readStep_16 ⟨Nat.zero_le _, Nat.zero_le _⟩) hw (fun H locs hw hx97 => ?_)
    have Ta0 : TY S_95 a0 12 := ty_ext hx97 Ta0
    have hE : Ext S0 S_95 := Ext.tr hE hx97
    refine lv_aload_n hx hb dX12_readStep_19 rfl (lv_at hl 1 rfl) ?_
    obtain ⟨S_98, hq99, hm⟩ := bd_some hm
    refine pw_cv (va_runV (As := []) (rest := []) ⟨hx, hb, hml, hown, hU⟩ (c_X12_readCarry l C X n S_95 hw.wf _ a0 (Ta0) S_98 hq99) (cwV 0 hU (pq_gV tw1825 tw1827 ts144 tw14 tc_X12_readCarry) rfl rfl rfl cd_X12_readCarry ⟨Nat.le_trans (Nat.le_of_ble_eq_true rfl) (Nat.le_add_right _ _), Nat.le_trans (Nat.le_of_ble_eq_true rfl) (Nat.le_add_right _ _)⟩) (pw_preV hw Ta0 (by decide) rfl) rfl rfl hl.1 rfl (lv_room (Nat.le_of_ble_eq_true rfl)) dX12_readStep_20 ⟨Nat.zero_le _, Nat.zero_le _⟩) hw (fun H locs hw hx100 => ?_)
    have Ta0 : TY S_98 a0 12 := ty_ext hx100 Ta0
    have hE : Ext S0 S_98 := Ext.tr hE hx100
    refine lv_goto (tgt := 289) hx hb dX12_readStep_23 (by decide) ?_
    exact wb_X12_readStep_289 cx C X S0 n d rec hrec S1 a0 S_98 _ _ _ hw hE Ta0 (lv_sub hl [1] rfl) hm
def m_modS_d (n : Nat) : Nat → ((Nat → pq_S → Option pq_S))
  | 0 => (fun _ _ => none)
  | d + 1 => (g_X12_readStep n (m_modS_d n d))
theorem hg_modS (n : Nat) : ∀ d : Nat, HG_modS n d (m_modS_d n d) := by
  intro d
  induction d with
  | zero =>
    exact fun _ _ _ _ _ _ _ _ _ hm => by cases hm
  | succ d ih =>
    exact (fun q0 q1 q2 q3 q4 q5 q6 q7 q8 hm => cg_X12_readStep n d _ ih q0 q1 q2 q3 q4 q5 q6 q7 q8 hm)
def m_X12_readStep (n : Nat) (a0 : Nat) (S : pq_S) : Option pq_S := (m_modS_d n 64) a0 S
abbrev rm_X12_readStep : Room := { frames := 69, cells := 0, slots := 0, locals := 1579 }
theorem c_X12_readStep (l : Launch) (C : pq_C) (X : va_W) (n : Nat) (S0 : pq_S) (hF : WF S0) (sz : Nat) (a0 : Nat) (Ta0 : TY S0 a0 12) (S1 : pq_S) (hm : m_X12_readStep n a0 S0 = some S1) : MV l yX12_readStep (.code yX12_readStep cX12_readStep 4 none :: pq_U) rm_X12_readStep C X S0 sz [.ref a0] S1 0 0 := (hg_modS n 64) l C X S0 hF sz a0 Ta0 S1 hm
abbrev rm_X11_feed : Room := { frames := 1, cells := 0, slots := 0, locals := 22 }
def m_X11_feed (n : Nat) (a0 : Nat) (x1 : Int32) (x2 : Int32) (x3 : Int32) (x4 : Int32) (x5 : Int32) (S0 : pq_S) : Option (Int32 × pq_S) := Option.bind (pR S0 1100 a0) fun q1 => if ((pI S0 1001 q1) + (20 : Int32)) ≤ 600 then Option.bind (pR S0 1100 a0) fun q3 => Option.bind (m_X10_append n q3 x1 S0) fun S_4 => Option.bind (pR S_4 1100 a0) fun q7 => Option.bind (m_X10_append n q7 x2 S_4) fun S_8 => Option.bind (pR S_8 1100 a0) fun q11 => Option.bind (m_X10_append n q11 x3 S_8) fun S_12 => Option.bind (pR S_12 1100 a0) fun q15 => Option.bind (m_X10_append n q15 x4 S_12) fun S_16 => Option.bind (pR S_16 1100 a0) fun q19 => Option.bind (m_X10_append n q19 x5 S_16) fun S_20 => Option.bind (pR S_20 1100 a0) fun q23 => some ((pI S_20 1001 q23), S_20) else some ((-1), S0)
theorem tc_X11_feed : Cond.code yX11_feed cX11_feed 6 (some .int) ∈ pq_U := tw418
theorem cd_X11_feed : yX11_feed.cls = RX11 ∧ yX11_feed.cls ≠ "java/lang/invoke/MethodHandle" ∧ yX11_feed.cls ≠ "java/lang/invoke/VarHandle" ∧ (parseMethodDescriptor yX11_feed.desc).map (fun d => d.parameters.length) = some 5 := by decide +kernel
set_option maxHeartbeats 4000000 in
set_option maxRecDepth 100000 in
theorem c_X11_feed (l : Launch) (C : pq_C) (X : va_W) (n : Nat) (S0 : pq_S) (hF : WF S0) (sz : Nat) (a0 : Nat) (x1 : Int32) (x2 : Int32) (x3 : Int32) (x4 : Int32) (x5 : Int32) (Ta0 : TY S0 a0 11) (r : Int32) (S1 : pq_S) (hm : m_X11_feed n a0 x1 x2 x3 x4 x5 S0 = some (r, S1)) : MI l yX11_feed (.code yX11_feed cX11_feed 6 (some .int) :: pq_U) rm_X11_feed C X S0 sz [.ref a0, .int x1, .int x2, .int x3, .int x4, .int x5] r S1 0 0 := by
  refine Met.ofW (cc := cX11_feed) (maxL := 6) (ret := (some .int)) (by decide) rfl ?_
  intro p e s m args below meth c s₁ B hml hv
  obtain ⟨rfl, hv⟩ := hv
  have hsz := hv.1
  subst hsz
  have hw := pw_entry hF hv
  have hts := atoms_spec (ws := .code yX11_feed cX11_feed 6 (some .int) :: pq_U) B.pre
  have hU : ∀ w ∈ pq_U, w.before _ s = true := fun w h => hts w (List.mem_cons_of_mem _ h)
  have hx := B.exec
  have hb := B.bytes
  have hr := B.returns
  have hown : s.vm.findClass RX11 = some m.cls := findClass_of_methodNamed B.named
  have hlk := B.notSynchronized
  have hl := lv_entry ([.ref a0, .int x1, .int x2, .int x3, .int x4, .int x5]) (n := 6) (Nat.le_of_ble_eq_true rfl)
  rw [lg_entry_eq]
  generalize (lg_sl ([.ref a0, .int x1, .int x2, .int x3, .int x4, .int x5]) ++ List.replicate (6 - (lg_sl ([.ref a0, .int x1, .int x2, .int x3, .int x4, .int x5])).length) Slot.unset).toArray = ls at hl ⊢
  have hl : lv_has ls 6 [(0, .ref a0), (1, .int x1), (2, .int x2), (3, .int x3), (4, .int x4), (5, .int x5)] := hl
  have hE : Ext S0 S0 := Ext.rf _
  have cx : Cx p s m _ meth c cX11_feed 6 RX11 (some .int) := ⟨hx, hb, hml, hown, hU, hr, hlk⟩
  rw [m_X11_feed] at hm
  refine lv_aload_n hx hb dX11_feed_0 rfl (lv_at hl 0 rfl) ?_
  obtain ⟨q1, hq1, hm⟩ := bd_some hm
  have Tq1 : TY S0 q1 10 := hw.wf.ref (k := 11) (j := 0) Ta0 (by decide) (by decide) hq1
  refine pg_rb (k := 11) (j := 0) (f := 1100) hx hb hown hU iu11 hw Ta0 (by decide) rfl (hU _ tw363) rfl hq1 dX11_feed_1 ?_
  refine pgN_i (k := 10) (j := 1) (f := 1001) hx hb hown hU iu10 hw Tq1 (by decide) rfl 1 rfl rfl dX11_feed_4 ?_
  refine lv_bipush (v := 20) hx hb dX11_feed_7 (by decide) ?_
  refine lv_iadd hx hb dX11_feed_9 ?_
  refine lv_sipush (v := 600) hx hb dX11_feed_10 (by decide) ?_
  refine lv_icmp_le (tgt := 18) hx hb dX11_feed_13 (by decide) (fun h2 => ?_) (fun h2 => ?_)
  · rw [if_pos h2] at hm
    refine lv_aload_n hx hb dX11_feed_18 rfl (lv_at hl 0 rfl) ?_
    obtain ⟨q3, hq3, hm⟩ := bd_some hm
    have Tq3 : TY S0 q3 10 := hw.wf.ref (k := 11) (j := 0) Ta0 (by decide) (by decide) hq3
    refine pg_rb (k := 11) (j := 0) (f := 1100) hx hb hown hU iu11 hw Ta0 (by decide) rfl (hU _ tw363) rfl hq3 dX11_feed_19 ?_
    refine lv_iload_n hx hb dX11_feed_22 rfl (lv_at hl 1 rfl) ?_
    obtain ⟨S_4, hq5, hm⟩ := bd_some hm
    refine pw_cv (va_runVN (As := [.int x1]) (rest := []) ⟨hx, hb, hml, hown, hU⟩ (c_X10_append l C X n S0 hw.wf _ q3 x1 (Tq3) S_4 hq5) ⟨va_cnB (host := "WickNights") 1 hU (pq_g1 tc_X10_append) rfl rfl rfl (hw.nw 83 rfl) (hU _ tw2) cd_X10_append.2 ⟨Nat.le_of_ble_eq_true rfl, Nat.le_of_ble_eq_true rfl⟩, hU _ tw421, hU _ ts0⟩ (pw_preV hw Tq3 (by decide) rfl) rfl rfl hl.1 rfl (lv_room (Nat.le_of_ble_eq_true rfl)) dX11_feed_23 ⟨Nat.zero_le _, Nat.zero_le _⟩) hw (fun H locs hw hx6 => ?_)
    have Ta0 : TY S_4 a0 11 := ty_ext hx6 Ta0
    have hE : Ext S0 S_4 := Ext.tr hE hx6
    refine lv_aload_n hx hb dX11_feed_26 rfl (lv_at hl 0 rfl) ?_
    obtain ⟨q7, hq7, hm⟩ := bd_some hm
    have Tq7 : TY S_4 q7 10 := hw.wf.ref (k := 11) (j := 0) Ta0 (by decide) (by decide) hq7
    refine pg_rb (k := 11) (j := 0) (f := 1100) hx hb hown hU iu11 hw Ta0 (by decide) rfl (hU _ tw363) rfl hq7 dX11_feed_27 ?_
    refine lv_iload_n hx hb dX11_feed_30 rfl (lv_at hl 2 rfl) ?_
    obtain ⟨S_8, hq9, hm⟩ := bd_some hm
    refine pw_cv (va_runVN (As := [.int x2]) (rest := []) ⟨hx, hb, hml, hown, hU⟩ (c_X10_append l C X n S_4 hw.wf _ q7 x2 (Tq7) S_8 hq9) ⟨va_cnB (host := "WickNights") 1 hU (pq_g1 tc_X10_append) rfl rfl rfl (hw.nw 83 rfl) (hU _ tw2) cd_X10_append.2 ⟨Nat.le_of_ble_eq_true rfl, Nat.le_of_ble_eq_true rfl⟩, hU _ tw421, hU _ ts0⟩ (pw_preV hw Tq7 (by decide) rfl) rfl rfl hl.1 rfl (lv_room (Nat.le_of_ble_eq_true rfl)) dX11_feed_31 ⟨Nat.zero_le _, Nat.zero_le _⟩) hw (fun H locs hw hx10 => ?_)
    have Ta0 : TY S_8 a0 11 := ty_ext hx10 Ta0
    have hE : Ext S0 S_8 := Ext.tr hE hx10
    refine lv_aload_n hx hb dX11_feed_34 rfl (lv_at hl 0 rfl) ?_
    obtain ⟨q11, hq11, hm⟩ := bd_some hm
    have Tq11 : TY S_8 q11 10 := hw.wf.ref (k := 11) (j := 0) Ta0 (by decide) (by decide) hq11
    refine pg_rb (k := 11) (j := 0) (f := 1100) hx hb hown hU iu11 hw Ta0 (by decide) rfl (hU _ tw363) rfl hq11 dX11_feed_35 ?_
    refine lv_iload_n hx hb dX11_feed_38 rfl (lv_at hl 3 rfl) ?_
    obtain ⟨S_12, hq13, hm⟩ := bd_some hm
    refine pw_cv (va_runVN (As := [.int x3]) (rest := []) ⟨hx, hb, hml, hown, hU⟩ (c_X10_append l C X n S_8 hw.wf _ q11 x3 (Tq11) S_12 hq13) ⟨va_cnB (host := "WickNights") 1 hU (pq_g1 tc_X10_append) rfl rfl rfl (hw.nw 83 rfl) (hU _ tw2) cd_X10_append.2 ⟨Nat.le_of_ble_eq_true rfl, Nat.le_of_ble_eq_true rfl⟩, hU _ tw421, hU _ ts0⟩ (pw_preV hw Tq11 (by decide) rfl) rfl rfl hl.1 rfl (lv_room (Nat.le_of_ble_eq_true rfl)) dX11_feed_39 ⟨Nat.zero_le _, Nat.zero_le _⟩) hw (fun H locs hw hx14 => ?_)
    have Ta0 : TY S_12 a0 11 := ty_ext hx14 Ta0
    have hE : Ext S0 S_12 := Ext.tr hE hx14
    refine lv_aload_n hx hb dX11_feed_42 rfl (lv_at hl 0 rfl) ?_
    obtain ⟨q15, hq15, hm⟩ := bd_some hm
    have Tq15 : TY S_12 q15 10 := hw.wf.ref (k := 11) (j := 0) Ta0 (by decide) (by decide) hq15
    refine pg_rb (k := 11) (j := 0) (f := 1100) hx hb hown hU iu11 hw Ta0 (by decide) rfl (hU _ tw363) rfl hq15 dX11_feed_43 ?_
    refine lv_iload hx hb dX11_feed_46 (lv_at hl 4 rfl) ?_
    obtain ⟨S_16, hq17, hm⟩ := bd_some hm
    refine pw_cv (va_runVN (As := [.int x4]) (rest := []) ⟨hx, hb, hml, hown, hU⟩ (c_X10_append l C X n S_12 hw.wf _ q15 x4 (Tq15) S_16 hq17) ⟨va_cnB (host := "WickNights") 1 hU (pq_g1 tc_X10_append) rfl rfl rfl (hw.nw 83 rfl) (hU _ tw2) cd_X10_append.2 ⟨Nat.le_of_ble_eq_true rfl, Nat.le_of_ble_eq_true rfl⟩, hU _ tw421, hU _ ts0⟩ (pw_preV hw Tq15 (by decide) rfl) rfl rfl hl.1 rfl (lv_room (Nat.le_of_ble_eq_true rfl)) dX11_feed_48 ⟨Nat.zero_le _, Nat.zero_le _⟩) hw (fun H locs hw hx18 => ?_)
    have Ta0 : TY S_16 a0 11 := ty_ext hx18 Ta0
    have hE : Ext S0 S_16 := Ext.tr hE hx18
    refine lv_aload_n hx hb dX11_feed_51 rfl (lv_at hl 0 rfl) ?_
    obtain ⟨q19, hq19, hm⟩ := bd_some hm
    have Tq19 : TY S_16 q19 10 := hw.wf.ref (k := 11) (j := 0) Ta0 (by decide) (by decide) hq19
    refine pg_rb (k := 11) (j := 0) (f := 1100) hx hb hown hU iu11 hw Ta0 (by decide) rfl (hU _ tw363) rfl hq19 dX11_feed_52 ?_
    refine lv_iload hx hb dX11_feed_55 (lv_at hl 5 rfl) ?_
    obtain ⟨S_20, hq21, hm⟩ := bd_some hm
    refine pw_cv (va_runVN (As := [.int x5]) (rest := []) ⟨hx, hb, hml, hown, hU⟩ (c_X10_append l C X n S_16 hw.wf _ q19 x5 (Tq19) S_20 hq21) ⟨va_cnB (host := "WickNights") 1 hU (pq_g1 tc_X10_append) rfl rfl rfl (hw.nw 83 rfl) (hU _ tw2) cd_X10_append.2 ⟨Nat.le_of_ble_eq_true rfl, Nat.le_of_ble_eq_true rfl⟩, hU _ tw421, hU _ ts0⟩ (pw_preV hw Tq19 (by decide) rfl) rfl rfl hl.1 rfl (lv_room (Nat.le_of_ble_eq_true rfl)) dX11_feed_57 ⟨Nat.zero_le _, Nat.zero_le _⟩) hw (fun H locs hw hx22 => ?_)
    have Ta0 : TY S_20 a0 11 := ty_ext hx22 Ta0
    have hE : Ext S0 S_20 := Ext.tr hE hx22
    refine lv_aload_n hx hb dX11_feed_60 rfl (lv_at hl 0 rfl) ?_
    obtain ⟨q23, hq23, hm⟩ := bd_some hm
    have Tq23 : TY S_20 q23 10 := hw.wf.ref (k := 11) (j := 0) Ta0 (by decide) (by decide) hq23
    refine pg_rb (k := 11) (j := 0) (f := 1100) hx hb hown hU iu11 hw Ta0 (by decide) rfl (hU _ tw363) rfl hq23 dX11_feed_61 ?_
    refine pgN_i (k := 10) (j := 1) (f := 1001) hx hb hown hU iu10 hw Tq23 (by decide) rfl 1 rfl rfl dX11_feed_64 ?_
    cases hm
    exact pw_iret hx hb hr rfl hlk hw hE dX11_feed_67
  · rw [if_neg h2] at hm
    refine lv_iconst (v := (-1)) hx hb dX11_feed_16 (by decide) ?_
    cases hm
    exact pw_iret hx hb hr rfl hlk hw hE dX11_feed_17
abbrev rm_X11_firstLook : Room := { frames := 2, cells := 0, slots := 0, locals := 62 }
def b_X11_firstLook_36 (n : Nat) (k4 : Nat → Int32 → Int32 → Int32 → Int32 → pq_S → Option (Int32 × pq_S)) (a0 : Nat) (x1 : Int32) (x2 : Int32) (x3 : Int32) (x4 : Int32) (S : pq_S) : Option (Int32 × pq_S) := k4 a0 x1 x2 x3 (x4 + 1) S
set_option maxHeartbeats 4000000 in
set_option maxRecDepth 100000 in
theorem wb_X11_firstLook_36 {p : Program} {l : Launch} {e : Env} {s : State} {m : MethodId} {args : Array Value} {below : List Frame} {meth : Method} {c : Code} (cx : Cx p s m args meth c cX11_firstLook 5 RX11 (some .int)) (C : pq_C) (X : va_W) (S0 : pq_S) (n : Nat) (r : Int32) (S1 : pq_S) (k4 : Nat → Int32 → Int32 → Int32 → Int32 → pq_S → Option (Int32 × pq_S)) (hk4 : ∀ (a0 : Nat) (x1 : Int32) (x2 : Int32) (x3 : Int32) (x4 : Int32) (S : pq_S) (H : Heap) (locs : List Loc) (ls : Array Slot), PW C X S (pq_F C X S0 s.heap.size) H locs s → Ext S0 S → TY S a0 11 → lv_has ls 5 [(0, .ref a0), (1, .int x1), (2, .int x2), (3, .int x3), (4, .int x4)] → k4 a0 x1 x2 x3 x4 S = some (r, S1) → W p l e rm_X11_firstLook s m args below meth c H locs 0 0 (MQ below (QcI C X S0 s.heap.size r S1) args s 0 0 (pq_F C X S0 s.heap.size)) (F0 m 5 ls [])) : ∀ (a0 : Nat) (x1 : Int32) (x2 : Int32) (x3 : Int32) (x4 : Int32) (S : pq_S) (H : Heap) (locs : List Loc) (ls : Array Slot), PW C X S (pq_F C X S0 s.heap.size) H locs s → Ext S0 S → TY S a0 11 → lv_has ls 5 [(0, .ref a0), (1, .int x1), (2, .int x2), (3, .int x3), (4, .int x4)] → b_X11_firstLook_36 n k4 a0 x1 x2 x3 x4 S = some (r, S1) → W p l e rm_X11_firstLook s m args below meth c H locs 0 0 (MQ below (QcI C X S0 s.heap.size r S1) args s 0 0 (pq_F C X S0 s.heap.size)) (F0 m 36 ls []) := by
  obtain ⟨hx, hb, hml, hown, hU, hr, hlk⟩ := id cx
  intro a0 x1 x2 x3 x4 S H locs ls hw hE Ta0 hl hm
  rw [b_X11_firstLook_36] at hm
  refine lv_iinc (v := (x4 + 1)) (lv' := [(4, .int (x4 + 1)), (0, .ref a0), (1, .int x1), (2, .int x2), (3, .int x3)]) hx hb dX11_firstLook_36 hl (k := 4) rfl rfl (by decide) rfl (fun ls hl => ?_)
  refine lv_goto (tgt := 5) hx hb dX11_firstLook_39 (by decide) ?_
  exact hk4 a0 x1 x2 x3 (x4 + 1) S _ _ _ hw hE Ta0 (lv_sub hl [1, 2, 3, 4, 0] rfl) hm
def b_X11_firstLook_5 (n : Nat) : Nat → Nat → Int32 → Int32 → Int32 → Int32 → pq_S → Option (Int32 × pq_S)
  | 0, _, _, _, _, _, _ => none
  | f + 1, a0, x1, x2, x3, x4, S => if x2 < x4 then some (x3, S) else if x1 ≤ x4 then some (x3, S) else cb (m_X11_looksBehind n a0 x1 x4 S) fun r5 S_3 => cb (m_X11_looksBehind n a0 x1 x3 S_3) fun r9 S_7 => if r9 ≤ r5 then b_X11_firstLook_36 n (b_X11_firstLook_5 n f) a0 x1 x2 x3 x4 S_7 else b_X11_firstLook_36 n (b_X11_firstLook_5 n f) a0 x1 x2 x4 x4 S_7
set_option maxHeartbeats 4000000 in
set_option maxRecDepth 100000 in
theorem wb_X11_firstLook_5 {p : Program} {l : Launch} {e : Env} {s : State} {m : MethodId} {args : Array Value} {below : List Frame} {meth : Method} {c : Code} (cx : Cx p s m args meth c cX11_firstLook 5 RX11 (some .int)) (C : pq_C) (X : va_W) (S0 : pq_S) (n : Nat) (r : Int32) (S1 : pq_S) : ∀ (f : Nat) (a0 : Nat) (x1 : Int32) (x2 : Int32) (x3 : Int32) (x4 : Int32) (S : pq_S) (H : Heap) (locs : List Loc) (ls : Array Slot), PW C X S (pq_F C X S0 s.heap.size) H locs s → Ext S0 S → TY S a0 11 → lv_has ls 5 [(0, .ref a0), (1, .int x1), (2, .int x2), (3, .int x3), (4, .int x4)] → b_X11_firstLook_5 n f a0 x1 x2 x3 x4 S = some (r, S1) → W p l e rm_X11_firstLook s m args below meth c H locs 0 0 (MQ below (QcI C X S0 s.heap.size r S1) args s 0 0 (pq_F C X S0 s.heap.size)) (F0 m 5 ls []) := by
  obtain ⟨hx, hb, hml, hown, hU, hr, hlk⟩ := id cx
  intro f
  induction f with
  | zero =>
    intro a0 x1 x2 x3 x4 S H locs ls hw hE Ta0 hl hm
    cases hm
  | succ f ih =>
    intro a0 x1 x2 x3 x4 S H locs ls hw hE Ta0 hl hm
    rw [b_X11_firstLook_5] at hm
    refine lv_iload hx hb dX11_firstLook_5 (lv_at hl 4 rfl) ?_
    refine lv_iload_n hx hb dX11_firstLook_7 rfl (lv_at hl 2 rfl) ?_
    refine lv_icmp_gt (tgt := 42) hx hb dX11_firstLook_8 (by decide) (fun h1 => ?_) (fun h1 => ?_)
    · rw [if_pos h1] at hm
      refine lv_iload_n hx hb dX11_firstLook_42 rfl (lv_at hl 3 rfl) ?_
      cases hm
      exact pw_iret hx hb hr rfl hlk hw hE dX11_firstLook_43
    · rw [if_neg h1] at hm
      refine lv_iload hx hb dX11_firstLook_11 (lv_at hl 4 rfl) ?_
      refine lv_iload_n hx hb dX11_firstLook_13 rfl (lv_at hl 1 rfl) ?_
      refine lv_icmp_ge (tgt := 42) hx hb dX11_firstLook_14 (by decide) (fun h2 => ?_) (fun h2 => ?_)
      · rw [if_pos h2] at hm
        refine lv_iload_n hx hb dX11_firstLook_42 rfl (lv_at hl 3 rfl) ?_
        cases hm
        exact pw_iret hx hb hr rfl hlk hw hE dX11_firstLook_43
      · rw [if_neg h2] at hm
        refine lv_aload_n hx hb dX11_firstLook_17 rfl (lv_at hl 0 rfl) ?_
        refine lv_iload_n hx hb dX11_firstLook_18 rfl (lv_at hl 1 rfl) ?_
        refine lv_iload hx hb dX11_firstLook_19 (lv_at hl 4 rfl) ?_
        obtain ⟨r5, S_3, hq4, hm⟩ := cb_some hm
        refine pw_ci (va_runV (As := [.int x1, .int x4]) (rest := []) ⟨hx, hb, hml, hown, hU⟩ (c_X11_looksBehind l C X n S hw.wf _ a0 x1 x4 (Ta0) r5 S_3 hq4) (cwV 2 hU (pq_gV tw1266 tw1268 ts101 tw1 tc_X11_looksBehind) rfl rfl rfl cd_X11_looksBehind ⟨Nat.le_of_ble_eq_true rfl, Nat.le_of_ble_eq_true rfl⟩) (pw_preV hw Ta0 (by decide) rfl) rfl rfl hl.1 rfl (lv_room (Nat.le_of_ble_eq_true rfl)) dX11_firstLook_21 ⟨Nat.zero_le _, Nat.zero_le _⟩) hw (fun H locs hw hx6 => ?_)
        have Ta0 : TY S_3 a0 11 := ty_ext hx6 Ta0
        have hE : Ext S0 S_3 := Ext.tr hE hx6
        refine lv_aload_n hx hb dX11_firstLook_24 rfl (lv_at hl 0 rfl) ?_
        refine lv_iload_n hx hb dX11_firstLook_25 rfl (lv_at hl 1 rfl) ?_
        refine lv_iload_n hx hb dX11_firstLook_26 rfl (lv_at hl 3 rfl) ?_
        obtain ⟨r9, S_7, hq8, hm⟩ := cb_some hm
        refine pw_ci (va_runV (As := [.int x1, .int x3]) (rest := [.int r5]) ⟨hx, hb, hml, hown, hU⟩ (c_X11_looksBehind l C X n S_3 hw.wf _ a0 x1 x3 (Ta0) r9 S_7 hq8) (cwV 2 hU (pq_gV tw1266 tw1268 ts101 tw1 tc_X11_looksBehind) rfl rfl rfl cd_X11_looksBehind ⟨Nat.le_of_ble_eq_true rfl, Nat.le_of_ble_eq_true rfl⟩) (pw_preV hw Ta0 (by decide) rfl) rfl rfl hl.1 rfl (lv_room (Nat.le_of_ble_eq_true rfl)) dX11_firstLook_27 ⟨Nat.zero_le _, Nat.zero_le _⟩) hw (fun H locs hw hx10 => ?_)
        have Ta0 : TY S_7 a0 11 := ty_ext hx10 Ta0
        have hE : Ext S0 S_7 := Ext.tr hE hx10
        refine lv_icmp_ge (tgt := 36) hx hb dX11_firstLook_30 (by decide) (fun h11 => ?_) (fun h11 => ?_)
        · rw [if_pos h11] at hm
          exact wb_X11_firstLook_36 cx C X S0 n r S1 _ ih a0 x1 x2 x3 x4 S_7 _ _ _ hw hE Ta0 (lv_sub hl [0, 1, 2, 3, 4] rfl) hm
        · rw [if_neg h11] at hm
          refine lv_iload hx hb dX11_firstLook_33 (lv_at hl 4 rfl) ?_
          refine lv_istore_n (lv' := [(3, .int x4), (0, .ref a0), (1, .int x1), (2, .int x2), (4, .int x4)]) hx hb dX11_firstLook_35 rfl hl (by decide) rfl (fun ls hl => ?_)
          exact wb_X11_firstLook_36 cx C X S0 n r S1 _ ih a0 x1 x2 x4 x4 S_7 _ _ _ hw hE Ta0 (lv_sub hl [1, 2, 3, 0, 4] rfl) hm
def m_X11_firstLook (n : Nat) (a0 : Nat) (x1 : Int32) (x2 : Int32) (S0 : pq_S) : Option (Int32 × pq_S) := b_X11_firstLook_5 n n a0 x1 x2 1 2 S0
theorem tc_X11_firstLook : Cond.code yX11_firstLook cX11_firstLook 5 (some .int) ∈ pq_U := tw1265
theorem cd_X11_firstLook : yX11_firstLook.cls = RX11 ∧ yX11_firstLook.cls ≠ "java/lang/invoke/MethodHandle" ∧ yX11_firstLook.cls ≠ "java/lang/invoke/VarHandle" ∧ (parseMethodDescriptor yX11_firstLook.desc).map (fun d => d.parameters.length) = some 2 := by decide +kernel
set_option maxHeartbeats 4000000 in
set_option maxRecDepth 100000 in
theorem c_X11_firstLook (l : Launch) (C : pq_C) (X : va_W) (n : Nat) (S0 : pq_S) (hF : WF S0) (sz : Nat) (a0 : Nat) (x1 : Int32) (x2 : Int32) (Ta0 : TY S0 a0 11) (r : Int32) (S1 : pq_S) (hm : m_X11_firstLook n a0 x1 x2 S0 = some (r, S1)) : MI l yX11_firstLook (.code yX11_firstLook cX11_firstLook 5 (some .int) :: pq_U) rm_X11_firstLook C X S0 sz [.ref a0, .int x1, .int x2] r S1 0 0 := by
  refine Met.ofW (cc := cX11_firstLook) (maxL := 5) (ret := (some .int)) (by decide) rfl ?_
  intro p e s m args below meth c s₁ B hml hv
  obtain ⟨rfl, hv⟩ := hv
  have hsz := hv.1
  subst hsz
  have hw := pw_entry hF hv
  have hts := atoms_spec (ws := .code yX11_firstLook cX11_firstLook 5 (some .int) :: pq_U) B.pre
  have hU : ∀ w ∈ pq_U, w.before _ s = true := fun w h => hts w (List.mem_cons_of_mem _ h)
  have hx := B.exec
  have hb := B.bytes
  have hr := B.returns
  have hown : s.vm.findClass RX11 = some m.cls := findClass_of_methodNamed B.named
  have hlk := B.notSynchronized
  have hl := lv_entry ([.ref a0, .int x1, .int x2]) (n := 5) (Nat.le_of_ble_eq_true rfl)
  rw [lg_entry_eq]
  generalize (lg_sl ([.ref a0, .int x1, .int x2]) ++ List.replicate (5 - (lg_sl ([.ref a0, .int x1, .int x2])).length) Slot.unset).toArray = ls at hl ⊢
  have hl : lv_has ls 5 [(0, .ref a0), (1, .int x1), (2, .int x2)] := hl
  have hE : Ext S0 S0 := Ext.rf _
  have cx : Cx p s m _ meth c cX11_firstLook 5 RX11 (some .int) := ⟨hx, hb, hml, hown, hU, hr, hlk⟩
  rw [m_X11_firstLook] at hm
  refine lv_iconst (v := 1) hx hb dX11_firstLook_0 (by decide) ?_
  refine lv_istore_n (lv' := [(3, .int 1), (0, .ref a0), (1, .int x1), (2, .int x2)]) hx hb dX11_firstLook_1 rfl hl (by decide) rfl (fun ls hl => ?_)
  refine lv_iconst (v := 2) hx hb dX11_firstLook_2 (by decide) ?_
  refine lv_istore (lv' := [(4, .int 2), (3, .int 1), (0, .ref a0), (1, .int x1), (2, .int x2)]) hx hb dX11_firstLook_3 hl (by decide) rfl (fun ls hl => ?_)
  exact wb_X11_firstLook_5 cx C X S0 n r S1 n a0 x1 x2 1 2 S0 _ _ _ hw hE Ta0 (lv_sub hl [2, 3, 4, 1, 0] rfl) hm
abbrev rm_X12_law : Room := { frames := 71, cells := 0, slots := 0, locals := 1557 }
def b_X12_law_115 (n : Nat) : Nat → Nat → Int32 → Int32 → Int32 → pq_S → Option (Int32 × pq_S)
  | 0, _, _, _, _, _ => none
  | f + 1, a0, x1, x3, x4, S => if (pI S 1236 a0) ≤ x4 then some (x3, S) else Option.bind (pR S 1232 a0) fun q45 => Option.bind (pR S 1230 a0) fun q46 => ck (ix x4 (pN S q46)) (dix _ _) (ck (ix (((150 : Int32) * x1) + x4) (pN S q45)) (dix _ _) (lt_ (sA S q45 (Int32.toNatClampNeg (((150 : Int32) * x1) + x4)) (pA S q46 (Int32.toNatClampNeg x4))) fun S_49 => Option.bind (pR S_49 1233 a0) fun q50 => Option.bind (pR S_49 1231 a0) fun q51 => ck (ix x4 (pN S_49 q51)) (dix _ _) (ck (ix (((150 : Int32) * x1) + x4) (pN S_49 q50)) (dix _ _) (lt_ (sA S_49 q50 (Int32.toNatClampNeg (((150 : Int32) * x1) + x4)) (pA S_49 q51 (Int32.toNatClampNeg x4))) fun S_54 => b_X12_law_115 n f a0 x1 x3 (x4 + 1) S_54))))
set_option maxHeartbeats 4000000 in
set_option maxRecDepth 100000 in
theorem wb_X12_law_115 {p : Program} {l : Launch} {e : Env} {s : State} {m : MethodId} {args : Array Value} {below : List Frame} {meth : Method} {c : Code} (cx : Cx p s m args meth c cX12_law 5 RX12 (some .int)) (C : pq_C) (X : va_W) (S0 : pq_S) (n : Nat) (r : Int32) (S1 : pq_S) : ∀ (f : Nat) (a0 : Nat) (x1 : Int32) (x3 : Int32) (x4 : Int32) (S : pq_S) (H : Heap) (locs : List Loc) (ls : Array Slot), PW C X S (pq_F C X S0 s.heap.size) H locs s → Ext S0 S → TY S a0 12 → lv_has ls 5 [(0, .ref a0), (1, .int x1), (3, .int x3), (4, .int x4)] → b_X12_law_115 n f a0 x1 x3 x4 S = some (r, S1) → W p l e rm_X12_law s m args below meth c H locs 0 0 (MQ below (QcI C X S0 s.heap.size r S1) args s 0 0 (pq_F C X S0 s.heap.size)) (F0 m 115 ls []) := by
  obtain ⟨hx, hb, hml, hown, hU, hr, hlk⟩ := id cx
  intro f
  induction f with
  | zero =>
    intro a0 x1 x3 x4 S H locs ls hw hE Ta0 hl hm
    cases hm
  | succ f ih =>
    intro a0 x1 x3 x4 S H locs ls hw hE Ta0 hl hm
    rw [b_X12_law_115] at hm
    refine lv_iload hx hb dX12_law_115 (lv_at hl 3 rfl) ?_
    refine lv_aload_n hx hb dX12_law_117 rfl (lv_at hl 0 rfl) ?_
    refine pg_i (k := 12) (j := 36) (f := 1236) hx hb hown hU iu12 hw Ta0 (by decide) rfl (hU _ tw1507) rfl dX12_law_118 ?_
    refine lv_icmp_ge (tgt := 170) hx hb dX12_law_121 (by decide) (fun h44 => ?_) (fun h44 => ?_)
    · rw [if_pos h44] at hm
      refine lv_iload_n hx hb dX12_law_170 rfl (lv_at hl 2 rfl) ?_
      cases hm
      exact pw_iret hx hb hr rfl hlk hw hE dX12_law_171
    · rw [if_neg h44] at hm
      refine lv_aload_n hx hb dX12_law_124 rfl (lv_at hl 0 rfl) ?_
      obtain ⟨q45, hq45, hm⟩ := bd_some hm
      have Tq45 : TY S q45 14 := hw.wf.ref (k := 12) (j := 32) Ta0 (by decide) (by decide) hq45
      refine pg_rb (k := 12) (j := 32) (f := 1232) hx hb hown hU iu12 hw Ta0 (by decide) rfl (hU _ tw1503) rfl hq45 dX12_law_125 ?_
      refine lv_sipush (v := 150) hx hb dX12_law_128 (by decide) ?_
      refine lv_iload_n hx hb dX12_law_131 rfl (lv_at hl 1 rfl) ?_
      refine lv_imul hx hb dX12_law_132 ?_
      refine lv_iload hx hb dX12_law_133 (lv_at hl 3 rfl) ?_
      refine lv_iadd hx hb dX12_law_135 ?_
      refine lv_aload_n hx hb dX12_law_136 rfl (lv_at hl 0 rfl) ?_
      obtain ⟨q46, hq46, hm⟩ := bd_some hm
      have Tq46 : TY S q46 14 := hw.wf.ref (k := 12) (j := 30) Ta0 (by decide) (by decide) hq46
      refine pg_rb (k := 12) (j := 30) (f := 1230) hx hb hown hU iu12 hw Ta0 (by decide) rfl (hU _ tw1501) rfl hq46 dX12_law_137 ?_
      refine lv_iload hx hb dX12_law_140 (lv_at hl 3 rfl) ?_
      obtain ⟨hi47, hm⟩ := ck_some hm
      refine pw_iald hx hb hw Tq46 hi47 dX12_law_142 ?_
      obtain ⟨hi48, hm⟩ := ck_some hm
      refine pw_iast hx hb hw Tq45 hi48 dX12_law_143 (fun H locs hw => ?_)
      obtain ⟨S_49, eS_49, hm⟩ := lt_some hm
      rw [← eS_49] at hw
      have Ta0 : TY S_49 a0 12 := by rw [eS_49]; exact Ta0
      have hE : Ext S0 S_49 := by rw [eS_49]; exact hE
      refine lv_aload_n hx hb dX12_law_144 rfl (lv_at hl 0 rfl) ?_
      obtain ⟨q50, hq50, hm⟩ := bd_some hm
      have Tq50 : TY S_49 q50 14 := hw.wf.ref (k := 12) (j := 33) Ta0 (by decide) (by decide) hq50
      refine pg_rb (k := 12) (j := 33) (f := 1233) hx hb hown hU iu12 hw Ta0 (by decide) rfl (hU _ tw1504) rfl hq50 dX12_law_145 ?_
      refine lv_sipush (v := 150) hx hb dX12_law_148 (by decide) ?_
      refine lv_iload_n hx hb dX12_law_151 rfl (lv_at hl 1 rfl) ?_
      refine lv_imul hx hb dX12_law_152 ?_
      refine lv_iload hx hb dX12_law_153 (lv_at hl 3 rfl) ?_
      refine lv_iadd hx hb dX12_law_155 ?_
      refine lv_aload_n hx hb dX12_law_156 rfl (lv_at hl 0 rfl) ?_
      obtain ⟨q51, hq51, hm⟩ := bd_some hm
      have Tq51 : TY S_49 q51 14 := hw.wf.ref (k := 12) (j := 31) Ta0 (by decide) (by decide) hq51
      refine pg_rb (k := 12) (j := 31) (f := 1231) hx hb hown hU iu12 hw Ta0 (by decide) rfl (hU _ tw1502) rfl hq51 dX12_law_157 ?_
      refine lv_iload hx hb dX12_law_160 (lv_at hl 3 rfl) ?_
      obtain ⟨hi52, hm⟩ := ck_some hm
      refine pw_iald hx hb hw Tq51 hi52 dX12_law_162 ?_
      obtain ⟨hi53, hm⟩ := ck_some hm
      refine pw_iast hx hb hw Tq50 hi53 dX12_law_163 (fun H locs hw => ?_)
      obtain ⟨S_54, eS_54, hm⟩ := lt_some hm
      rw [← eS_54] at hw
      have Ta0 : TY S_54 a0 12 := by rw [eS_54]; exact Ta0
      have hE : Ext S0 S_54 := by rw [eS_54]; exact hE
      refine lv_iinc (v := (x4 + 1)) (lv' := [(4, .int (x4 + 1)), (0, .ref a0), (1, .int x1), (3, .int x3)]) hx hb dX12_law_164 hl (k := 3) rfl rfl (by decide) rfl (fun ls hl => ?_)
      refine lv_goto (tgt := 115) hx hb dX12_law_167 (by decide) ?_
      exact ih a0 x1 x3 (x4 + 1) S_54 _ _ _ hw hE Ta0 (lv_sub hl [1, 2, 3, 0] rfl) hm
def b_X12_law_86 (n : Nat) (a0 : Nat) (x1 : Int32) (S : pq_S) : Option (Int32 × pq_S) := cb (m_X12_result n a0 1 S) fun r39 S_37 => if (pI S_37 1205 a0) = (-1) then Option.bind (pR S_37 1234 a0) fun q42 => ck (ix x1 (pN S_37 q42)) (dix _ _) (b_X12_law_115 n n a0 x1 r39 0 (sA S_37 q42 (Int32.toNatClampNeg x1) (pI S_37 1236 a0))) else some (r39, S_37)
set_option maxHeartbeats 4000000 in
set_option maxRecDepth 100000 in
theorem wb_X12_law_86 {p : Program} {l : Launch} {e : Env} {s : State} {m : MethodId} {args : Array Value} {below : List Frame} {meth : Method} {c : Code} (cx : Cx p s m args meth c cX12_law 5 RX12 (some .int)) (C : pq_C) (X : va_W) (S0 : pq_S) (n : Nat) (r : Int32) (S1 : pq_S) : ∀ (a0 : Nat) (x1 : Int32) (S : pq_S) (H : Heap) (locs : List Loc) (ls : Array Slot), PW C X S (pq_F C X S0 s.heap.size) H locs s → Ext S0 S → TY S a0 12 → lv_has ls 5 [(0, .ref a0), (1, .int x1)] → b_X12_law_86 n a0 x1 S = some (r, S1) → W p l e rm_X12_law s m args below meth c H locs 0 0 (MQ below (QcI C X S0 s.heap.size r S1) args s 0 0 (pq_F C X S0 s.heap.size)) (F0 m 86 ls []) := by
  obtain ⟨hx, hb, hml, hown, hU, hr, hlk⟩ := id cx
  intro a0 x1 S H locs ls hw hE Ta0 hl hm
  rw [b_X12_law_86] at hm
  refine lv_aload_n hx hb dX12_law_86 rfl (lv_at hl 0 rfl) ?_
  refine lv_iconst (v := 1) hx hb dX12_law_87 (by decide) ?_
  obtain ⟨r39, S_37, hq38, hm⟩ := cb_some hm
  refine pw_ci (va_runV (As := [.int 1]) (rest := []) ⟨hx, hb, hml, hown, hU⟩ (c_X12_result l C X n S hw.wf _ a0 1 (Ta0) r39 S_37 hq38) (cwV 1 hU (pq_gV tw1768 tw1770 ts135 tw14 tc_X12_result) rfl rfl rfl cd_X12_result ⟨Nat.le_of_ble_eq_true rfl, Nat.le_of_ble_eq_true rfl⟩) (pw_preV hw Ta0 (by decide) rfl) rfl rfl hl.1 rfl (lv_room (Nat.le_of_ble_eq_true rfl)) dX12_law_88 ⟨Nat.zero_le _, Nat.zero_le _⟩) hw (fun H locs hw hx40 => ?_)
  have Ta0 : TY S_37 a0 12 := ty_ext hx40 Ta0
  have hE : Ext S0 S_37 := Ext.tr hE hx40
  refine lv_istore_n (lv' := [(3, .int r39), (0, .ref a0), (1, .int x1)]) hx hb dX12_law_91 rfl hl (by decide) rfl (fun ls hl => ?_)
  refine lv_aload_n hx hb dX12_law_92 rfl (lv_at hl 1 rfl) ?_
  refine pg_i (k := 12) (j := 5) (f := 1205) hx hb hown hU iu12 hw Ta0 (by decide) rfl (hU _ tw1476) rfl dX12_law_93 ?_
  refine lv_iconst (v := (-1)) hx hb dX12_law_96 (by decide) ?_
  refine lv_icmp_eq (tgt := 102) hx hb dX12_law_97 (by decide) (fun h41 => ?_) (fun h41 => ?_)
  · rw [if_pos h41] at hm
    refine lv_aload_n hx hb dX12_law_102 rfl (lv_at hl 1 rfl) ?_
    obtain ⟨q42, hq42, hm⟩ := bd_some hm
    have Tq42 : TY S_37 q42 14 := hw.wf.ref (k := 12) (j := 34) Ta0 (by decide) (by decide) hq42
    refine pg_rb (k := 12) (j := 34) (f := 1234) hx hb hown hU iu12 hw Ta0 (by decide) rfl (hU _ tw1505) rfl hq42 dX12_law_103 ?_
    refine lv_iload_n hx hb dX12_law_106 rfl (lv_at hl 2 rfl) ?_
    refine lv_aload_n hx hb dX12_law_107 rfl (lv_at hl 1 rfl) ?_
    refine pg_i (k := 12) (j := 36) (f := 1236) hx hb hown hU iu12 hw Ta0 (by decide) rfl (hU _ tw1507) rfl dX12_law_108 ?_
    obtain ⟨hi43, hm⟩ := ck_some hm
    refine pw_iast hx hb hw Tq42 hi43 dX12_law_111 (fun H locs hw => ?_)
    refine lv_iconst (v := 0) hx hb dX12_law_112 (by decide) ?_
    refine lv_istore (lv' := [(4, .int 0), (3, .int r39), (0, .ref a0), (1, .int x1)]) hx hb dX12_law_113 hl (by decide) rfl (fun ls hl => ?_)
    exact wb_X12_law_115 cx C X S0 n r S1 n a0 x1 r39 0 (sA S_37 q42 (Int32.toNatClampNeg x1) (pI S_37 1236 a0)) _ _ _ hw hE Ta0 (lv_sub hl [2, 3, 1, 0] rfl) hm
  · rw [if_neg h41] at hm
    refine lv_iload_n hx hb dX12_law_100 rfl (lv_at hl 0 rfl) ?_
    cases hm
    exact pw_iret hx hb hr rfl hlk hw hE dX12_law_101
def b_X12_law_39 (n : Nat) (a0 : Nat) (x1 : Int32) (x2 : Int32) (b0 : Nat) (z1 : Int32) (S : pq_S) : Option (Int32 × pq_S) := cb (m_X12_may n b0 z1 1 1 S) fun r12 S_10 => if r12 = 0 then some (0, S_10) else Option.bind (m_X12_begins n a0 x2 S_10) fun S_16 => Option.bind (m_X12_readSum n a0 (sI S_16 1236 a0 0)) fun S_19 => cb (m_X12_fine n a0 S_19) fun r24 S_22 => if r24 = 0 then b_X12_law_86 n a0 x1 S_22 else cb (m_X12_isMore n a0 S_22) fun r30 S_28 => if r30 = 0 then b_X12_law_86 n a0 x1 S_28 else Option.bind (m_X12_wrong n a0 1 (pI S_28 1204 a0) S_28) fun S_34 => b_X12_law_86 n a0 x1 S_34
set_option maxHeartbeats 4000000 in
set_option maxRecDepth 100000 in
theorem wb_X12_law_39 {p : Program} {l : Launch} {e : Env} {s : State} {m : MethodId} {args : Array Value} {below : List Frame} {meth : Method} {c : Code} (cx : Cx p s m args meth c cX12_law 5 RX12 (some .int)) (C : pq_C) (X : va_W) (S0 : pq_S) (n : Nat) (r : Int32) (S1 : pq_S) : ∀ (a0 : Nat) (x1 : Int32) (x2 : Int32) (b0 : Nat) (z1 : Int32) (S : pq_S) (H : Heap) (locs : List Loc) (ls : Array Slot), PW C X S (pq_F C X S0 s.heap.size) H locs s → Ext S0 S → TY S a0 12 → TY S b0 12 → lv_has ls 5 [(0, .ref a0), (1, .int x1), (2, .int x2)] → b_X12_law_39 n a0 x1 x2 b0 z1 S = some (r, S1) → W p l e rm_X12_law s m args below meth c H locs 0 0 (MQ below (QcI C X S0 s.heap.size r S1) args s 0 0 (pq_F C X S0 s.heap.size)) (F0 m 39 ls [.int z1, .ref b0]) := by
  obtain ⟨hx, hb, hml, hown, hU, hr, hlk⟩ := id cx
  intro a0 x1 x2 b0 z1 S H locs ls hw hE Ta0 Tb0 hl hm
  rw [b_X12_law_39] at hm
  refine lv_iconst (v := 1) hx hb dX12_law_39 (by decide) ?_
  refine lv_iconst (v := 1) hx hb dX12_law_40 (by decide) ?_
  obtain ⟨r12, S_10, hq11, hm⟩ := cb_some hm
  refine pw_cz (va_runV (As := [.int z1, .int 1, .int 1]) (rest := []) ⟨hx, hb, hml, hown, hU⟩ (c_X12_may l C X n S hw.wf _ b0 z1 1 1 (Tb0) r12 S_10 hq11) (cwV 3 hU (pq_gV tw1703 tw1705 ts123 tw14 tc_X12_may) rfl rfl rfl cd_X12_may ⟨Nat.le_of_ble_eq_true rfl, Nat.le_of_ble_eq_true rfl⟩) (pw_preV hw Tb0 (by decide) rfl) rfl rfl hl.1 rfl (lv_room (Nat.le_of_ble_eq_true rfl)) dX12_law_41 ⟨Nat.zero_le _, Nat.zero_le _⟩) hw (fun H locs hw hx13 hz14 => ?_)
  have Ta0 : TY S_10 a0 12 := ty_ext hx13 Ta0
  have hE : Ext S0 S_10 := Ext.tr hE hx13
  refine lv_if_ne (tgt := 49) hx hb dX12_law_44 (by decide) (fun h15 => ?_) (fun h15 => ?_)
  · rw [if_neg h15] at hm
    refine lv_aload_n hx hb dX12_law_49 rfl (lv_at hl 0 rfl) ?_
    refine lv_iload_n hx hb dX12_law_50 rfl (lv_at hl 2 rfl) ?_
    obtain ⟨S_16, hq17, hm⟩ := bd_some hm
    refine pw_cv (va_runV (As := [.int x2]) (rest := []) ⟨hx, hb, hml, hown, hU⟩ (c_X12_begins l C X n S_10 hw.wf _ a0 x2 (Ta0) S_16 hq17) (cwV 1 hU (pq_gV tw1707 tw1709 ts124 tw14 tc_X12_begins) rfl rfl rfl cd_X12_begins ⟨Nat.le_of_ble_eq_true rfl, Nat.le_of_ble_eq_true rfl⟩) (pw_preV hw Ta0 (by decide) rfl) rfl rfl hl.1 rfl (lv_room (Nat.le_of_ble_eq_true rfl)) dX12_law_51 ⟨Nat.zero_le _, Nat.zero_le _⟩) hw (fun H locs hw hx18 => ?_)
    have Ta0 : TY S_16 a0 12 := ty_ext hx18 Ta0
    have hE : Ext S0 S_16 := Ext.tr hE hx18
    refine lv_aload_n hx hb dX12_law_54 rfl (lv_at hl 0 rfl) ?_
    refine lv_iconst (v := 0) hx hb dX12_law_55 (by decide) ?_
    refine pp_i (k := 12) (j := 36) (f := 1236) hx hb hown hU iu12 tyX12_ok nmX12 hw Ta0 (by decide) rfl (hU _ tw1507) rfl rfl rfl dX12_law_56 (fun H locs hw => ?_)
    refine lv_aload_n hx hb dX12_law_59 rfl (lv_at hl 0 rfl) ?_
    obtain ⟨S_19, hq20, hm⟩ := bd_some hm
    refine pw_cv (va_runV (As := []) (rest := []) ⟨hx, hb, hml, hown, hU⟩ (c_X12_readSum l C X n (sI S_16 1236 a0 0) hw.wf _ a0 (Ta0) S_19 hq20) (cwV 0 hU (pq_gV tw1779 tw1781 ts136 tw14 tc_X12_readSum) rfl rfl rfl cd_X12_readSum ⟨Nat.le_of_ble_eq_true rfl, Nat.le_of_ble_eq_true rfl⟩) (pw_preV hw Ta0 (by decide) rfl) rfl rfl hl.1 rfl (lv_room (Nat.le_of_ble_eq_true rfl)) dX12_law_60 ⟨Nat.zero_le _, Nat.zero_le _⟩) hw (fun H locs hw hx21 => ?_)
    have Ta0 : TY S_19 a0 12 := ty_ext hx21 Ta0
    have hE : Ext S0 S_19 := Ext.tr hE hx21
    refine lv_aload_n hx hb dX12_law_63 rfl (lv_at hl 0 rfl) ?_
    obtain ⟨r24, S_22, hq23, hm⟩ := cb_some hm
    refine pw_cz (va_runV (As := []) (rest := []) ⟨hx, hb, hml, hown, hU⟩ (c_X12_fine l C X n S_19 hw.wf _ a0 (Ta0) r24 S_22 hq23) (cwV 0 hU (pq_gV tw1711 tw1713 ts125 tw14 tc_X12_fine) rfl rfl rfl cd_X12_fine ⟨Nat.le_of_ble_eq_true rfl, Nat.le_of_ble_eq_true rfl⟩) (pw_preV hw Ta0 (by decide) rfl) rfl rfl hl.1 rfl (lv_room (Nat.le_of_ble_eq_true rfl)) dX12_law_64 ⟨Nat.zero_le _, Nat.zero_le _⟩) hw (fun H locs hw hx25 hz26 => ?_)
    have Ta0 : TY S_22 a0 12 := ty_ext hx25 Ta0
    have hE : Ext S0 S_22 := Ext.tr hE hx25
    refine lv_if_eq (tgt := 86) hx hb dX12_law_67 (by decide) (fun h27 => ?_) (fun h27 => ?_)
    · rw [if_pos h27] at hm
      exact wb_X12_law_86 cx C X S0 n r S1 a0 x1 S_22 _ _ _ hw hE Ta0 (lv_sub hl [0, 1] rfl) hm
    · rw [if_neg h27] at hm
      refine lv_aload_n hx hb dX12_law_70 rfl (lv_at hl 0 rfl) ?_
      obtain ⟨r30, S_28, hq29, hm⟩ := cb_some hm
      refine pw_cz (va_runV (As := []) (rest := []) ⟨hx, hb, hml, hown, hU⟩ (c_X12_isMore l C X n S_22 hw.wf _ a0 (Ta0) r30 S_28 hq29) (cwV 0 hU (pq_gV tw1715 tw1717 ts126 tw14 tc_X12_isMore) rfl rfl rfl cd_X12_isMore ⟨Nat.le_of_ble_eq_true rfl, Nat.le_of_ble_eq_true rfl⟩) (pw_preV hw Ta0 (by decide) rfl) rfl rfl hl.1 rfl (lv_room (Nat.le_of_ble_eq_true rfl)) dX12_law_71 ⟨Nat.zero_le _, Nat.zero_le _⟩) hw (fun H locs hw hx31 hz32 => ?_)
      have Ta0 : TY S_28 a0 12 := ty_ext hx31 Ta0
      have hE : Ext S0 S_28 := Ext.tr hE hx31
      refine lv_if_eq (tgt := 86) hx hb dX12_law_74 (by decide) (fun h33 => ?_) (fun h33 => ?_)
      · rw [if_pos h33] at hm
        exact wb_X12_law_86 cx C X S0 n r S1 a0 x1 S_28 _ _ _ hw hE Ta0 (lv_sub hl [0, 1] rfl) hm
      · rw [if_neg h33] at hm
        refine lv_aload_n hx hb dX12_law_77 rfl (lv_at hl 0 rfl) ?_
        refine lv_iconst (v := 1) hx hb dX12_law_78 (by decide) ?_
        refine lv_aload_n hx hb dX12_law_79 rfl (lv_at hl 0 rfl) ?_
        refine pg_i (k := 12) (j := 4) (f := 1204) hx hb hown hU iu12 hw Ta0 (by decide) rfl (hU _ tw1475) rfl dX12_law_80 ?_
        obtain ⟨S_34, hq35, hm⟩ := bd_some hm
        refine pw_cv (va_runV (As := [.int 1, .int (pI S_28 1204 a0)]) (rest := []) ⟨hx, hb, hml, hown, hU⟩ (c_X12_wrong l C X n S_28 hw.wf _ a0 1 (pI S_28 1204 a0) (Ta0) S_34 hq35) (cwV 2 hU (pq_gV tw1741 tw1743 ts129 tw14 tc_X12_wrong) rfl rfl rfl cd_X12_wrong ⟨Nat.le_of_ble_eq_true rfl, Nat.le_of_ble_eq_true rfl⟩) (pw_preV hw Ta0 (by decide) rfl) rfl rfl hl.1 rfl (lv_room (Nat.le_of_ble_eq_true rfl)) dX12_law_83 ⟨Nat.zero_le _, Nat.zero_le _⟩) hw (fun H locs hw hx36 => ?_)
        have Ta0 : TY S_34 a0 12 := ty_ext hx36 Ta0
        have hE : Ext S0 S_34 := Ext.tr hE hx36
        exact wb_X12_law_86 cx C X S0 n r S1 a0 x1 S_34 _ _ _ hw hE Ta0 (lv_sub hl [0, 1] rfl) hm
  · rw [if_pos h15] at hm
    refine lv_iconst (v := 0) hx hb dX12_law_47 (by decide) ?_
    cases hm
    exact pw_iret hx hb hr rfl hlk hw hE dX12_law_48
def b_X12_law_38 (n : Nat) (a0 : Nat) (x1 : Int32) (x2 : Int32) (b0 : Nat) (S : pq_S) : Option (Int32 × pq_S) := b_X12_law_39 n a0 x1 x2 b0 0 S
set_option maxHeartbeats 4000000 in
set_option maxRecDepth 100000 in
theorem wb_X12_law_38 {p : Program} {l : Launch} {e : Env} {s : State} {m : MethodId} {args : Array Value} {below : List Frame} {meth : Method} {c : Code} (cx : Cx p s m args meth c cX12_law 5 RX12 (some .int)) (C : pq_C) (X : va_W) (S0 : pq_S) (n : Nat) (r : Int32) (S1 : pq_S) : ∀ (a0 : Nat) (x1 : Int32) (x2 : Int32) (b0 : Nat) (S : pq_S) (H : Heap) (locs : List Loc) (ls : Array Slot), PW C X S (pq_F C X S0 s.heap.size) H locs s → Ext S0 S → TY S a0 12 → TY S b0 12 → lv_has ls 5 [(0, .ref a0), (1, .int x1), (2, .int x2)] → b_X12_law_38 n a0 x1 x2 b0 S = some (r, S1) → W p l e rm_X12_law s m args below meth c H locs 0 0 (MQ below (QcI C X S0 s.heap.size r S1) args s 0 0 (pq_F C X S0 s.heap.size)) (F0 m 38 ls [.ref b0]) := by
  obtain ⟨hx, hb, hml, hown, hU, hr, hlk⟩ := id cx
  intro a0 x1 x2 b0 S H locs ls hw hE Ta0 Tb0 hl hm
  rw [b_X12_law_38] at hm
  refine lv_iconst (v := 0) hx hb dX12_law_38 (by decide) ?_
  exact wb_X12_law_39 cx C X S0 n r S1 a0 x1 x2 b0 0 S _ _ _ hw hE Ta0 Tb0 (lv_sub hl [0, 1, 2] rfl) hm
def m_X12_law (n : Nat) (a0 : Nat) (x1 : Int32) (x2 : Int32) (S0 : pq_S) : Option (Int32 × pq_S) := cb (m_X12_within n x1 0 1 (sI S0 1200 a0 0)) fun r3 S_1 => if r3 = 0 then b_X12_law_38 n a0 x1 x2 a0 S_1 else if x2 < 0 then b_X12_law_38 n a0 x1 x2 a0 S_1 else if (pI S_1 1202 a0) < x2 then b_X12_law_38 n a0 x1 x2 a0 S_1 else if 150 < x2 then b_X12_law_38 n a0 x1 x2 a0 S_1 else b_X12_law_39 n a0 x1 x2 a0 1 S_1
theorem tc_X12_law : Cond.code yX12_law cX12_law 5 (some .int) ∈ pq_U := tw1775
theorem cd_X12_law : yX12_law.cls = RX12 ∧ yX12_law.cls ≠ "java/lang/invoke/MethodHandle" ∧ yX12_law.cls ≠ "java/lang/invoke/VarHandle" ∧ (parseMethodDescriptor yX12_law.desc).map (fun d => d.parameters.length) = some 2 := by decide +kernel
set_option maxHeartbeats 4000000 in
set_option maxRecDepth 100000 in
theorem c_X12_law (l : Launch) (C : pq_C) (X : va_W) (n : Nat) (S0 : pq_S) (hF : WF S0) (sz : Nat) (a0 : Nat) (x1 : Int32) (x2 : Int32) (Ta0 : TY S0 a0 12) (r : Int32) (S1 : pq_S) (hm : m_X12_law n a0 x1 x2 S0 = some (r, S1)) : MI l yX12_law (.code yX12_law cX12_law 5 (some .int) :: pq_U) rm_X12_law C X S0 sz [.ref a0, .int x1, .int x2] r S1 0 0 := by
  refine Met.ofW (cc := cX12_law) (maxL := 5) (ret := (some .int)) (by decide) rfl ?_
  intro p e s m args below meth c s₁ B hml hv
  obtain ⟨rfl, hv⟩ := hv
  have hsz := hv.1
  subst hsz
  have hw := pw_entry hF hv
  have hts := atoms_spec (ws := .code yX12_law cX12_law 5 (some .int) :: pq_U) B.pre
  have hU : ∀ w ∈ pq_U, w.before _ s = true := fun w h => hts w (List.mem_cons_of_mem _ h)
  have hx := B.exec
  have hb := B.bytes
  have hr := B.returns
  have hown : s.vm.findClass RX12 = some m.cls := findClass_of_methodNamed B.named
  have hlk := B.notSynchronized
  have hl := lv_entry ([.ref a0, .int x1, .int x2]) (n := 5) (Nat.le_of_ble_eq_true rfl)
  rw [lg_entry_eq]
  generalize (lg_sl ([.ref a0, .int x1, .int x2]) ++ List.replicate (5 - (lg_sl ([.ref a0, .int x1, .int x2])).length) Slot.unset).toArray = ls at hl ⊢
  have hl : lv_has ls 5 [(0, .ref a0), (1, .int x1), (2, .int x2)] := hl
  have hE : Ext S0 S0 := Ext.rf _
  have cx : Cx p s m _ meth c cX12_law 5 RX12 (some .int) := ⟨hx, hb, hml, hown, hU, hr, hlk⟩
  rw [m_X12_law] at hm
  refine lv_aload_n hx hb dX12_law_0 rfl (lv_at hl 0 rfl) ?_
  refine lv_iconst (v := 0) hx hb dX12_law_1 (by decide) ?_
  refine pp_i (k := 12) (j := 0) (f := 1200) hx hb hown hU iu12 tyX12_ok nmX12 hw Ta0 (by decide) rfl (hU _ tw1471) rfl rfl rfl dX12_law_2 (fun H locs hw => ?_)
  refine lv_aload_n hx hb dX12_law_5 rfl (lv_at hl 0 rfl) ?_
  refine lv_iload_n hx hb dX12_law_6 rfl (lv_at hl 1 rfl) ?_
  refine lv_iconst (v := 0) hx hb dX12_law_7 (by decide) ?_
  refine lv_iconst (v := 1) hx hb dX12_law_8 (by decide) ?_
  obtain ⟨r3, S_1, hq2, hm⟩ := cb_some hm
  refine pw_cz (va_runS (As := [.int x1, .int 0, .int 1]) (rest := [.ref a0]) ⟨hx, hb, hml, hown, hU⟩ (c_X12_within l C X n (sI S0 1200 a0 0) hw.wf _ x1 0 1  r3 S_1 hq2) ⟨callB_of 3 hU (pq_g1 tc_X12_within) rfl rfl rfl (hU _ tw14) (hU _ tw1776) cd_X12_within.2 ⟨Nat.le_of_ble_eq_true rfl, Nat.le_of_ble_eq_true rfl⟩, hU _ tw1777⟩ (pw_preS hw) rfl rfl hl.1 rfl (lv_room (Nat.le_of_ble_eq_true rfl)) dX12_law_9 ⟨Nat.zero_le _, Nat.zero_le _⟩) hw (fun H locs hw hx4 hz5 => ?_)
  have Ta0 : TY S_1 a0 12 := ty_ext hx4 Ta0
  have hE : Ext S0 S_1 := Ext.tr hE hx4
  refine lv_if_eq (tgt := 38) hx hb dX12_law_12 (by decide) (fun h6 => ?_) (fun h6 => ?_)
  · rw [if_pos h6] at hm
    exact wb_X12_law_38 cx C X S0 n r S1 a0 x1 x2 a0 S_1 _ _ _ hw hE Ta0 Ta0 (lv_sub hl [0, 1, 2] rfl) hm
  · rw [if_neg h6] at hm
    refine lv_iload_n hx hb dX12_law_15 rfl (lv_at hl 2 rfl) ?_
    refine lv_if_lt (tgt := 38) hx hb dX12_law_16 (by decide) (fun h7 => ?_) (fun h7 => ?_)
    · rw [if_pos h7] at hm
      exact wb_X12_law_38 cx C X S0 n r S1 a0 x1 x2 a0 S_1 _ _ _ hw hE Ta0 Ta0 (lv_sub hl [0, 1, 2] rfl) hm
    · rw [if_neg h7] at hm
      refine lv_iload_n hx hb dX12_law_19 rfl (lv_at hl 2 rfl) ?_
      refine lv_aload_n hx hb dX12_law_20 rfl (lv_at hl 0 rfl) ?_
      refine pg_i (k := 12) (j := 2) (f := 1202) hx hb hown hU iu12 hw Ta0 (by decide) rfl (hU _ tw1473) rfl dX12_law_21 ?_
      refine lv_icmp_gt (tgt := 38) hx hb dX12_law_24 (by decide) (fun h8 => ?_) (fun h8 => ?_)
      · rw [if_pos h8] at hm
        exact wb_X12_law_38 cx C X S0 n r S1 a0 x1 x2 a0 S_1 _ _ _ hw hE Ta0 Ta0 (lv_sub hl [0, 1, 2] rfl) hm
      · rw [if_neg h8] at hm
        refine lv_iload_n hx hb dX12_law_27 rfl (lv_at hl 2 rfl) ?_
        refine lv_sipush (v := 150) hx hb dX12_law_28 (by decide) ?_
        refine lv_icmp_gt (tgt := 38) hx hb dX12_law_31 (by decide) (fun h9 => ?_) (fun h9 => ?_)
        · rw [if_pos h9] at hm
          exact wb_X12_law_38 cx C X S0 n r S1 a0 x1 x2 a0 S_1 _ _ _ hw hE Ta0 Ta0 (lv_sub hl [0, 1, 2] rfl) hm
        · rw [if_neg h9] at hm
          refine lv_iconst (v := 1) hx hb dX12_law_34 (by decide) ?_
          refine lv_goto (tgt := 39) hx hb dX12_law_35 (by decide) ?_
          exact wb_X12_law_39 cx C X S0 n r S1 a0 x1 x2 a0 1 S_1 _ _ _ hw hE Ta0 Ta0 (lv_sub hl [0, 1, 2] rfl) hm
abbrev rm_X12_valueOf : Room := { frames := 1, cells := 0, slots := 0, locals := 22 }
def b_X12_valueOf_111 (n : Nat) (a0 : Nat) (S : pq_S) : Option (Int32 × pq_S) := Option.bind (pR S 1235 a0) fun q26 => ck (ix 0 (pN S q26)) (dix _ _) (some ((pA S q26 (Int32.toNatClampNeg 0)), S))
set_option maxHeartbeats 4000000 in
set_option maxRecDepth 100000 in
theorem wb_X12_valueOf_111 {p : Program} {l : Launch} {e : Env} {s : State} {m : MethodId} {args : Array Value} {below : List Frame} {meth : Method} {c : Code} (cx : Cx p s m args meth c cX12_valueOf 5 RX12 (some .int)) (C : pq_C) (X : va_W) (S0 : pq_S) (n : Nat) (r : Int32) (S1 : pq_S) : ∀ (a0 : Nat) (S : pq_S) (H : Heap) (locs : List Loc) (ls : Array Slot), PW C X S (pq_F C X S0 s.heap.size) H locs s → Ext S0 S → TY S a0 12 → lv_has ls 5 [(0, .ref a0)] → b_X12_valueOf_111 n a0 S = some (r, S1) → W p l e rm_X12_valueOf s m args below meth c H locs 0 0 (MQ below (QcI C X S0 s.heap.size r S1) args s 0 0 (pq_F C X S0 s.heap.size)) (F0 m 111 ls []) := by
  obtain ⟨hx, hb, hml, hown, hU, hr, hlk⟩ := id cx
  intro a0 S H locs ls hw hE Ta0 hl hm
  rw [b_X12_valueOf_111] at hm
  refine lv_aload_n hx hb dX12_valueOf_111 rfl (lv_at hl 0 rfl) ?_
  obtain ⟨q26, hq26, hm⟩ := bd_some hm
  have Tq26 : TY S q26 14 := hw.wf.ref (k := 12) (j := 35) Ta0 (by decide) (by decide) hq26
  refine pg_rb (k := 12) (j := 35) (f := 1235) hx hb hown hU iu12 hw Ta0 (by decide) rfl (hU _ tw1506) rfl hq26 dX12_valueOf_112 ?_
  refine lv_iconst (v := 0) hx hb dX12_valueOf_115 (by decide) ?_
  obtain ⟨hi27, hm⟩ := ck_some hm
  refine pw_iald hx hb hw Tq26 hi27 dX12_valueOf_116 ?_
  cases hm
  exact pw_iret hx hb hr rfl hlk hw hE dX12_valueOf_117
def b_X12_valueOf_105 (n : Nat) (k6 : Nat → Int32 → Int32 → Int32 → pq_S → Option (Int32 × pq_S)) (a0 : Nat) (x1 : Int32) (x2 : Int32) (x3 : Int32) (S : pq_S) : Option (Int32 × pq_S) := k6 a0 x1 x2 (x3 + 1) S
set_option maxHeartbeats 4000000 in
set_option maxRecDepth 100000 in
theorem wb_X12_valueOf_105 {p : Program} {l : Launch} {e : Env} {s : State} {m : MethodId} {args : Array Value} {below : List Frame} {meth : Method} {c : Code} (cx : Cx p s m args meth c cX12_valueOf 5 RX12 (some .int)) (C : pq_C) (X : va_W) (S0 : pq_S) (n : Nat) (r : Int32) (S1 : pq_S) (k6 : Nat → Int32 → Int32 → Int32 → pq_S → Option (Int32 × pq_S)) (hk6 : ∀ (a0 : Nat) (x1 : Int32) (x2 : Int32) (x3 : Int32) (S : pq_S) (H : Heap) (locs : List Loc) (ls : Array Slot), PW C X S (pq_F C X S0 s.heap.size) H locs s → Ext S0 S → TY S a0 12 → lv_has ls 5 [(0, .ref a0), (1, .int x1), (2, .int x2), (3, .int x3)] → k6 a0 x1 x2 x3 S = some (r, S1) → W p l e rm_X12_valueOf s m args below meth c H locs 0 0 (MQ below (QcI C X S0 s.heap.size r S1) args s 0 0 (pq_F C X S0 s.heap.size)) (F0 m 8 ls [])) : ∀ (a0 : Nat) (x1 : Int32) (x2 : Int32) (x3 : Int32) (S : pq_S) (H : Heap) (locs : List Loc) (ls : Array Slot), PW C X S (pq_F C X S0 s.heap.size) H locs s → Ext S0 S → TY S a0 12 → lv_has ls 5 [(0, .ref a0), (1, .int x1), (2, .int x2), (3, .int x3)] → b_X12_valueOf_105 n k6 a0 x1 x2 x3 S = some (r, S1) → W p l e rm_X12_valueOf s m args below meth c H locs 0 0 (MQ below (QcI C X S0 s.heap.size r S1) args s 0 0 (pq_F C X S0 s.heap.size)) (F0 m 105 ls []) := by
  obtain ⟨hx, hb, hml, hown, hU, hr, hlk⟩ := id cx
  intro a0 x1 x2 x3 S H locs ls hw hE Ta0 hl hm
  rw [b_X12_valueOf_105] at hm
  refine lv_iinc (v := (x3 + 1)) (lv' := [(3, .int (x3 + 1)), (0, .ref a0), (1, .int x1), (2, .int x2)]) hx hb dX12_valueOf_105 hl (k := 3) rfl rfl (by decide) rfl (fun ls hl => ?_)
  refine lv_goto (tgt := 8) hx hb dX12_valueOf_108 (by decide) ?_
  exact hk6 a0 x1 x2 (x3 + 1) S _ _ _ hw hE Ta0 (lv_sub hl [1, 2, 3, 0] rfl) hm
def b_X12_valueOf_68 (n : Nat) (k6 : Nat → Int32 → Int32 → Int32 → pq_S → Option (Int32 × pq_S)) (a0 : Nat) (x1 : Int32) (x2 : Int32) (x3 : Int32) (b0 : Nat) (z1 : Int32) (z2 : Int32) (S : pq_S) : Option (Int32 × pq_S) := ck (ix z1 (pN S b0)) (dix _ _) (b_X12_valueOf_105 n k6 a0 x1 (x2 + 1) x3 (sA S b0 (Int32.toNatClampNeg z1) z2))
set_option maxHeartbeats 4000000 in
set_option maxRecDepth 100000 in
theorem wb_X12_valueOf_68 {p : Program} {l : Launch} {e : Env} {s : State} {m : MethodId} {args : Array Value} {below : List Frame} {meth : Method} {c : Code} (cx : Cx p s m args meth c cX12_valueOf 5 RX12 (some .int)) (C : pq_C) (X : va_W) (S0 : pq_S) (n : Nat) (r : Int32) (S1 : pq_S) (k6 : Nat → Int32 → Int32 → Int32 → pq_S → Option (Int32 × pq_S)) (hk6 : ∀ (a0 : Nat) (x1 : Int32) (x2 : Int32) (x3 : Int32) (S : pq_S) (H : Heap) (locs : List Loc) (ls : Array Slot), PW C X S (pq_F C X S0 s.heap.size) H locs s → Ext S0 S → TY S a0 12 → lv_has ls 5 [(0, .ref a0), (1, .int x1), (2, .int x2), (3, .int x3)] → k6 a0 x1 x2 x3 S = some (r, S1) → W p l e rm_X12_valueOf s m args below meth c H locs 0 0 (MQ below (QcI C X S0 s.heap.size r S1) args s 0 0 (pq_F C X S0 s.heap.size)) (F0 m 8 ls [])) : ∀ (a0 : Nat) (x1 : Int32) (x2 : Int32) (x3 : Int32) (b0 : Nat) (z1 : Int32) (z2 : Int32) (S : pq_S) (H : Heap) (locs : List Loc) (ls : Array Slot), PW C X S (pq_F C X S0 s.heap.size) H locs s → Ext S0 S → TY S a0 12 → TY S b0 14 → lv_has ls 5 [(0, .ref a0), (1, .int x1), (2, .int x2), (3, .int x3)] → b_X12_valueOf_68 n k6 a0 x1 x2 x3 b0 z1 z2 S = some (r, S1) → W p l e rm_X12_valueOf s m args below meth c H locs 0 0 (MQ below (QcI C X S0 s.heap.size r S1) args s 0 0 (pq_F C X S0 s.heap.size)) (F0 m 68 ls [.int z2, .int z1, .ref b0]) := by
  obtain ⟨hx, hb, hml, hown, hU, hr, hlk⟩ := id cx
  intro a0 x1 x2 x3 b0 z1 z2 S H locs ls hw hE Ta0 Tb0 hl hm
  rw [b_X12_valueOf_68] at hm
  obtain ⟨hi25, hm⟩ := ck_some hm
  refine pw_iast hx hb hw Tb0 hi25 dX12_valueOf_68 (fun H locs hw => ?_)
  refine lv_iinc (v := (x2 + 1)) (lv' := [(2, .int (x2 + 1)), (0, .ref a0), (1, .int x1), (3, .int x3)]) hx hb dX12_valueOf_69 hl (k := 2) rfl rfl (by decide) rfl (fun ls hl => ?_)
  refine lv_goto (tgt := 105) hx hb dX12_valueOf_72 (by decide) ?_
  exact wb_X12_valueOf_105 cx C X S0 n r S1 _ hk6 a0 x1 (x2 + 1) x3 (sA S b0 (Int32.toNatClampNeg z1) z2) _ _ _ hw hE Ta0 (lv_sub hl [1, 2, 0, 3] rfl) hm
def b_X12_valueOf_8 (n : Nat) : Nat → Nat → Int32 → Int32 → Int32 → pq_S → Option (Int32 × pq_S)
  | 0, _, _, _, _, _ => none
  | f + 1, a0, x1, x2, x3, S => Option.bind (pR S 1234 a0) fun q1 => ck (ix x1 (pN S q1)) (dix _ _) (if (((150 : Int32) * x1) + (pA S q1 (Int32.toNatClampNeg x1))) ≤ x3 then b_X12_valueOf_111 n a0 S else Option.bind (pR S 1232 a0) fun q4 => ck (ix x3 (pN S q4)) (dix _ _) (if 1 < (pA S q4 (Int32.toNatClampNeg x3)) then Option.bind (pR S 1235 a0) fun q7 => Option.bind (pR S 1235 a0) fun q8 => ck (ix ((x2 + (-1)) - (1 : Int32)) (pN S q8)) (dix _ _) (Option.bind (pR S 1235 a0) fun q10 => ck (ix (x2 + (-1)) (pN S q10)) (dix _ _) (cb (m_X12_both n (pA S q4 (Int32.toNatClampNeg x3)) (pA S q8 (Int32.toNatClampNeg ((x2 + (-1)) - (1 : Int32)))) (pA S q10 (Int32.toNatClampNeg (x2 + (-1)))) S) fun r14 S_12 => ck (ix ((x2 + (-1)) - (1 : Int32)) (pN S_12 q7)) (dix _ _) (b_X12_valueOf_105 n (b_X12_valueOf_8 n f) a0 x1 (x2 + (-1)) x3 (sA S_12 q7 (Int32.toNatClampNeg ((x2 + (-1)) - (1 : Int32))) r14)))) else Option.bind (pR S 1235 a0) fun q17 => if (pA S q4 (Int32.toNatClampNeg x3)) = 0 then Option.bind (pR S 1233 a0) fun q23 => ck (ix x3 (pN S q23)) (dix _ _) (b_X12_valueOf_68 n (b_X12_valueOf_8 n f) a0 x1 x2 x3 q17 x2 (pA S q23 (Int32.toNatClampNeg x3)) S) else Option.bind (pR S 1237 a0) fun q19 => Option.bind (pR S 1233 a0) fun q20 => ck (ix x3 (pN S q20)) (dix _ _) (ck (ix (pA S q20 (Int32.toNatClampNeg x3)) (pN S q19)) (dix _ _) (b_X12_valueOf_68 n (b_X12_valueOf_8 n f) a0 x1 x2 x3 q17 x2 (pA S q19 (Int32.toNatClampNeg (pA S q20 (Int32.toNatClampNeg x3)))) S))))
set_option maxHeartbeats 4000000 in
set_option maxRecDepth 100000 in
theorem wb_X12_valueOf_8 {p : Program} {l : Launch} {e : Env} {s : State} {m : MethodId} {args : Array Value} {below : List Frame} {meth : Method} {c : Code} (cx : Cx p s m args meth c cX12_valueOf 5 RX12 (some .int)) (C : pq_C) (X : va_W) (S0 : pq_S) (n : Nat) (r : Int32) (S1 : pq_S) : ∀ (f : Nat) (a0 : Nat) (x1 : Int32) (x2 : Int32) (x3 : Int32) (S : pq_S) (H : Heap) (locs : List Loc) (ls : Array Slot), PW C X S (pq_F C X S0 s.heap.size) H locs s → Ext S0 S → TY S a0 12 → lv_has ls 5 [(0, .ref a0), (1, .int x1), (2, .int x2), (3, .int x3)] → b_X12_valueOf_8 n f a0 x1 x2 x3 S = some (r, S1) → W p l e rm_X12_valueOf s m args below meth c H locs 0 0 (MQ below (QcI C X S0 s.heap.size r S1) args s 0 0 (pq_F C X S0 s.heap.size)) (F0 m 8 ls []) := by
  obtain ⟨hx, hb, hml, hown, hU, hr, hlk⟩ := id cx
  intro f
  induction f with
  | zero =>
    intro a0 x1 x2 x3 S H locs ls hw hE Ta0 hl hm
    cases hm
  | succ f ih =>
    intro a0 x1 x2 x3 S H locs ls hw hE Ta0 hl hm
    rw [b_X12_valueOf_8] at hm
    refine lv_iload_n hx hb dX12_valueOf_8 rfl (lv_at hl 3 rfl) ?_
    refine lv_sipush (v := 150) hx hb dX12_valueOf_9 (by decide) ?_
    refine lv_iload_n hx hb dX12_valueOf_12 rfl (lv_at hl 1 rfl) ?_
    refine lv_imul hx hb dX12_valueOf_13 ?_
    refine lv_aload_n hx hb dX12_valueOf_14 rfl (lv_at hl 0 rfl) ?_
    obtain ⟨q1, hq1, hm⟩ := bd_some hm
    have Tq1 : TY S q1 14 := hw.wf.ref (k := 12) (j := 34) Ta0 (by decide) (by decide) hq1
    refine pg_rb (k := 12) (j := 34) (f := 1234) hx hb hown hU iu12 hw Ta0 (by decide) rfl (hU _ tw1505) rfl hq1 dX12_valueOf_15 ?_
    refine lv_iload_n hx hb dX12_valueOf_18 rfl (lv_at hl 1 rfl) ?_
    obtain ⟨hi2, hm⟩ := ck_some hm
    refine pw_iald hx hb hw Tq1 hi2 dX12_valueOf_19 ?_
    refine lv_iadd hx hb dX12_valueOf_20 ?_
    refine lv_icmp_ge (tgt := 111) hx hb dX12_valueOf_21 (by decide) (fun h3 => ?_) (fun h3 => ?_)
    · rw [if_pos h3] at hm
      exact wb_X12_valueOf_111 cx C X S0 n r S1 a0 S _ _ _ hw hE Ta0 (lv_sub hl [0] rfl) hm
    · rw [if_neg h3] at hm
      refine lv_aload_n hx hb dX12_valueOf_24 rfl (lv_at hl 0 rfl) ?_
      obtain ⟨q4, hq4, hm⟩ := bd_some hm
      have Tq4 : TY S q4 14 := hw.wf.ref (k := 12) (j := 32) Ta0 (by decide) (by decide) hq4
      refine pg_rb (k := 12) (j := 32) (f := 1232) hx hb hown hU iu12 hw Ta0 (by decide) rfl (hU _ tw1503) rfl hq4 dX12_valueOf_25 ?_
      refine lv_iload_n hx hb dX12_valueOf_28 rfl (lv_at hl 3 rfl) ?_
      obtain ⟨hi5, hm⟩ := ck_some hm
      refine pw_iald hx hb hw Tq4 hi5 dX12_valueOf_29 ?_
      refine lv_istore (lv' := [(4, .int (pA S q4 (Int32.toNatClampNeg x3))), (0, .ref a0), (1, .int x1), (2, .int x2), (3, .int x3)]) hx hb dX12_valueOf_30 hl (by decide) rfl (fun ls hl => ?_)
      refine lv_iload hx hb dX12_valueOf_32 (lv_at hl 0 rfl) ?_
      refine lv_iconst (v := 1) hx hb dX12_valueOf_34 (by decide) ?_
      refine lv_icmp_gt (tgt := 75) hx hb dX12_valueOf_35 (by decide) (fun h6 => ?_) (fun h6 => ?_)
      · rw [if_pos h6] at hm
        refine lv_iinc (v := (x2 + (-1))) (lv' := [(2, .int (x2 + (-1))), (4, .int (pA S q4 (Int32.toNatClampNeg x3))), (0, .ref a0), (1, .int x1), (3, .int x3)]) hx hb dX12_valueOf_75 hl (k := 3) rfl rfl (by decide) rfl (fun ls hl => ?_)
        refine lv_aload_n hx hb dX12_valueOf_78 rfl (lv_at hl 2 rfl) ?_
        obtain ⟨q7, hq7, hm⟩ := bd_some hm
        have Tq7 : TY S q7 14 := hw.wf.ref (k := 12) (j := 35) Ta0 (by decide) (by decide) hq7
        refine pg_rb (k := 12) (j := 35) (f := 1235) hx hb hown hU iu12 hw Ta0 (by decide) rfl (hU _ tw1506) rfl hq7 dX12_valueOf_79 ?_
        refine lv_iload_n hx hb dX12_valueOf_82 rfl (lv_at hl 0 rfl) ?_
        refine lv_iconst (v := 1) hx hb dX12_valueOf_83 (by decide) ?_
        refine lv_isub hx hb dX12_valueOf_84 ?_
        refine lv_iload hx hb dX12_valueOf_85 (lv_at hl 1 rfl) ?_
        refine lv_aload_n hx hb dX12_valueOf_87 rfl (lv_at hl 2 rfl) ?_
        obtain ⟨q8, hq8, hm⟩ := bd_some hm
        have Tq8 : TY S q8 14 := hw.wf.ref (k := 12) (j := 35) Ta0 (by decide) (by decide) hq8
        refine pg_rb (k := 12) (j := 35) (f := 1235) hx hb hown hU iu12 hw Ta0 (by decide) rfl (hU _ tw1506) rfl hq8 dX12_valueOf_88 ?_
        refine lv_iload_n hx hb dX12_valueOf_91 rfl (lv_at hl 0 rfl) ?_
        refine lv_iconst (v := 1) hx hb dX12_valueOf_92 (by decide) ?_
        refine lv_isub hx hb dX12_valueOf_93 ?_
        obtain ⟨hi9, hm⟩ := ck_some hm
        refine pw_iald hx hb hw Tq8 hi9 dX12_valueOf_94 ?_
        refine lv_aload_n hx hb dX12_valueOf_95 rfl (lv_at hl 2 rfl) ?_
        obtain ⟨q10, hq10, hm⟩ := bd_some hm
        have Tq10 : TY S q10 14 := hw.wf.ref (k := 12) (j := 35) Ta0 (by decide) (by decide) hq10
        refine pg_rb (k := 12) (j := 35) (f := 1235) hx hb hown hU iu12 hw Ta0 (by decide) rfl (hU _ tw1506) rfl hq10 dX12_valueOf_96 ?_
        refine lv_iload_n hx hb dX12_valueOf_99 rfl (lv_at hl 0 rfl) ?_
        obtain ⟨hi11, hm⟩ := ck_some hm
        refine pw_iald hx hb hw Tq10 hi11 dX12_valueOf_100 ?_
        obtain ⟨r14, S_12, hq13, hm⟩ := cb_some hm
        refine pw_ci (va_runS (As := [.int (pA S q4 (Int32.toNatClampNeg x3)), .int (pA S q8 (Int32.toNatClampNeg ((x2 + (-1)) - (1 : Int32)))), .int (pA S q10 (Int32.toNatClampNeg (x2 + (-1))))]) (rest := [.int ((x2 + (-1)) - (1 : Int32)), .ref q7]) ⟨hx, hb, hml, hown, hU⟩ (c_X12_both l C X n S hw.wf _ (pA S q4 (Int32.toNatClampNeg x3)) (pA S q8 (Int32.toNatClampNeg ((x2 + (-1)) - (1 : Int32)))) (pA S q10 (Int32.toNatClampNeg (x2 + (-1))))  r14 S_12 hq13) ⟨callB_of 3 hU (pq_g1 tc_X12_both) rfl rfl rfl (hU _ tw14) (hU _ tw1864) cd_X12_both.2 ⟨Nat.le_of_ble_eq_true rfl, Nat.le_of_ble_eq_true rfl⟩, hU _ tw1865⟩ (pw_preS hw) rfl rfl hl.1 rfl (lv_room (Nat.le_of_ble_eq_true rfl)) dX12_valueOf_101 ⟨Nat.zero_le _, Nat.zero_le _⟩) hw (fun H locs hw hx15 => ?_)
        have Tq7 : TY S_12 q7 14 := ty_ext hx15 Tq7
        have Ta0 : TY S_12 a0 12 := ty_ext hx15 Ta0
        have hE : Ext S0 S_12 := Ext.tr hE hx15
        obtain ⟨hi16, hm⟩ := ck_some hm
        refine pw_iast hx hb hw Tq7 hi16 dX12_valueOf_104 (fun H locs hw => ?_)
        exact wb_X12_valueOf_105 cx C X S0 n r S1 _ ih a0 x1 (x2 + (-1)) x3 (sA S_12 q7 (Int32.toNatClampNeg ((x2 + (-1)) - (1 : Int32))) r14) _ _ _ hw hE Ta0 (lv_sub hl [2, 3, 0, 4] rfl) hm
      · rw [if_neg h6] at hm
        refine lv_aload_n hx hb dX12_valueOf_38 rfl (lv_at hl 1 rfl) ?_
        obtain ⟨q17, hq17, hm⟩ := bd_some hm
        have Tq17 : TY S q17 14 := hw.wf.ref (k := 12) (j := 35) Ta0 (by decide) (by decide) hq17
        refine pg_rb (k := 12) (j := 35) (f := 1235) hx hb hown hU iu12 hw Ta0 (by decide) rfl (hU _ tw1506) rfl hq17 dX12_valueOf_39 ?_
        refine lv_iload_n hx hb dX12_valueOf_42 rfl (lv_at hl 3 rfl) ?_
        refine lv_iload hx hb dX12_valueOf_43 (lv_at hl 0 rfl) ?_
        refine lv_if_ne (tgt := 57) hx hb dX12_valueOf_45 (by decide) (fun h18 => ?_) (fun h18 => ?_)
        · rw [if_neg h18] at hm
          refine lv_aload_n hx hb dX12_valueOf_57 rfl (lv_at hl 1 rfl) ?_
          obtain ⟨q19, hq19, hm⟩ := bd_some hm
          have Tq19 : TY S q19 14 := hw.wf.ref (k := 12) (j := 37) Ta0 (by decide) (by decide) hq19
          refine pg_rb (k := 12) (j := 37) (f := 1237) hx hb hown hU iu12 hw Ta0 (by decide) rfl (hU _ tw1508) rfl hq19 dX12_valueOf_58 ?_
          refine lv_aload_n hx hb dX12_valueOf_61 rfl (lv_at hl 1 rfl) ?_
          obtain ⟨q20, hq20, hm⟩ := bd_some hm
          have Tq20 : TY S q20 14 := hw.wf.ref (k := 12) (j := 33) Ta0 (by decide) (by decide) hq20
          refine pg_rb (k := 12) (j := 33) (f := 1233) hx hb hown hU iu12 hw Ta0 (by decide) rfl (hU _ tw1504) rfl hq20 dX12_valueOf_62 ?_
          refine lv_iload_n hx hb dX12_valueOf_65 rfl (lv_at hl 4 rfl) ?_
          obtain ⟨hi21, hm⟩ := ck_some hm
          refine pw_iald hx hb hw Tq20 hi21 dX12_valueOf_66 ?_
          obtain ⟨hi22, hm⟩ := ck_some hm
          refine pw_iald hx hb hw Tq19 hi22 dX12_valueOf_67 ?_
          exact wb_X12_valueOf_68 cx C X S0 n r S1 _ ih a0 x1 x2 x3 q17 x2 (pA S q19 (Int32.toNatClampNeg (pA S q20 (Int32.toNatClampNeg x3)))) S _ _ _ hw hE Ta0 Tq17 (lv_sub hl [1, 2, 3, 4] rfl) hm
        · rw [if_pos h18] at hm
          refine lv_aload_n hx hb dX12_valueOf_48 rfl (lv_at hl 1 rfl) ?_
          obtain ⟨q23, hq23, hm⟩ := bd_some hm
          have Tq23 : TY S q23 14 := hw.wf.ref (k := 12) (j := 33) Ta0 (by decide) (by decide) hq23
          refine pg_rb (k := 12) (j := 33) (f := 1233) hx hb hown hU iu12 hw Ta0 (by decide) rfl (hU _ tw1504) rfl hq23 dX12_valueOf_49 ?_
          refine lv_iload_n hx hb dX12_valueOf_52 rfl (lv_at hl 4 rfl) ?_
          obtain ⟨hi24, hm⟩ := ck_some hm
          refine pw_iald hx hb hw Tq23 hi24 dX12_valueOf_53 ?_
          refine lv_goto (tgt := 68) hx hb dX12_valueOf_54 (by decide) ?_
          exact wb_X12_valueOf_68 cx C X S0 n r S1 _ ih a0 x1 x2 x3 q17 x2 (pA S q23 (Int32.toNatClampNeg x3)) S _ _ _ hw hE Ta0 Tq17 (lv_sub hl [1, 2, 3, 4] rfl) hm
def m_X12_valueOf (n : Nat) (a0 : Nat) (x1 : Int32) (S0 : pq_S) : Option (Int32 × pq_S) := b_X12_valueOf_8 n n a0 x1 0 ((150 : Int32) * x1) S0
theorem tc_X12_valueOf : Cond.code yX12_valueOf cX12_valueOf 5 (some .int) ∈ pq_U := tw1863
theorem cd_X12_valueOf : yX12_valueOf.cls = RX12 ∧ yX12_valueOf.cls ≠ "java/lang/invoke/MethodHandle" ∧ yX12_valueOf.cls ≠ "java/lang/invoke/VarHandle" ∧ (parseMethodDescriptor yX12_valueOf.desc).map (fun d => d.parameters.length) = some 1 := by decide +kernel
set_option maxHeartbeats 4000000 in
set_option maxRecDepth 100000 in
theorem c_X12_valueOf (l : Launch) (C : pq_C) (X : va_W) (n : Nat) (S0 : pq_S) (hF : WF S0) (sz : Nat) (a0 : Nat) (x1 : Int32) (Ta0 : TY S0 a0 12) (r : Int32) (S1 : pq_S) (hm : m_X12_valueOf n a0 x1 S0 = some (r, S1)) : MI l yX12_valueOf (.code yX12_valueOf cX12_valueOf 5 (some .int) :: pq_U) rm_X12_valueOf C X S0 sz [.ref a0, .int x1] r S1 0 0 := by
  refine Met.ofW (cc := cX12_valueOf) (maxL := 5) (ret := (some .int)) (by decide) rfl ?_
  intro p e s m args below meth c s₁ B hml hv
  obtain ⟨rfl, hv⟩ := hv
  have hsz := hv.1
  subst hsz
  have hw := pw_entry hF hv
  have hts := atoms_spec (ws := .code yX12_valueOf cX12_valueOf 5 (some .int) :: pq_U) B.pre
  have hU : ∀ w ∈ pq_U, w.before _ s = true := fun w h => hts w (List.mem_cons_of_mem _ h)
  have hx := B.exec
  have hb := B.bytes
  have hr := B.returns
  have hown : s.vm.findClass RX12 = some m.cls := findClass_of_methodNamed B.named
  have hlk := B.notSynchronized
  have hl := lv_entry ([.ref a0, .int x1]) (n := 5) (Nat.le_of_ble_eq_true rfl)
  rw [lg_entry_eq]
  generalize (lg_sl ([.ref a0, .int x1]) ++ List.replicate (5 - (lg_sl ([.ref a0, .int x1])).length) Slot.unset).toArray = ls at hl ⊢
  have hl : lv_has ls 5 [(0, .ref a0), (1, .int x1)] := hl
  have hE : Ext S0 S0 := Ext.rf _
  have cx : Cx p s m _ meth c cX12_valueOf 5 RX12 (some .int) := ⟨hx, hb, hml, hown, hU, hr, hlk⟩
  rw [m_X12_valueOf] at hm
  refine lv_iconst (v := 0) hx hb dX12_valueOf_0 (by decide) ?_
  refine lv_istore_n (lv' := [(2, .int 0), (0, .ref a0), (1, .int x1)]) hx hb dX12_valueOf_1 rfl hl (by decide) rfl (fun ls hl => ?_)
  refine lv_sipush (v := 150) hx hb dX12_valueOf_2 (by decide) ?_
  refine lv_iload_n hx hb dX12_valueOf_5 rfl (lv_at hl 2 rfl) ?_
  refine lv_imul hx hb dX12_valueOf_6 ?_
  refine lv_istore_n (lv' := [(3, .int ((150 : Int32) * x1)), (2, .int 0), (0, .ref a0), (1, .int x1)]) hx hb dX12_valueOf_7 rfl hl (by decide) rfl (fun ls hl => ?_)
  exact wb_X12_valueOf_8 cx C X S0 n r S1 n a0 x1 0 ((150 : Int32) * x1) S0 _ _ _ hw hE Ta0 (lv_sub hl [2, 3, 1, 0] rfl) hm
abbrev rm_X12_arriveOf : Room := { frames := 2, cells := 0, slots := 0, locals := 46 }
def b_X12_arriveOf_74 (n : Nat) (x3 : Int32) (z0 : Int32) (S : pq_S) : Option (Int32 × pq_S) := cb (m_X12_clamp n z0 x3 S) fun r30 S_28 => some (r30, S_28)
set_option maxHeartbeats 4000000 in
set_option maxRecDepth 100000 in
theorem wb_X12_arriveOf_74 {p : Program} {l : Launch} {e : Env} {s : State} {m : MethodId} {args : Array Value} {below : List Frame} {meth : Method} {c : Code} (cx : Cx p s m args meth c cX12_arriveOf 5 RX12 (some .int)) (C : pq_C) (X : va_W) (S0 : pq_S) (n : Nat) (r : Int32) (S1 : pq_S) : ∀ (x3 : Int32) (z0 : Int32) (S : pq_S) (H : Heap) (locs : List Loc) (ls : Array Slot), PW C X S (pq_F C X S0 s.heap.size) H locs s → Ext S0 S → lv_has ls 5 [(3, .int x3)] → b_X12_arriveOf_74 n x3 z0 S = some (r, S1) → W p l e rm_X12_arriveOf s m args below meth c H locs 0 0 (MQ below (QcI C X S0 s.heap.size r S1) args s 0 0 (pq_F C X S0 s.heap.size)) (F0 m 74 ls [.int z0]) := by
  obtain ⟨hx, hb, hml, hown, hU, hr, hlk⟩ := id cx
  intro x3 z0 S H locs ls hw hE hl hm
  rw [b_X12_arriveOf_74] at hm
  refine lv_iload_n hx hb dX12_arriveOf_74 rfl (lv_at hl 0 rfl) ?_
  obtain ⟨r30, S_28, hq29, hm⟩ := cb_some hm
  refine pw_ci (va_runS (As := [.int z0, .int x3]) (rest := []) ⟨hx, hb, hml, hown, hU⟩ (c_X12_clamp l C X n S hw.wf _ z0 x3  r30 S_28 hq29) ⟨callB_of 2 hU (pq_g1 tc_X12_clamp) rfl rfl rfl (hU _ tw14) (hU _ tw1867) cd_X12_clamp.2 ⟨Nat.le_of_ble_eq_true rfl, Nat.le_of_ble_eq_true rfl⟩, hU _ tw1868⟩ (pw_preS hw) rfl rfl hl.1 rfl (lv_room (Nat.le_of_ble_eq_true rfl)) dX12_arriveOf_75 ⟨Nat.zero_le _, Nat.zero_le _⟩) hw (fun H locs hw hx31 => ?_)
  have hE : Ext S0 S_28 := Ext.tr hE hx31
  cases hm
  exact pw_iret hx hb hr rfl hlk hw hE dX12_arriveOf_78
def m_X12_arriveOf (n : Nat) (a0 : Nat) (x1 : Int32) (x2 : Int32) (x3 : Int32) (x4 : Int32) (S0 : pq_S) : Option (Int32 × pq_S) := Option.bind (m_X12_findFacts n a0 S0) fun S_1 => Option.bind (pR S_1 1237 a0) fun q4 => ck (ix 0 (pN S_1 q4)) (dix _ _) (Option.bind (pR (sA S_1 q4 (Int32.toNatClampNeg 0) x3) 1237 a0) fun q6 => Option.bind (pR (sA S_1 q4 (Int32.toNatClampNeg 0) x3) 1214 a0) fun q7 => ck (ix ((4 : Int32) * x1) (pN (sA S_1 q4 (Int32.toNatClampNeg 0) x3) q7)) (dix _ _) (Option.bind (pR (sA S_1 q4 (Int32.toNatClampNeg 0) x3) 1214 a0) fun q9 => ck (ix ((4 : Int32) * x2) (pN (sA S_1 q4 (Int32.toNatClampNeg 0) x3) q9)) (dix _ _) (cb (m_X12_apart n (pA (sA S_1 q4 (Int32.toNatClampNeg 0) x3) q7 (Int32.toNatClampNeg ((4 : Int32) * x1))) (pA (sA S_1 q4 (Int32.toNatClampNeg 0) x3) q9 (Int32.toNatClampNeg ((4 : Int32) * x2))) (sA S_1 q4 (Int32.toNatClampNeg 0) x3)) fun r13 S_11 => ck (ix 1 (pN S_11 q6)) (dix _ _) (Option.bind (pR (sA S_11 q6 (Int32.toNatClampNeg 1) r13) 1237 a0) fun q16 => ck (ix 2 (pN (sA S_11 q6 (Int32.toNatClampNeg 1) r13) q16)) (dix _ _) (lt_ (sA (sA S_11 q6 (Int32.toNatClampNeg 1) r13) q16 (Int32.toNatClampNeg 2) x4) fun S_18 => Option.bind (pR S_18 1234 a0) fun q19 => ck (ix 0 (pN S_18 q19)) (dix _ _) (if (pA S_18 q19 (Int32.toNatClampNeg 0)) = 0 then Option.bind (pR S_18 1237 a0) fun q26 => ck (ix 1 (pN S_18 q26)) (dix _ _) (b_X12_arriveOf_74 n x3 (x3 - ((x3 * (pA S_18 q26 (Int32.toNatClampNeg 1))) / 40)) S_18) else cb (m_X12_valueOf n a0 0 S_18) fun r24 S_22 => b_X12_arriveOf_74 n x3 r24 S_22))))))
theorem tc_X12_arriveOf : Cond.code yX12_arriveOf cX12_arriveOf 5 (some .int) ∈ pq_U := tw1852
theorem cd_X12_arriveOf : yX12_arriveOf.cls = RX12 ∧ yX12_arriveOf.cls ≠ "java/lang/invoke/MethodHandle" ∧ yX12_arriveOf.cls ≠ "java/lang/invoke/VarHandle" ∧ (parseMethodDescriptor yX12_arriveOf.desc).map (fun d => d.parameters.length) = some 4 := by decide +kernel
set_option maxHeartbeats 4000000 in
set_option maxRecDepth 100000 in
theorem c_X12_arriveOf (l : Launch) (C : pq_C) (X : va_W) (n : Nat) (S0 : pq_S) (hF : WF S0) (sz : Nat) (a0 : Nat) (x1 : Int32) (x2 : Int32) (x3 : Int32) (x4 : Int32) (Ta0 : TY S0 a0 12) (r : Int32) (S1 : pq_S) (hm : m_X12_arriveOf n a0 x1 x2 x3 x4 S0 = some (r, S1)) : MI l yX12_arriveOf (.code yX12_arriveOf cX12_arriveOf 5 (some .int) :: pq_U) rm_X12_arriveOf C X S0 sz [.ref a0, .int x1, .int x2, .int x3, .int x4] r S1 0 0 := by
  refine Met.ofW (cc := cX12_arriveOf) (maxL := 5) (ret := (some .int)) (by decide) rfl ?_
  intro p e s m args below meth c s₁ B hml hv
  obtain ⟨rfl, hv⟩ := hv
  have hsz := hv.1
  subst hsz
  have hw := pw_entry hF hv
  have hts := atoms_spec (ws := .code yX12_arriveOf cX12_arriveOf 5 (some .int) :: pq_U) B.pre
  have hU : ∀ w ∈ pq_U, w.before _ s = true := fun w h => hts w (List.mem_cons_of_mem _ h)
  have hx := B.exec
  have hb := B.bytes
  have hr := B.returns
  have hown : s.vm.findClass RX12 = some m.cls := findClass_of_methodNamed B.named
  have hlk := B.notSynchronized
  have hl := lv_entry ([.ref a0, .int x1, .int x2, .int x3, .int x4]) (n := 5) (Nat.le_of_ble_eq_true rfl)
  rw [lg_entry_eq]
  generalize (lg_sl ([.ref a0, .int x1, .int x2, .int x3, .int x4]) ++ List.replicate (5 - (lg_sl ([.ref a0, .int x1, .int x2, .int x3, .int x4])).length) Slot.unset).toArray = ls at hl ⊢
  have hl : lv_has ls 5 [(0, .ref a0), (1, .int x1), (2, .int x2), (3, .int x3), (4, .int x4)] := hl
  have hE : Ext S0 S0 := Ext.rf _
  have cx : Cx p s m _ meth c cX12_arriveOf 5 RX12 (some .int) := ⟨hx, hb, hml, hown, hU, hr, hlk⟩
  rw [m_X12_arriveOf] at hm
  refine lv_aload_n hx hb dX12_arriveOf_0 rfl (lv_at hl 0 rfl) ?_
  obtain ⟨S_1, hq2, hm⟩ := bd_some hm
  refine pw_cv (va_runV (As := []) (rest := []) ⟨hx, hb, hml, hown, hU⟩ (c_X12_findFacts l C X n S0 hw.wf _ a0 (Ta0) S_1 hq2) (cwV 0 hU (pq_gV tw1853 tw1855 ts150 tw14 tc_X12_findFacts) rfl rfl rfl cd_X12_findFacts ⟨Nat.le_of_ble_eq_true rfl, Nat.le_of_ble_eq_true rfl⟩) (pw_preV hw Ta0 (by decide) rfl) rfl rfl hl.1 rfl (lv_room (Nat.le_of_ble_eq_true rfl)) dX12_arriveOf_1 ⟨Nat.zero_le _, Nat.zero_le _⟩) hw (fun H locs hw hx3 => ?_)
  have Ta0 : TY S_1 a0 12 := ty_ext hx3 Ta0
  have hE : Ext S0 S_1 := Ext.tr hE hx3
  refine lv_aload_n hx hb dX12_arriveOf_4 rfl (lv_at hl 0 rfl) ?_
  obtain ⟨q4, hq4, hm⟩ := bd_some hm
  have Tq4 : TY S_1 q4 14 := hw.wf.ref (k := 12) (j := 37) Ta0 (by decide) (by decide) hq4
  refine pg_rb (k := 12) (j := 37) (f := 1237) hx hb hown hU iu12 hw Ta0 (by decide) rfl (hU _ tw1508) rfl hq4 dX12_arriveOf_5 ?_
  refine lv_iconst (v := 0) hx hb dX12_arriveOf_8 (by decide) ?_
  refine lv_iload_n hx hb dX12_arriveOf_9 rfl (lv_at hl 3 rfl) ?_
  obtain ⟨hi5, hm⟩ := ck_some hm
  refine pw_iast hx hb hw Tq4 hi5 dX12_arriveOf_10 (fun H locs hw => ?_)
  refine lv_aload_n hx hb dX12_arriveOf_11 rfl (lv_at hl 0 rfl) ?_
  obtain ⟨q6, hq6, hm⟩ := bd_some hm
  have Tq6 : TY (sA S_1 q4 (Int32.toNatClampNeg 0) x3) q6 14 := hw.wf.ref (k := 12) (j := 37) Ta0 (by decide) (by decide) hq6
  refine pg_rb (k := 12) (j := 37) (f := 1237) hx hb hown hU iu12 hw Ta0 (by decide) rfl (hU _ tw1508) rfl hq6 dX12_arriveOf_12 ?_
  refine lv_iconst (v := 1) hx hb dX12_arriveOf_15 (by decide) ?_
  refine lv_aload_n hx hb dX12_arriveOf_16 rfl (lv_at hl 0 rfl) ?_
  obtain ⟨q7, hq7, hm⟩ := bd_some hm
  have Tq7 : TY (sA S_1 q4 (Int32.toNatClampNeg 0) x3) q7 14 := hw.wf.ref (k := 12) (j := 14) Ta0 (by decide) (by decide) hq7
  refine pg_rb (k := 12) (j := 14) (f := 1214) hx hb hown hU iu12 hw Ta0 (by decide) rfl (hU _ tw1485) rfl hq7 dX12_arriveOf_17 ?_
  refine lv_iconst (v := 4) hx hb dX12_arriveOf_20 (by decide) ?_
  refine lv_iload_n hx hb dX12_arriveOf_21 rfl (lv_at hl 1 rfl) ?_
  refine lv_imul hx hb dX12_arriveOf_22 ?_
  obtain ⟨hi8, hm⟩ := ck_some hm
  refine pw_iald hx hb hw Tq7 hi8 dX12_arriveOf_23 ?_
  refine lv_aload_n hx hb dX12_arriveOf_24 rfl (lv_at hl 0 rfl) ?_
  obtain ⟨q9, hq9, hm⟩ := bd_some hm
  have Tq9 : TY (sA S_1 q4 (Int32.toNatClampNeg 0) x3) q9 14 := hw.wf.ref (k := 12) (j := 14) Ta0 (by decide) (by decide) hq9
  refine pg_rb (k := 12) (j := 14) (f := 1214) hx hb hown hU iu12 hw Ta0 (by decide) rfl (hU _ tw1485) rfl hq9 dX12_arriveOf_25 ?_
  refine lv_iconst (v := 4) hx hb dX12_arriveOf_28 (by decide) ?_
  refine lv_iload_n hx hb dX12_arriveOf_29 rfl (lv_at hl 2 rfl) ?_
  refine lv_imul hx hb dX12_arriveOf_30 ?_
  obtain ⟨hi10, hm⟩ := ck_some hm
  refine pw_iald hx hb hw Tq9 hi10 dX12_arriveOf_31 ?_
  obtain ⟨r13, S_11, hq12, hm⟩ := cb_some hm
  refine pw_ci (va_runS (As := [.int (pA (sA S_1 q4 (Int32.toNatClampNeg 0) x3) q7 (Int32.toNatClampNeg ((4 : Int32) * x1))), .int (pA (sA S_1 q4 (Int32.toNatClampNeg 0) x3) q9 (Int32.toNatClampNeg ((4 : Int32) * x2)))]) (rest := [.int 1, .ref q6]) ⟨hx, hb, hml, hown, hU⟩ (c_X12_apart l C X n (sA S_1 q4 (Int32.toNatClampNeg 0) x3) hw.wf _ (pA (sA S_1 q4 (Int32.toNatClampNeg 0) x3) q7 (Int32.toNatClampNeg ((4 : Int32) * x1))) (pA (sA S_1 q4 (Int32.toNatClampNeg 0) x3) q9 (Int32.toNatClampNeg ((4 : Int32) * x2)))  r13 S_11 hq12) ⟨callB_of 2 hU (pq_g1 tc_X12_apart) rfl rfl rfl (hU _ tw14) (hU _ tw1857) cd_X12_apart.2 ⟨Nat.le_of_ble_eq_true rfl, Nat.le_of_ble_eq_true rfl⟩, hU _ tw1858⟩ (pw_preS hw) rfl rfl hl.1 rfl (lv_room (Nat.le_of_ble_eq_true rfl)) dX12_arriveOf_32 ⟨Nat.zero_le _, Nat.zero_le _⟩) hw (fun H locs hw hx14 => ?_)
  have Tq6 : TY S_11 q6 14 := ty_ext hx14 Tq6
  have Ta0 : TY S_11 a0 12 := ty_ext hx14 Ta0
  have hE : Ext S0 S_11 := Ext.tr hE hx14
  obtain ⟨hi15, hm⟩ := ck_some hm
  refine pw_iast hx hb hw Tq6 hi15 dX12_arriveOf_35 (fun H locs hw => ?_)
  refine lv_aload_n hx hb dX12_arriveOf_36 rfl (lv_at hl 0 rfl) ?_
  obtain ⟨q16, hq16, hm⟩ := bd_some hm
  have Tq16 : TY (sA S_11 q6 (Int32.toNatClampNeg 1) r13) q16 14 := hw.wf.ref (k := 12) (j := 37) Ta0 (by decide) (by decide) hq16
  refine pg_rb (k := 12) (j := 37) (f := 1237) hx hb hown hU iu12 hw Ta0 (by decide) rfl (hU _ tw1508) rfl hq16 dX12_arriveOf_37 ?_
  refine lv_iconst (v := 2) hx hb dX12_arriveOf_40 (by decide) ?_
  refine lv_iload hx hb dX12_arriveOf_41 (lv_at hl 4 rfl) ?_
  obtain ⟨hi17, hm⟩ := ck_some hm
  refine pw_iast hx hb hw Tq16 hi17 dX12_arriveOf_43 (fun H locs hw => ?_)
  obtain ⟨S_18, eS_18, hm⟩ := lt_some hm
  rw [← eS_18] at hw
  have Ta0 : TY S_18 a0 12 := by rw [eS_18]; exact Ta0
  have hE : Ext S0 S_18 := by rw [eS_18]; exact hE
  refine lv_aload_n hx hb dX12_arriveOf_44 rfl (lv_at hl 0 rfl) ?_
  obtain ⟨q19, hq19, hm⟩ := bd_some hm
  have Tq19 : TY S_18 q19 14 := hw.wf.ref (k := 12) (j := 34) Ta0 (by decide) (by decide) hq19
  refine pg_rb (k := 12) (j := 34) (f := 1234) hx hb hown hU iu12 hw Ta0 (by decide) rfl (hU _ tw1505) rfl hq19 dX12_arriveOf_45 ?_
  refine lv_iconst (v := 0) hx hb dX12_arriveOf_48 (by decide) ?_
  obtain ⟨hi20, hm⟩ := ck_some hm
  refine pw_iald hx hb hw Tq19 hi20 dX12_arriveOf_49 ?_
  refine lv_if_ne (tgt := 69) hx hb dX12_arriveOf_50 (by decide) (fun h21 => ?_) (fun h21 => ?_)
  · rw [if_neg h21] at hm
    refine lv_aload_n hx hb dX12_arriveOf_69 rfl (lv_at hl 0 rfl) ?_
    refine lv_iconst (v := 0) hx hb dX12_arriveOf_70 (by decide) ?_
    obtain ⟨r24, S_22, hq23, hm⟩ := cb_some hm
    refine pw_ci (va_runV (As := [.int 0]) (rest := []) ⟨hx, hb, hml, hown, hU⟩ (c_X12_valueOf l C X n S_18 hw.wf _ a0 0 (Ta0) r24 S_22 hq23) (cwV 1 hU (pq_gV tw1860 tw1862 ts151 tw14 tc_X12_valueOf) rfl rfl rfl cd_X12_valueOf ⟨Nat.le_of_ble_eq_true rfl, Nat.le_of_ble_eq_true rfl⟩) (pw_preV hw Ta0 (by decide) rfl) rfl rfl hl.1 rfl (lv_room (Nat.le_of_ble_eq_true rfl)) dX12_arriveOf_71 ⟨Nat.zero_le _, Nat.zero_le _⟩) hw (fun H locs hw hx25 => ?_)
    have Ta0 : TY S_22 a0 12 := ty_ext hx25 Ta0
    have hE : Ext S0 S_22 := Ext.tr hE hx25
    exact wb_X12_arriveOf_74 cx C X S0 n r S1 x3 r24 S_22 _ _ _ hw hE  (lv_sub hl [3] rfl) hm
  · rw [if_pos h21] at hm
    refine lv_iload_n hx hb dX12_arriveOf_53 rfl (lv_at hl 3 rfl) ?_
    refine lv_iload_n hx hb dX12_arriveOf_54 rfl (lv_at hl 3 rfl) ?_
    refine lv_aload_n hx hb dX12_arriveOf_55 rfl (lv_at hl 0 rfl) ?_
    obtain ⟨q26, hq26, hm⟩ := bd_some hm
    have Tq26 : TY S_18 q26 14 := hw.wf.ref (k := 12) (j := 37) Ta0 (by decide) (by decide) hq26
    refine pg_rb (k := 12) (j := 37) (f := 1237) hx hb hown hU iu12 hw Ta0 (by decide) rfl (hU _ tw1508) rfl hq26 dX12_arriveOf_56 ?_
    refine lv_iconst (v := 1) hx hb dX12_arriveOf_59 (by decide) ?_
    obtain ⟨hi27, hm⟩ := ck_some hm
    refine pw_iald hx hb hw Tq26 hi27 dX12_arriveOf_60 ?_
    refine lv_imul hx hb dX12_arriveOf_61 ?_
    refine lv_bipush (v := 40) hx hb dX12_arriveOf_62 (by decide) ?_
    refine lv_idiv hx hb dX12_arriveOf_64 (by decide) ?_
    refine lv_isub hx hb dX12_arriveOf_65 ?_
    refine lv_goto (tgt := 74) hx hb dX12_arriveOf_66 (by decide) ?_
    exact wb_X12_arriveOf_74 cx C X S0 n r S1 x3 (x3 - ((x3 * (pA S_18 q26 (Int32.toNatClampNeg 1))) / 40)) S_18 _ _ _ hw hE  (lv_sub hl [3] rfl) hm
abbrev rm_X12_digOf : Room := { frames := 2, cells := 0, slots := 0, locals := 46 }
def b_X12_digOf_59 (n : Nat) (a0 : Nat) (x1 : Int32) (z0 : Int32) (S : pq_S) : Option (Int32 × pq_S) := Option.bind (pR S 1247 a0) fun q22 => ck (ix ((42 : Int32) + x1) (pN S q22)) (dix _ _) (cb (m_X12_clamp n z0 (pA S q22 (Int32.toNatClampNeg ((42 : Int32) + x1))) S) fun r26 S_24 => some (r26, S_24))
set_option maxHeartbeats 4000000 in
set_option maxRecDepth 100000 in
theorem wb_X12_digOf_59 {p : Program} {l : Launch} {e : Env} {s : State} {m : MethodId} {args : Array Value} {below : List Frame} {meth : Method} {c : Code} (cx : Cx p s m args meth c cX12_digOf 3 RX12 (some .int)) (C : pq_C) (X : va_W) (S0 : pq_S) (n : Nat) (r : Int32) (S1 : pq_S) : ∀ (a0 : Nat) (x1 : Int32) (z0 : Int32) (S : pq_S) (H : Heap) (locs : List Loc) (ls : Array Slot), PW C X S (pq_F C X S0 s.heap.size) H locs s → Ext S0 S → TY S a0 12 → lv_has ls 3 [(0, .ref a0), (1, .int x1)] → b_X12_digOf_59 n a0 x1 z0 S = some (r, S1) → W p l e rm_X12_digOf s m args below meth c H locs 0 0 (MQ below (QcI C X S0 s.heap.size r S1) args s 0 0 (pq_F C X S0 s.heap.size)) (F0 m 59 ls [.int z0]) := by
  obtain ⟨hx, hb, hml, hown, hU, hr, hlk⟩ := id cx
  intro a0 x1 z0 S H locs ls hw hE Ta0 hl hm
  rw [b_X12_digOf_59] at hm
  refine lv_aload_n hx hb dX12_digOf_59 rfl (lv_at hl 0 rfl) ?_
  obtain ⟨q22, hq22, hm⟩ := bd_some hm
  have Tq22 : TY S q22 14 := hw.wf.ref (k := 12) (j := 47) Ta0 (by decide) (by decide) hq22
  refine pg_rb (k := 12) (j := 47) (f := 1247) hx hb hown hU iu12 hw Ta0 (by decide) rfl (hU _ tw1518) rfl hq22 dX12_digOf_60 ?_
  refine lv_bipush (v := 42) hx hb dX12_digOf_63 (by decide) ?_
  refine lv_iload_n hx hb dX12_digOf_65 rfl (lv_at hl 1 rfl) ?_
  refine lv_iadd hx hb dX12_digOf_66 ?_
  obtain ⟨hi23, hm⟩ := ck_some hm
  refine pw_iald hx hb hw Tq22 hi23 dX12_digOf_67 ?_
  obtain ⟨r26, S_24, hq25, hm⟩ := cb_some hm
  refine pw_ci (va_runS (As := [.int z0, .int (pA S q22 (Int32.toNatClampNeg ((42 : Int32) + x1)))]) (rest := []) ⟨hx, hb, hml, hown, hU⟩ (c_X12_clamp l C X n S hw.wf _ z0 (pA S q22 (Int32.toNatClampNeg ((42 : Int32) + x1)))  r26 S_24 hq25) ⟨callB_of 2 hU (pq_g1 tc_X12_clamp) rfl rfl rfl (hU _ tw14) (hU _ tw1867) cd_X12_clamp.2 ⟨Nat.le_of_ble_eq_true rfl, Nat.le_of_ble_eq_true rfl⟩, hU _ tw1868⟩ (pw_preS hw) rfl rfl hl.1 rfl (lv_room (Nat.le_of_ble_eq_true rfl)) dX12_digOf_68 ⟨Nat.zero_le _, Nat.zero_le _⟩) hw (fun H locs hw hx27 => ?_)
  have Ta0 : TY S_24 a0 12 := ty_ext hx27 Ta0
  have hE : Ext S0 S_24 := Ext.tr hE hx27
  cases hm
  exact pw_iret hx hb hr rfl hlk hw hE dX12_digOf_71
def m_X12_digOf (n : Nat) (a0 : Nat) (x1 : Int32) (x2 : Int32) (S0 : pq_S) : Option (Int32 × pq_S) := if x2 = 0 then some (0, S0) else Option.bind (m_X12_findFacts n a0 S0) fun S_2 => Option.bind (pR S_2 1237 a0) fun q5 => ck (ix 2 (pN S_2 q5)) (dix _ _) (Option.bind (pR (sA S_2 q5 (Int32.toNatClampNeg 2) 1) 1237 a0) fun q7 => ck (ix 3 (pN (sA S_2 q5 (Int32.toNatClampNeg 2) 1) q7)) (dix _ _) (lt_ (sA (sA S_2 q5 (Int32.toNatClampNeg 2) 1) q7 (Int32.toNatClampNeg 3) x2) fun S_9 => Option.bind (pR S_9 1237 a0) fun q10 => Option.bind (pR S_9 1247 a0) fun q11 => ck (ix ((42 : Int32) + x1) (pN S_9 q11)) (dix _ _) (ck (ix 4 (pN S_9 q10)) (dix _ _) (lt_ (sA S_9 q10 (Int32.toNatClampNeg 4) (pA S_9 q11 (Int32.toNatClampNeg ((42 : Int32) + x1)))) fun S_14 => Option.bind (pR S_14 1234 a0) fun q15 => ck (ix 1 (pN S_14 q15)) (dix _ _) (if (pA S_14 q15 (Int32.toNatClampNeg 1)) = 0 then b_X12_digOf_59 n a0 x1 ((3 : Int32) * x2) S_14 else cb (m_X12_valueOf n a0 1 S_14) fun r20 S_18 => b_X12_digOf_59 n a0 x1 r20 S_18)))))
theorem tc_X12_digOf : Cond.code yX12_digOf cX12_digOf 3 (some .int) ∈ pq_U := tw1893
theorem cd_X12_digOf : yX12_digOf.cls = RX12 ∧ yX12_digOf.cls ≠ "java/lang/invoke/MethodHandle" ∧ yX12_digOf.cls ≠ "java/lang/invoke/VarHandle" ∧ (parseMethodDescriptor yX12_digOf.desc).map (fun d => d.parameters.length) = some 2 := by decide +kernel
set_option maxHeartbeats 4000000 in
set_option maxRecDepth 100000 in
theorem c_X12_digOf (l : Launch) (C : pq_C) (X : va_W) (n : Nat) (S0 : pq_S) (hF : WF S0) (sz : Nat) (a0 : Nat) (x1 : Int32) (x2 : Int32) (Ta0 : TY S0 a0 12) (r : Int32) (S1 : pq_S) (hm : m_X12_digOf n a0 x1 x2 S0 = some (r, S1)) : MI l yX12_digOf (.code yX12_digOf cX12_digOf 3 (some .int) :: pq_U) rm_X12_digOf C X S0 sz [.ref a0, .int x1, .int x2] r S1 0 0 := by
  refine Met.ofW (cc := cX12_digOf) (maxL := 3) (ret := (some .int)) (by decide) rfl ?_
  intro p e s m args below meth c s₁ B hml hv
  obtain ⟨rfl, hv⟩ := hv
  have hsz := hv.1
  subst hsz
  have hw := pw_entry hF hv
  have hts := atoms_spec (ws := .code yX12_digOf cX12_digOf 3 (some .int) :: pq_U) B.pre
  have hU : ∀ w ∈ pq_U, w.before _ s = true := fun w h => hts w (List.mem_cons_of_mem _ h)
  have hx := B.exec
  have hb := B.bytes
  have hr := B.returns
  have hown : s.vm.findClass RX12 = some m.cls := findClass_of_methodNamed B.named
  have hlk := B.notSynchronized
  have hl := lv_entry ([.ref a0, .int x1, .int x2]) (n := 3) (Nat.le_of_ble_eq_true rfl)
  rw [lg_entry_eq]
  generalize (lg_sl ([.ref a0, .int x1, .int x2]) ++ List.replicate (3 - (lg_sl ([.ref a0, .int x1, .int x2])).length) Slot.unset).toArray = ls at hl ⊢
  have hl : lv_has ls 3 [(0, .ref a0), (1, .int x1), (2, .int x2)] := hl
  have hE : Ext S0 S0 := Ext.rf _
  have cx : Cx p s m _ meth c cX12_digOf 3 RX12 (some .int) := ⟨hx, hb, hml, hown, hU, hr, hlk⟩
  rw [m_X12_digOf] at hm
  refine lv_iload_n hx hb dX12_digOf_0 rfl (lv_at hl 2 rfl) ?_
  refine lv_if_ne (tgt := 6) hx hb dX12_digOf_1 (by decide) (fun h1 => ?_) (fun h1 => ?_)
  · rw [if_neg h1] at hm
    refine lv_aload_n hx hb dX12_digOf_6 rfl (lv_at hl 0 rfl) ?_
    obtain ⟨S_2, hq3, hm⟩ := bd_some hm
    refine pw_cv (va_runV (As := []) (rest := []) ⟨hx, hb, hml, hown, hU⟩ (c_X12_findFacts l C X n S0 hw.wf _ a0 (Ta0) S_2 hq3) (cwV 0 hU (pq_gV tw1853 tw1855 ts150 tw14 tc_X12_findFacts) rfl rfl rfl cd_X12_findFacts ⟨Nat.le_of_ble_eq_true rfl, Nat.le_of_ble_eq_true rfl⟩) (pw_preV hw Ta0 (by decide) rfl) rfl rfl hl.1 rfl (lv_room (Nat.le_of_ble_eq_true rfl)) dX12_digOf_7 ⟨Nat.zero_le _, Nat.zero_le _⟩) hw (fun H locs hw hx4 => ?_)
    have Ta0 : TY S_2 a0 12 := ty_ext hx4 Ta0
    have hE : Ext S0 S_2 := Ext.tr hE hx4
    refine lv_aload_n hx hb dX12_digOf_10 rfl (lv_at hl 0 rfl) ?_
    obtain ⟨q5, hq5, hm⟩ := bd_some hm
    have Tq5 : TY S_2 q5 14 := hw.wf.ref (k := 12) (j := 37) Ta0 (by decide) (by decide) hq5
    refine pg_rb (k := 12) (j := 37) (f := 1237) hx hb hown hU iu12 hw Ta0 (by decide) rfl (hU _ tw1508) rfl hq5 dX12_digOf_11 ?_
    refine lv_iconst (v := 2) hx hb dX12_digOf_14 (by decide) ?_
    refine lv_iconst (v := 1) hx hb dX12_digOf_15 (by decide) ?_
    obtain ⟨hi6, hm⟩ := ck_some hm
    refine pw_iast hx hb hw Tq5 hi6 dX12_digOf_16 (fun H locs hw => ?_)
    refine lv_aload_n hx hb dX12_digOf_17 rfl (lv_at hl 0 rfl) ?_
    obtain ⟨q7, hq7, hm⟩ := bd_some hm
    have Tq7 : TY (sA S_2 q5 (Int32.toNatClampNeg 2) 1) q7 14 := hw.wf.ref (k := 12) (j := 37) Ta0 (by decide) (by decide) hq7
    refine pg_rb (k := 12) (j := 37) (f := 1237) hx hb hown hU iu12 hw Ta0 (by decide) rfl (hU _ tw1508) rfl hq7 dX12_digOf_18 ?_
    refine lv_iconst (v := 3) hx hb dX12_digOf_21 (by decide) ?_
    refine lv_iload_n hx hb dX12_digOf_22 rfl (lv_at hl 2 rfl) ?_
    obtain ⟨hi8, hm⟩ := ck_some hm
    refine pw_iast hx hb hw Tq7 hi8 dX12_digOf_23 (fun H locs hw => ?_)
    obtain ⟨S_9, eS_9, hm⟩ := lt_some hm
    rw [← eS_9] at hw
    have Ta0 : TY S_9 a0 12 := by rw [eS_9]; exact Ta0
    have hE : Ext S0 S_9 := by rw [eS_9]; exact hE
    refine lv_aload_n hx hb dX12_digOf_24 rfl (lv_at hl 0 rfl) ?_
    obtain ⟨q10, hq10, hm⟩ := bd_some hm
    have Tq10 : TY S_9 q10 14 := hw.wf.ref (k := 12) (j := 37) Ta0 (by decide) (by decide) hq10
    refine pg_rb (k := 12) (j := 37) (f := 1237) hx hb hown hU iu12 hw Ta0 (by decide) rfl (hU _ tw1508) rfl hq10 dX12_digOf_25 ?_
    refine lv_iconst (v := 4) hx hb dX12_digOf_28 (by decide) ?_
    refine lv_aload_n hx hb dX12_digOf_29 rfl (lv_at hl 0 rfl) ?_
    obtain ⟨q11, hq11, hm⟩ := bd_some hm
    have Tq11 : TY S_9 q11 14 := hw.wf.ref (k := 12) (j := 47) Ta0 (by decide) (by decide) hq11
    refine pg_rb (k := 12) (j := 47) (f := 1247) hx hb hown hU iu12 hw Ta0 (by decide) rfl (hU _ tw1518) rfl hq11 dX12_digOf_30 ?_
    refine lv_bipush (v := 42) hx hb dX12_digOf_33 (by decide) ?_
    refine lv_iload_n hx hb dX12_digOf_35 rfl (lv_at hl 1 rfl) ?_
    refine lv_iadd hx hb dX12_digOf_36 ?_
    obtain ⟨hi12, hm⟩ := ck_some hm
    refine pw_iald hx hb hw Tq11 hi12 dX12_digOf_37 ?_
    obtain ⟨hi13, hm⟩ := ck_some hm
    refine pw_iast hx hb hw Tq10 hi13 dX12_digOf_38 (fun H locs hw => ?_)
    obtain ⟨S_14, eS_14, hm⟩ := lt_some hm
    rw [← eS_14] at hw
    have Ta0 : TY S_14 a0 12 := by rw [eS_14]; exact Ta0
    have hE : Ext S0 S_14 := by rw [eS_14]; exact hE
    refine lv_aload_n hx hb dX12_digOf_39 rfl (lv_at hl 0 rfl) ?_
    obtain ⟨q15, hq15, hm⟩ := bd_some hm
    have Tq15 : TY S_14 q15 14 := hw.wf.ref (k := 12) (j := 34) Ta0 (by decide) (by decide) hq15
    refine pg_rb (k := 12) (j := 34) (f := 1234) hx hb hown hU iu12 hw Ta0 (by decide) rfl (hU _ tw1505) rfl hq15 dX12_digOf_40 ?_
    refine lv_iconst (v := 1) hx hb dX12_digOf_43 (by decide) ?_
    obtain ⟨hi16, hm⟩ := ck_some hm
    refine pw_iald hx hb hw Tq15 hi16 dX12_digOf_44 ?_
    refine lv_if_ne (tgt := 54) hx hb dX12_digOf_45 (by decide) (fun h17 => ?_) (fun h17 => ?_)
    · rw [if_neg h17] at hm
      refine lv_aload_n hx hb dX12_digOf_54 rfl (lv_at hl 0 rfl) ?_
      refine lv_iconst (v := 1) hx hb dX12_digOf_55 (by decide) ?_
      obtain ⟨r20, S_18, hq19, hm⟩ := cb_some hm
      refine pw_ci (va_runV (As := [.int 1]) (rest := []) ⟨hx, hb, hml, hown, hU⟩ (c_X12_valueOf l C X n S_14 hw.wf _ a0 1 (Ta0) r20 S_18 hq19) (cwV 1 hU (pq_gV tw1860 tw1862 ts151 tw14 tc_X12_valueOf) rfl rfl rfl cd_X12_valueOf ⟨Nat.le_of_ble_eq_true rfl, Nat.le_of_ble_eq_true rfl⟩) (pw_preV hw Ta0 (by decide) rfl) rfl rfl hl.1 rfl (lv_room (Nat.le_of_ble_eq_true rfl)) dX12_digOf_56 ⟨Nat.zero_le _, Nat.zero_le _⟩) hw (fun H locs hw hx21 => ?_)
      have Ta0 : TY S_18 a0 12 := ty_ext hx21 Ta0
      have hE : Ext S0 S_18 := Ext.tr hE hx21
      exact wb_X12_digOf_59 cx C X S0 n r S1 a0 x1 r20 S_18 _ _ _ hw hE Ta0 (lv_sub hl [0, 1] rfl) hm
    · rw [if_pos h17] at hm
      refine lv_iconst (v := 3) hx hb dX12_digOf_48 (by decide) ?_
      refine lv_iload_n hx hb dX12_digOf_49 rfl (lv_at hl 2 rfl) ?_
      refine lv_imul hx hb dX12_digOf_50 ?_
      refine lv_goto (tgt := 59) hx hb dX12_digOf_51 (by decide) ?_
      exact wb_X12_digOf_59 cx C X S0 n r S1 a0 x1 ((3 : Int32) * x2) S_14 _ _ _ hw hE Ta0 (lv_sub hl [0, 1] rfl) hm
  · rw [if_pos h1] at hm
    refine lv_iconst (v := 0) hx hb dX12_digOf_4 (by decide) ?_
    cases hm
    exact pw_iret hx hb hr rfl hlk hw hE dX12_digOf_5
abbrev rm_X12_carries : Room := { frames := 3, cells := 0, slots := 0, locals := 70 }
def b_X12_carries_64 (n : Nat) (x2 : Int32) (x6 : Int32) (b0 : Nat) (z1 : Int32) (S : pq_S) : Option (Int32 × pq_S) := Option.bind (m_X12_adds n b0 (z1 + x2) x6 S) fun S_14 => some (1, S_14)
set_option maxHeartbeats 4000000 in
set_option maxRecDepth 100000 in
theorem wb_X12_carries_64 {p : Program} {l : Launch} {e : Env} {s : State} {m : MethodId} {args : Array Value} {below : List Frame} {meth : Method} {c : Code} (cx : Cx p s m args meth c cX12_carries 7 RX12 (some .boolean)) (C : pq_C) (X : va_W) (S0 : pq_S) (n : Nat) (r : Int32) (S1 : pq_S) : ∀ (x2 : Int32) (x6 : Int32) (b0 : Nat) (z1 : Int32) (S : pq_S) (H : Heap) (locs : List Loc) (ls : Array Slot), PW C X S (pq_F C X S0 s.heap.size) H locs s → Ext S0 S → TY S b0 12 → lv_has ls 7 [(2, .int x2), (6, .int x6)] → b_X12_carries_64 n x2 x6 b0 z1 S = some (r, S1) → W p l e rm_X12_carries s m args below meth c H locs 0 0 (MQ below (QcZ C X S0 s.heap.size r S1) args s 0 0 (pq_F C X S0 s.heap.size)) (F0 m 64 ls [.int z1, .ref b0]) := by
  obtain ⟨hx, hb, hml, hown, hU, hr, hlk⟩ := id cx
  intro x2 x6 b0 z1 S H locs ls hw hE Tb0 hl hm
  rw [b_X12_carries_64] at hm
  refine lv_iload_n hx hb dX12_carries_64 rfl (lv_at hl 0 rfl) ?_
  refine lv_iadd hx hb dX12_carries_65 ?_
  refine lv_iload hx hb dX12_carries_66 (lv_at hl 1 rfl) ?_
  obtain ⟨S_14, hq15, hm⟩ := bd_some hm
  refine pw_cv (va_runV (As := [.int (z1 + x2), .int x6]) (rest := []) ⟨hx, hb, hml, hown, hU⟩ (c_X12_adds l C X n S hw.wf _ b0 (z1 + x2) x6 (Tb0) S_14 hq15) (cwV 2 hU (pq_gV tw1870 tw1872 ts152 tw14 tc_X12_adds) rfl rfl rfl cd_X12_adds ⟨Nat.le_of_ble_eq_true rfl, Nat.le_of_ble_eq_true rfl⟩) (pw_preV hw Tb0 (by decide) rfl) rfl rfl hl.1 rfl (lv_room (Nat.le_of_ble_eq_true rfl)) dX12_carries_68 ⟨Nat.zero_le _, Nat.zero_le _⟩) hw (fun H locs hw hx16 => ?_)
  have hE : Ext S0 S_14 := Ext.tr hE hx16
  refine lv_iconst (v := 1) hx hb dX12_carries_71 (by decide) ?_
  cases hm
  exact pw_zret hx hb hr bz_1 hlk hw hE dX12_carries_72
def b_X12_carries_12 (n : Nat) (a0 : Nat) (x1 : Int32) (x2 : Int32) (x3 : Int32) (x4 : Int32) (z0 : Int32) (S : pq_S) : Option (Int32 × pq_S) := Option.bind (pR S 1247 a0) fun q2 => ck (ix (z0 + x1) (pN S q2)) (dix _ _) (if x3 ≤ (pA S q2 (Int32.toNatClampNeg (z0 + x1))) then cb (m_X12_arriveOf n a0 x1 x2 x3 x4 S) fun r7 S_5 => Option.bind (pR S_5 1247 a0) fun q9 => ck (ix (z0 + x1) (pN S_5 q9)) (dix _ _) (ck (ix (z0 + x1) (pN S_5 q9)) (dix _ _) (lt_ (sA S_5 q9 (Int32.toNatClampNeg (z0 + x1)) ((pA S_5 q9 (Int32.toNatClampNeg (z0 + x1))) - x3)) fun S_12 => if x4 = 1 then b_X12_carries_64 n x2 r7 a0 0 S_12 else b_X12_carries_64 n x2 r7 a0 6 S_12)) else some (0, S))
set_option maxHeartbeats 4000000 in
set_option maxRecDepth 100000 in
theorem wb_X12_carries_12 {p : Program} {l : Launch} {e : Env} {s : State} {m : MethodId} {args : Array Value} {below : List Frame} {meth : Method} {c : Code} (cx : Cx p s m args meth c cX12_carries 7 RX12 (some .boolean)) (C : pq_C) (X : va_W) (S0 : pq_S) (n : Nat) (r : Int32) (S1 : pq_S) : ∀ (a0 : Nat) (x1 : Int32) (x2 : Int32) (x3 : Int32) (x4 : Int32) (z0 : Int32) (S : pq_S) (H : Heap) (locs : List Loc) (ls : Array Slot), PW C X S (pq_F C X S0 s.heap.size) H locs s → Ext S0 S → TY S a0 12 → lv_has ls 7 [(0, .ref a0), (1, .int x1), (2, .int x2), (3, .int x3), (4, .int x4)] → b_X12_carries_12 n a0 x1 x2 x3 x4 z0 S = some (r, S1) → W p l e rm_X12_carries s m args below meth c H locs 0 0 (MQ below (QcZ C X S0 s.heap.size r S1) args s 0 0 (pq_F C X S0 s.heap.size)) (F0 m 12 ls [.int z0]) := by
  obtain ⟨hx, hb, hml, hown, hU, hr, hlk⟩ := id cx
  intro a0 x1 x2 x3 x4 z0 S H locs ls hw hE Ta0 hl hm
  rw [b_X12_carries_12] at hm
  refine lv_iload_n hx hb dX12_carries_12 rfl (lv_at hl 1 rfl) ?_
  refine lv_iadd hx hb dX12_carries_13 ?_
  refine lv_istore (lv' := [(5, .int (z0 + x1)), (0, .ref a0), (1, .int x1), (2, .int x2), (3, .int x3), (4, .int x4)]) hx hb dX12_carries_14 hl (by decide) rfl (fun ls hl => ?_)
  refine lv_aload_n hx hb dX12_carries_16 rfl (lv_at hl 1 rfl) ?_
  obtain ⟨q2, hq2, hm⟩ := bd_some hm
  have Tq2 : TY S q2 14 := hw.wf.ref (k := 12) (j := 47) Ta0 (by decide) (by decide) hq2
  refine pg_rb (k := 12) (j := 47) (f := 1247) hx hb hown hU iu12 hw Ta0 (by decide) rfl (hU _ tw1518) rfl hq2 dX12_carries_17 ?_
  refine lv_iload hx hb dX12_carries_20 (lv_at hl 0 rfl) ?_
  obtain ⟨hi3, hm⟩ := ck_some hm
  refine pw_iald hx hb hw Tq2 hi3 dX12_carries_22 ?_
  refine lv_iload_n hx hb dX12_carries_23 rfl (lv_at hl 4 rfl) ?_
  refine lv_icmp_ge (tgt := 29) hx hb dX12_carries_24 (by decide) (fun h4 => ?_) (fun h4 => ?_)
  · rw [if_pos h4] at hm
    refine lv_aload_n hx hb dX12_carries_29 rfl (lv_at hl 1 rfl) ?_
    refine lv_iload_n hx hb dX12_carries_30 rfl (lv_at hl 2 rfl) ?_
    refine lv_iload_n hx hb dX12_carries_31 rfl (lv_at hl 3 rfl) ?_
    refine lv_iload_n hx hb dX12_carries_32 rfl (lv_at hl 4 rfl) ?_
    refine lv_iload hx hb dX12_carries_33 (lv_at hl 5 rfl) ?_
    obtain ⟨r7, S_5, hq6, hm⟩ := cb_some hm
    refine pw_ci (va_runV (As := [.int x1, .int x2, .int x3, .int x4]) (rest := []) ⟨hx, hb, hml, hown, hU⟩ (c_X12_arriveOf l C X n S hw.wf _ a0 x1 x2 x3 x4 (Ta0) r7 S_5 hq6) (cwV 4 hU (pq_gV tw1849 tw1851 ts149 tw14 tc_X12_arriveOf) rfl rfl rfl cd_X12_arriveOf ⟨Nat.le_of_ble_eq_true rfl, Nat.le_of_ble_eq_true rfl⟩) (pw_preV hw Ta0 (by decide) rfl) rfl rfl hl.1 rfl (lv_room (Nat.le_of_ble_eq_true rfl)) dX12_carries_35 ⟨Nat.zero_le _, Nat.zero_le _⟩) hw (fun H locs hw hx8 => ?_)
    have Ta0 : TY S_5 a0 12 := ty_ext hx8 Ta0
    have hE : Ext S0 S_5 := Ext.tr hE hx8
    refine lv_istore (lv' := [(6, .int r7), (5, .int (z0 + x1)), (0, .ref a0), (1, .int x1), (2, .int x2), (3, .int x3), (4, .int x4)]) hx hb dX12_carries_38 hl (by decide) rfl (fun ls hl => ?_)
    refine lv_aload_n hx hb dX12_carries_40 rfl (lv_at hl 2 rfl) ?_
    obtain ⟨q9, hq9, hm⟩ := bd_some hm
    have Tq9 : TY S_5 q9 14 := hw.wf.ref (k := 12) (j := 47) Ta0 (by decide) (by decide) hq9
    refine pg_rb (k := 12) (j := 47) (f := 1247) hx hb hown hU iu12 hw Ta0 (by decide) rfl (hU _ tw1518) rfl hq9 dX12_carries_41 ?_
    refine lv_iload hx hb dX12_carries_44 (lv_at hl 1 rfl) ?_
    refine lv_dup2_11 hx hb dX12_carries_46 rfl rfl ?_
    obtain ⟨hi10, hm⟩ := ck_some hm
    refine pw_iald hx hb hw Tq9 hi10 dX12_carries_47 ?_
    refine lv_iload_n hx hb dX12_carries_48 rfl (lv_at hl 5 rfl) ?_
    refine lv_isub hx hb dX12_carries_49 ?_
    obtain ⟨hi11, hm⟩ := ck_some hm
    refine pw_iast hx hb hw Tq9 hi11 dX12_carries_50 (fun H locs hw => ?_)
    obtain ⟨S_12, eS_12, hm⟩ := lt_some hm
    rw [← eS_12] at hw
    have Ta0 : TY S_12 a0 12 := by rw [eS_12]; exact Ta0
    have hE : Ext S0 S_12 := by rw [eS_12]; exact hE
    refine lv_aload_n hx hb dX12_carries_51 rfl (lv_at hl 2 rfl) ?_
    refine lv_iload hx hb dX12_carries_52 (lv_at hl 6 rfl) ?_
    refine lv_iconst (v := 1) hx hb dX12_carries_54 (by decide) ?_
    refine lv_icmp_ne (tgt := 62) hx hb dX12_carries_55 (by decide) (fun h13 => ?_) (fun h13 => ?_)
    · rw [if_neg h13] at hm
      refine lv_bipush (v := 6) hx hb dX12_carries_62 (by decide) ?_
      exact wb_X12_carries_64 cx C X S0 n r S1 x2 r7 a0 6 S_12 _ _ _ hw hE Ta0 (lv_sub hl [4, 0] rfl) hm
    · rw [if_pos h13] at hm
      refine lv_iconst (v := 0) hx hb dX12_carries_58 (by decide) ?_
      refine lv_goto (tgt := 64) hx hb dX12_carries_59 (by decide) ?_
      exact wb_X12_carries_64 cx C X S0 n r S1 x2 r7 a0 0 S_12 _ _ _ hw hE Ta0 (lv_sub hl [4, 0] rfl) hm
  · rw [if_neg h4] at hm
    refine lv_iconst (v := 0) hx hb dX12_carries_27 (by decide) ?_
    cases hm
    exact pw_zret hx hb hr bz_0 hlk hw hE dX12_carries_28
def m_X12_carries (n : Nat) (a0 : Nat) (x1 : Int32) (x2 : Int32) (x3 : Int32) (x4 : Int32) (S0 : pq_S) : Option (Int32 × pq_S) := if x4 = 1 then b_X12_carries_12 n a0 x1 x2 x3 x4 0 S0 else b_X12_carries_12 n a0 x1 x2 x3 x4 6 S0
theorem tc_X12_carries : Cond.code yX12_carries cX12_carries 7 (some .boolean) ∈ pq_U := tw1848
theorem cd_X12_carries : yX12_carries.cls = RX12 ∧ yX12_carries.cls ≠ "java/lang/invoke/MethodHandle" ∧ yX12_carries.cls ≠ "java/lang/invoke/VarHandle" ∧ (parseMethodDescriptor yX12_carries.desc).map (fun d => d.parameters.length) = some 4 := by decide +kernel
set_option maxHeartbeats 4000000 in
set_option maxRecDepth 100000 in
theorem c_X12_carries (l : Launch) (C : pq_C) (X : va_W) (n : Nat) (S0 : pq_S) (hF : WF S0) (sz : Nat) (a0 : Nat) (x1 : Int32) (x2 : Int32) (x3 : Int32) (x4 : Int32) (Ta0 : TY S0 a0 12) (r : Int32) (S1 : pq_S) (hm : m_X12_carries n a0 x1 x2 x3 x4 S0 = some (r, S1)) : MZ l yX12_carries (.code yX12_carries cX12_carries 7 (some .boolean) :: pq_U) rm_X12_carries C X S0 sz [.ref a0, .int x1, .int x2, .int x3, .int x4] r S1 0 0 := by
  refine Met.ofW (cc := cX12_carries) (maxL := 7) (ret := (some .boolean)) (by decide) rfl ?_
  intro p e s m args below meth c s₁ B hml hv
  obtain ⟨rfl, hv⟩ := hv
  have hsz := hv.1
  subst hsz
  have hw := pw_entry hF hv
  have hts := atoms_spec (ws := .code yX12_carries cX12_carries 7 (some .boolean) :: pq_U) B.pre
  have hU : ∀ w ∈ pq_U, w.before _ s = true := fun w h => hts w (List.mem_cons_of_mem _ h)
  have hx := B.exec
  have hb := B.bytes
  have hr := B.returns
  have hown : s.vm.findClass RX12 = some m.cls := findClass_of_methodNamed B.named
  have hlk := B.notSynchronized
  have hl := lv_entry ([.ref a0, .int x1, .int x2, .int x3, .int x4]) (n := 7) (Nat.le_of_ble_eq_true rfl)
  rw [lg_entry_eq]
  generalize (lg_sl ([.ref a0, .int x1, .int x2, .int x3, .int x4]) ++ List.replicate (7 - (lg_sl ([.ref a0, .int x1, .int x2, .int x3, .int x4])).length) Slot.unset).toArray = ls at hl ⊢
  have hl : lv_has ls 7 [(0, .ref a0), (1, .int x1), (2, .int x2), (3, .int x3), (4, .int x4)] := hl
  have hE : Ext S0 S0 := Ext.rf _
  have cx : Cx p s m _ meth c cX12_carries 7 RX12 (some .boolean) := ⟨hx, hb, hml, hown, hU, hr, hlk⟩
  rw [m_X12_carries] at hm
  refine lv_iload hx hb dX12_carries_0 (lv_at hl 4 rfl) ?_
  refine lv_iconst (v := 1) hx hb dX12_carries_2 (by decide) ?_
  refine lv_icmp_ne (tgt := 10) hx hb dX12_carries_3 (by decide) (fun h1 => ?_) (fun h1 => ?_)
  · rw [if_neg h1] at hm
    refine lv_bipush (v := 6) hx hb dX12_carries_10 (by decide) ?_
    exact wb_X12_carries_12 cx C X S0 n r S1 a0 x1 x2 x3 x4 6 S0 _ _ _ hw hE Ta0 (lv_sub hl [0, 1, 2, 3, 4] rfl) hm
  · rw [if_pos h1] at hm
    refine lv_iconst (v := 0) hx hb dX12_carries_6 (by decide) ?_
    refine lv_goto (tgt := 12) hx hb dX12_carries_7 (by decide) ?_
    exact wb_X12_carries_12 cx C X S0 n r S1 a0 x1 x2 x3 x4 0 S0 _ _ _ hw hE Ta0 (lv_sub hl [0, 1, 2, 3, 4] rfl) hm
abbrev rm_X12_digsNow : Room := { frames := 3, cells := 0, slots := 0, locals := 68 }
def m_X12_digsNow (n : Nat) (a0 : Nat) (x1 : Int32) (x2 : Int32) (S0 : pq_S) : Option (Int32 × pq_S) := cb (m_X12_isOpenMine n a0 x2 S0) fun r3 S_1 => if r3 = 0 then some (0, S_1) else Option.bind (pR S_1 1247 a0) fun q7 => ck (ix ((42 : Int32) + x2) (pN S_1 q7)) (dix _ _) (if (pA S_1 q7 (Int32.toNatClampNeg ((42 : Int32) + x2))) = 0 then some (0, S_1) else cb (m_X12_digOf n a0 x2 x1 S_1) fun r12 S_10 => Option.bind (pR S_10 1247 a0) fun q14 => ck (ix 49 (pN S_10 q14)) (dix _ _) (ck (ix 49 (pN S_10 q14)) (dix _ _) (lt_ (sA S_10 q14 (Int32.toNatClampNeg 49) ((pA S_10 q14 (Int32.toNatClampNeg 49)) - ((pI S_10 1229 a0) * x1))) fun S_17 => Option.bind (pR S_17 1247 a0) fun q18 => ck (ix ((42 : Int32) + x2) (pN S_17 q18)) (dix _ _) (ck (ix ((42 : Int32) + x2) (pN S_17 q18)) (dix _ _) (lt_ (sA S_17 q18 (Int32.toNatClampNeg ((42 : Int32) + x2)) ((pA S_17 q18 (Int32.toNatClampNeg ((42 : Int32) + x2))) - r12)) fun S_21 => Option.bind (pR S_21 1247 a0) fun q22 => ck (ix ((45 : Int32) + x2) (pN S_21 q22)) (dix _ _) (ck (ix ((45 : Int32) + x2) (pN S_21 q22)) (dix _ _) (lt_ (sA S_21 q22 (Int32.toNatClampNeg ((45 : Int32) + x2)) ((pA S_21 q22 (Int32.toNatClampNeg ((45 : Int32) + x2))) + r12)) fun S_25 => Option.bind (pR S_25 1216 a0) fun q26 => ck (ix ((3 : Int32) * x2) (pN S_25 q26)) (dix _ _) (Option.bind (m_X12_adds n a0 ((0 : Int32) + (pA S_25 q26 (Int32.toNatClampNeg ((3 : Int32) * x2)))) r12 S_25) fun S_28 => some (1, S_28)))))))))
theorem tc_X12_digsNow : Cond.code yX12_digsNow cX12_digsNow 4 (some .boolean) ∈ pq_U := tw1885
theorem cd_X12_digsNow : yX12_digsNow.cls = RX12 ∧ yX12_digsNow.cls ≠ "java/lang/invoke/MethodHandle" ∧ yX12_digsNow.cls ≠ "java/lang/invoke/VarHandle" ∧ (parseMethodDescriptor yX12_digsNow.desc).map (fun d => d.parameters.length) = some 2 := by decide +kernel
set_option maxHeartbeats 4000000 in
set_option maxRecDepth 100000 in
theorem c_X12_digsNow (l : Launch) (C : pq_C) (X : va_W) (n : Nat) (S0 : pq_S) (hF : WF S0) (sz : Nat) (a0 : Nat) (x1 : Int32) (x2 : Int32) (Ta0 : TY S0 a0 12) (r : Int32) (S1 : pq_S) (hm : m_X12_digsNow n a0 x1 x2 S0 = some (r, S1)) : MZ l yX12_digsNow (.code yX12_digsNow cX12_digsNow 4 (some .boolean) :: pq_U) rm_X12_digsNow C X S0 sz [.ref a0, .int x1, .int x2] r S1 0 0 := by
  refine Met.ofW (cc := cX12_digsNow) (maxL := 4) (ret := (some .boolean)) (by decide) rfl ?_
  intro p e s m args below meth c s₁ B hml hv
  obtain ⟨rfl, hv⟩ := hv
  have hsz := hv.1
  subst hsz
  have hw := pw_entry hF hv
  have hts := atoms_spec (ws := .code yX12_digsNow cX12_digsNow 4 (some .boolean) :: pq_U) B.pre
  have hU : ∀ w ∈ pq_U, w.before _ s = true := fun w h => hts w (List.mem_cons_of_mem _ h)
  have hx := B.exec
  have hb := B.bytes
  have hr := B.returns
  have hown : s.vm.findClass RX12 = some m.cls := findClass_of_methodNamed B.named
  have hlk := B.notSynchronized
  have hl := lv_entry ([.ref a0, .int x1, .int x2]) (n := 4) (Nat.le_of_ble_eq_true rfl)
  rw [lg_entry_eq]
  generalize (lg_sl ([.ref a0, .int x1, .int x2]) ++ List.replicate (4 - (lg_sl ([.ref a0, .int x1, .int x2])).length) Slot.unset).toArray = ls at hl ⊢
  have hl : lv_has ls 4 [(0, .ref a0), (1, .int x1), (2, .int x2)] := hl
  have hE : Ext S0 S0 := Ext.rf _
  have cx : Cx p s m _ meth c cX12_digsNow 4 RX12 (some .boolean) := ⟨hx, hb, hml, hown, hU, hr, hlk⟩
  rw [m_X12_digsNow] at hm
  refine lv_aload_n hx hb dX12_digsNow_0 rfl (lv_at hl 0 rfl) ?_
  refine lv_iload_n hx hb dX12_digsNow_1 rfl (lv_at hl 2 rfl) ?_
  obtain ⟨r3, S_1, hq2, hm⟩ := cb_some hm
  refine pw_cz (va_runV (As := [.int x2]) (rest := []) ⟨hx, hb, hml, hown, hU⟩ (c_X12_isOpenMine l C X n S0 hw.wf _ a0 x2 (Ta0) r3 S_1 hq2) (cwV 1 hU (pq_gV tw1886 tw1888 ts156 tw14 tc_X12_isOpenMine) rfl rfl rfl cd_X12_isOpenMine ⟨Nat.le_of_ble_eq_true rfl, Nat.le_of_ble_eq_true rfl⟩) (pw_preV hw Ta0 (by decide) rfl) rfl rfl hl.1 rfl (lv_room (Nat.le_of_ble_eq_true rfl)) dX12_digsNow_2 ⟨Nat.zero_le _, Nat.zero_le _⟩) hw (fun H locs hw hx4 hz5 => ?_)
  have Ta0 : TY S_1 a0 12 := ty_ext hx4 Ta0
  have hE : Ext S0 S_1 := Ext.tr hE hx4
  refine lv_if_eq (tgt := 20) hx hb dX12_digsNow_5 (by decide) (fun h6 => ?_) (fun h6 => ?_)
  · rw [if_pos h6] at hm
    refine lv_iconst (v := 0) hx hb dX12_digsNow_20 (by decide) ?_
    cases hm
    exact pw_zret hx hb hr bz_0 hlk hw hE dX12_digsNow_21
  · rw [if_neg h6] at hm
    refine lv_aload_n hx hb dX12_digsNow_8 rfl (lv_at hl 0 rfl) ?_
    obtain ⟨q7, hq7, hm⟩ := bd_some hm
    have Tq7 : TY S_1 q7 14 := hw.wf.ref (k := 12) (j := 47) Ta0 (by decide) (by decide) hq7
    refine pg_rb (k := 12) (j := 47) (f := 1247) hx hb hown hU iu12 hw Ta0 (by decide) rfl (hU _ tw1518) rfl hq7 dX12_digsNow_9 ?_
    refine lv_bipush (v := 42) hx hb dX12_digsNow_12 (by decide) ?_
    refine lv_iload_n hx hb dX12_digsNow_14 rfl (lv_at hl 2 rfl) ?_
    refine lv_iadd hx hb dX12_digsNow_15 ?_
    obtain ⟨hi8, hm⟩ := ck_some hm
    refine pw_iald hx hb hw Tq7 hi8 dX12_digsNow_16 ?_
    refine lv_if_ne (tgt := 22) hx hb dX12_digsNow_17 (by decide) (fun h9 => ?_) (fun h9 => ?_)
    · rw [if_neg h9] at hm
      refine lv_aload_n hx hb dX12_digsNow_22 rfl (lv_at hl 0 rfl) ?_
      refine lv_iload_n hx hb dX12_digsNow_23 rfl (lv_at hl 2 rfl) ?_
      refine lv_iload_n hx hb dX12_digsNow_24 rfl (lv_at hl 1 rfl) ?_
      obtain ⟨r12, S_10, hq11, hm⟩ := cb_some hm
      refine pw_ci (va_runV (As := [.int x2, .int x1]) (rest := []) ⟨hx, hb, hml, hown, hU⟩ (c_X12_digOf l C X n S_1 hw.wf _ a0 x2 x1 (Ta0) r12 S_10 hq11) (cwV 2 hU (pq_gV tw1890 tw1892 ts157 tw14 tc_X12_digOf) rfl rfl rfl cd_X12_digOf ⟨Nat.le_of_ble_eq_true rfl, Nat.le_of_ble_eq_true rfl⟩) (pw_preV hw Ta0 (by decide) rfl) rfl rfl hl.1 rfl (lv_room (Nat.le_of_ble_eq_true rfl)) dX12_digsNow_25 ⟨Nat.zero_le _, Nat.zero_le _⟩) hw (fun H locs hw hx13 => ?_)
      have Ta0 : TY S_10 a0 12 := ty_ext hx13 Ta0
      have hE : Ext S0 S_10 := Ext.tr hE hx13
      refine lv_istore_n (lv' := [(3, .int r12), (0, .ref a0), (1, .int x1), (2, .int x2)]) hx hb dX12_digsNow_28 rfl hl (by decide) rfl (fun ls hl => ?_)
      refine lv_aload_n hx hb dX12_digsNow_29 rfl (lv_at hl 1 rfl) ?_
      obtain ⟨q14, hq14, hm⟩ := bd_some hm
      have Tq14 : TY S_10 q14 14 := hw.wf.ref (k := 12) (j := 47) Ta0 (by decide) (by decide) hq14
      refine pg_rb (k := 12) (j := 47) (f := 1247) hx hb hown hU iu12 hw Ta0 (by decide) rfl (hU _ tw1518) rfl hq14 dX12_digsNow_30 ?_
      refine lv_bipush (v := 49) hx hb dX12_digsNow_33 (by decide) ?_
      refine lv_dup2_11 hx hb dX12_digsNow_35 rfl rfl ?_
      obtain ⟨hi15, hm⟩ := ck_some hm
      refine pw_iald hx hb hw Tq14 hi15 dX12_digsNow_36 ?_
      refine lv_aload_n hx hb dX12_digsNow_37 rfl (lv_at hl 1 rfl) ?_
      refine pg_i (k := 12) (j := 29) (f := 1229) hx hb hown hU iu12 hw Ta0 (by decide) rfl (hU _ tw1500) rfl dX12_digsNow_38 ?_
      refine lv_iload_n hx hb dX12_digsNow_41 rfl (lv_at hl 2 rfl) ?_
      refine lv_imul hx hb dX12_digsNow_42 ?_
      refine lv_isub hx hb dX12_digsNow_43 ?_
      obtain ⟨hi16, hm⟩ := ck_some hm
      refine pw_iast hx hb hw Tq14 hi16 dX12_digsNow_44 (fun H locs hw => ?_)
      obtain ⟨S_17, eS_17, hm⟩ := lt_some hm
      rw [← eS_17] at hw
      have Ta0 : TY S_17 a0 12 := by rw [eS_17]; exact Ta0
      have hE : Ext S0 S_17 := by rw [eS_17]; exact hE
      refine lv_aload_n hx hb dX12_digsNow_45 rfl (lv_at hl 1 rfl) ?_
      obtain ⟨q18, hq18, hm⟩ := bd_some hm
      have Tq18 : TY S_17 q18 14 := hw.wf.ref (k := 12) (j := 47) Ta0 (by decide) (by decide) hq18
      refine pg_rb (k := 12) (j := 47) (f := 1247) hx hb hown hU iu12 hw Ta0 (by decide) rfl (hU _ tw1518) rfl hq18 dX12_digsNow_46 ?_
      refine lv_bipush (v := 42) hx hb dX12_digsNow_49 (by decide) ?_
      refine lv_iload_n hx hb dX12_digsNow_51 rfl (lv_at hl 3 rfl) ?_
      refine lv_iadd hx hb dX12_digsNow_52 ?_
      refine lv_dup2_11 hx hb dX12_digsNow_53 rfl rfl ?_
      obtain ⟨hi19, hm⟩ := ck_some hm
      refine pw_iald hx hb hw Tq18 hi19 dX12_digsNow_54 ?_
      refine lv_iload_n hx hb dX12_digsNow_55 rfl (lv_at hl 0 rfl) ?_
      refine lv_isub hx hb dX12_digsNow_56 ?_
      obtain ⟨hi20, hm⟩ := ck_some hm
      refine pw_iast hx hb hw Tq18 hi20 dX12_digsNow_57 (fun H locs hw => ?_)
      obtain ⟨S_21, eS_21, hm⟩ := lt_some hm
      rw [← eS_21] at hw
      have Ta0 : TY S_21 a0 12 := by rw [eS_21]; exact Ta0
      have hE : Ext S0 S_21 := by rw [eS_21]; exact hE
      refine lv_aload_n hx hb dX12_digsNow_58 rfl (lv_at hl 1 rfl) ?_
      obtain ⟨q22, hq22, hm⟩ := bd_some hm
      have Tq22 : TY S_21 q22 14 := hw.wf.ref (k := 12) (j := 47) Ta0 (by decide) (by decide) hq22
      refine pg_rb (k := 12) (j := 47) (f := 1247) hx hb hown hU iu12 hw Ta0 (by decide) rfl (hU _ tw1518) rfl hq22 dX12_digsNow_59 ?_
      refine lv_bipush (v := 45) hx hb dX12_digsNow_62 (by decide) ?_
      refine lv_iload_n hx hb dX12_digsNow_64 rfl (lv_at hl 3 rfl) ?_
      refine lv_iadd hx hb dX12_digsNow_65 ?_
      refine lv_dup2_11 hx hb dX12_digsNow_66 rfl rfl ?_
      obtain ⟨hi23, hm⟩ := ck_some hm
      refine pw_iald hx hb hw Tq22 hi23 dX12_digsNow_67 ?_
      refine lv_iload_n hx hb dX12_digsNow_68 rfl (lv_at hl 0 rfl) ?_
      refine lv_iadd hx hb dX12_digsNow_69 ?_
      obtain ⟨hi24, hm⟩ := ck_some hm
      refine pw_iast hx hb hw Tq22 hi24 dX12_digsNow_70 (fun H locs hw => ?_)
      obtain ⟨S_25, eS_25, hm⟩ := lt_some hm
      rw [← eS_25] at hw
      have Ta0 : TY S_25 a0 12 := by rw [eS_25]; exact Ta0
      have hE : Ext S0 S_25 := by rw [eS_25]; exact hE
      refine lv_aload_n hx hb dX12_digsNow_71 rfl (lv_at hl 1 rfl) ?_
      refine lv_iconst (v := 0) hx hb dX12_digsNow_72 (by decide) ?_
      refine lv_aload_n hx hb dX12_digsNow_73 rfl (lv_at hl 1 rfl) ?_
      obtain ⟨q26, hq26, hm⟩ := bd_some hm
      have Tq26 : TY S_25 q26 14 := hw.wf.ref (k := 12) (j := 16) Ta0 (by decide) (by decide) hq26
      refine pg_rb (k := 12) (j := 16) (f := 1216) hx hb hown hU iu12 hw Ta0 (by decide) rfl (hU _ tw1487) rfl hq26 dX12_digsNow_74 ?_
      refine lv_iconst (v := 3) hx hb dX12_digsNow_77 (by decide) ?_
      refine lv_iload_n hx hb dX12_digsNow_78 rfl (lv_at hl 3 rfl) ?_
      refine lv_imul hx hb dX12_digsNow_79 ?_
      obtain ⟨hi27, hm⟩ := ck_some hm
      refine pw_iald hx hb hw Tq26 hi27 dX12_digsNow_80 ?_
      refine lv_iadd hx hb dX12_digsNow_81 ?_
      refine lv_iload_n hx hb dX12_digsNow_82 rfl (lv_at hl 0 rfl) ?_
      obtain ⟨S_28, hq29, hm⟩ := bd_some hm
      refine pw_cv (va_runV (As := [.int ((0 : Int32) + (pA S_25 q26 (Int32.toNatClampNeg ((3 : Int32) * x2)))), .int r12]) (rest := []) ⟨hx, hb, hml, hown, hU⟩ (c_X12_adds l C X n S_25 hw.wf _ a0 ((0 : Int32) + (pA S_25 q26 (Int32.toNatClampNeg ((3 : Int32) * x2)))) r12 (Ta0) S_28 hq29) (cwV 2 hU (pq_gV tw1870 tw1872 ts152 tw14 tc_X12_adds) rfl rfl rfl cd_X12_adds ⟨Nat.le_of_ble_eq_true rfl, Nat.le_of_ble_eq_true rfl⟩) (pw_preV hw Ta0 (by decide) rfl) rfl rfl hl.1 rfl (lv_room (Nat.le_of_ble_eq_true rfl)) dX12_digsNow_83 ⟨Nat.zero_le _, Nat.zero_le _⟩) hw (fun H locs hw hx30 => ?_)
      have Ta0 : TY S_28 a0 12 := ty_ext hx30 Ta0
      have hE : Ext S0 S_28 := Ext.tr hE hx30
      refine lv_iconst (v := 1) hx hb dX12_digsNow_86 (by decide) ?_
      cases hm
      exact pw_zret hx hb hr bz_1 hlk hw hE dX12_digsNow_87
    · rw [if_pos h9] at hm
      refine lv_iconst (v := 0) hx hb dX12_digsNow_20 (by decide) ?_
      cases hm
      exact pw_zret hx hb hr bz_0 hlk hw hE dX12_digsNow_21
abbrev rm_X12_goes : Room := { frames := 4, cells := 0, slots := 0, locals := 96 }
def m_X12_goes (n : Nat) (a0 : Nat) (x1 : Int32) (S0 : pq_S) : Option (Int32 × pq_S) := Option.bind (pR S0 1239 a0) fun q1 => ck (ix x1 (pN S0 q1)) (dix _ _) (Option.bind (pR S0 1239 a0) fun q3 => ck (ix (x1 + (1 : Int32)) (pN S0 q3)) (dix _ _) (lt_ (pA S0 q3 (Int32.toNatClampNeg (x1 + (1 : Int32)))) fun v5 => Option.bind (pR S0 1239 a0) fun q6 => ck (ix (x1 + (2 : Int32)) (pN S0 q6)) (dix _ _) (lt_ (pA S0 q6 (Int32.toNatClampNeg (x1 + (2 : Int32)))) fun v8 => if (pA S0 q1 (Int32.toNatClampNeg x1)) = 0 then Option.bind (pR S0 1239 a0) fun q36 => ck (ix (x1 + (3 : Int32)) (pN S0 q36)) (dix _ _) (Option.bind (pR S0 1239 a0) fun q38 => ck (ix (x1 + (4 : Int32)) (pN S0 q38)) (dix _ _) (cb (m_X12_carries n a0 v5 v8 (pA S0 q36 (Int32.toNatClampNeg (x1 + (3 : Int32)))) (pA S0 q38 (Int32.toNatClampNeg (x1 + (4 : Int32)))) S0) fun r42 S_40 => some (r42, S_40))) else if (pA S0 q1 (Int32.toNatClampNeg x1)) = 1 then cb (m_X12_sells n a0 v5 S0) fun r33 S_31 => some (r33, S_31) else if (pA S0 q1 (Int32.toNatClampNeg x1)) = 3 then cb (m_X12_digsNow n a0 v8 v5 S0) fun r28 S_26 => some (r28, S_26) else if (pA S0 q1 (Int32.toNatClampNeg x1)) = 4 then Option.bind (m_X12_month n a0 S0) fun S_23 => some (1, S_23) else Option.bind (pR S0 1247 a0) fun q13 => ck (ix ((0 : Int32) + v5) (pN S0 q13)) (dix _ _) (if v8 ≤ (pA S0 q13 (Int32.toNatClampNeg ((0 : Int32) + v5))) then Option.bind (pR S0 1247 a0) fun q16 => ck (ix ((0 : Int32) + v5) (pN S0 q16)) (dix _ _) (ck (ix ((0 : Int32) + v5) (pN S0 q16)) (dix _ _) (lt_ (sA S0 q16 (Int32.toNatClampNeg ((0 : Int32) + v5)) ((pA S0 q16 (Int32.toNatClampNeg ((0 : Int32) + v5))) - v8)) fun S_19 => Option.bind (m_X12_adds n a0 ((6 : Int32) + v5) ((2 : Int32) * v8) S_19) fun S_20 => some (1, S_20))) else some (0, S0)))))
theorem tc_X12_goes : Cond.code yX12_goes cX12_goes 5 (some .boolean) ∈ pq_U := tw1844
theorem cd_X12_goes : yX12_goes.cls = RX12 ∧ yX12_goes.cls ≠ "java/lang/invoke/MethodHandle" ∧ yX12_goes.cls ≠ "java/lang/invoke/VarHandle" ∧ (parseMethodDescriptor yX12_goes.desc).map (fun d => d.parameters.length) = some 1 := by decide +kernel
set_option maxHeartbeats 4000000 in
set_option maxRecDepth 100000 in
theorem c_X12_goes (l : Launch) (C : pq_C) (X : va_W) (n : Nat) (S0 : pq_S) (hF : WF S0) (sz : Nat) (a0 : Nat) (x1 : Int32) (Ta0 : TY S0 a0 12) (r : Int32) (S1 : pq_S) (hm : m_X12_goes n a0 x1 S0 = some (r, S1)) : MZ l yX12_goes (.code yX12_goes cX12_goes 5 (some .boolean) :: pq_U) rm_X12_goes C X S0 sz [.ref a0, .int x1] r S1 0 0 := by
  refine Met.ofW (cc := cX12_goes) (maxL := 5) (ret := (some .boolean)) (by decide) rfl ?_
  intro p e s m args below meth c s₁ B hml hv
  obtain ⟨rfl, hv⟩ := hv
  have hsz := hv.1
  subst hsz
  have hw := pw_entry hF hv
  have hts := atoms_spec (ws := .code yX12_goes cX12_goes 5 (some .boolean) :: pq_U) B.pre
  have hU : ∀ w ∈ pq_U, w.before _ s = true := fun w h => hts w (List.mem_cons_of_mem _ h)
  have hx := B.exec
  have hb := B.bytes
  have hr := B.returns
  have hown : s.vm.findClass RX12 = some m.cls := findClass_of_methodNamed B.named
  have hlk := B.notSynchronized
  have hl := lv_entry ([.ref a0, .int x1]) (n := 5) (Nat.le_of_ble_eq_true rfl)
  rw [lg_entry_eq]
  generalize (lg_sl ([.ref a0, .int x1]) ++ List.replicate (5 - (lg_sl ([.ref a0, .int x1])).length) Slot.unset).toArray = ls at hl ⊢
  have hl : lv_has ls 5 [(0, .ref a0), (1, .int x1)] := hl
  have hE : Ext S0 S0 := Ext.rf _
  have cx : Cx p s m _ meth c cX12_goes 5 RX12 (some .boolean) := ⟨hx, hb, hml, hown, hU, hr, hlk⟩
  rw [m_X12_goes] at hm
  refine lv_aload_n hx hb dX12_goes_0 rfl (lv_at hl 0 rfl) ?_
  obtain ⟨q1, hq1, hm⟩ := bd_some hm
  have Tq1 : TY S0 q1 14 := hw.wf.ref (k := 12) (j := 39) Ta0 (by decide) (by decide) hq1
  refine pg_rb (k := 12) (j := 39) (f := 1239) hx hb hown hU iu12 hw Ta0 (by decide) rfl (hU _ tw1510) rfl hq1 dX12_goes_1 ?_
  refine lv_iload_n hx hb dX12_goes_4 rfl (lv_at hl 1 rfl) ?_
  obtain ⟨hi2, hm⟩ := ck_some hm
  refine pw_iald hx hb hw Tq1 hi2 dX12_goes_5 ?_
  refine lv_istore_n (lv' := [(2, .int (pA S0 q1 (Int32.toNatClampNeg x1))), (0, .ref a0), (1, .int x1)]) hx hb dX12_goes_6 rfl hl (by decide) rfl (fun ls hl => ?_)
  refine lv_aload_n hx hb dX12_goes_7 rfl (lv_at hl 1 rfl) ?_
  obtain ⟨q3, hq3, hm⟩ := bd_some hm
  have Tq3 : TY S0 q3 14 := hw.wf.ref (k := 12) (j := 39) Ta0 (by decide) (by decide) hq3
  refine pg_rb (k := 12) (j := 39) (f := 1239) hx hb hown hU iu12 hw Ta0 (by decide) rfl (hU _ tw1510) rfl hq3 dX12_goes_8 ?_
  refine lv_iload_n hx hb dX12_goes_11 rfl (lv_at hl 2 rfl) ?_
  refine lv_iconst (v := 1) hx hb dX12_goes_12 (by decide) ?_
  refine lv_iadd hx hb dX12_goes_13 ?_
  obtain ⟨hi4, hm⟩ := ck_some hm
  refine pw_iald hx hb hw Tq3 hi4 dX12_goes_14 ?_
  obtain ⟨v5, ev5, hm⟩ := lt_some hm
  refine lv_nmI ev5 ?_
  refine lv_istore_n (lv' := [(3, .int v5), (2, .int (pA S0 q1 (Int32.toNatClampNeg x1))), (0, .ref a0), (1, .int x1)]) hx hb dX12_goes_15 rfl hl (by decide) rfl (fun ls hl => ?_)
  refine lv_aload_n hx hb dX12_goes_16 rfl (lv_at hl 2 rfl) ?_
  obtain ⟨q6, hq6, hm⟩ := bd_some hm
  have Tq6 : TY S0 q6 14 := hw.wf.ref (k := 12) (j := 39) Ta0 (by decide) (by decide) hq6
  refine pg_rb (k := 12) (j := 39) (f := 1239) hx hb hown hU iu12 hw Ta0 (by decide) rfl (hU _ tw1510) rfl hq6 dX12_goes_17 ?_
  refine lv_iload_n hx hb dX12_goes_20 rfl (lv_at hl 3 rfl) ?_
  refine lv_iconst (v := 2) hx hb dX12_goes_21 (by decide) ?_
  refine lv_iadd hx hb dX12_goes_22 ?_
  obtain ⟨hi7, hm⟩ := ck_some hm
  refine pw_iald hx hb hw Tq6 hi7 dX12_goes_23 ?_
  obtain ⟨v8, ev8, hm⟩ := lt_some hm
  refine lv_nmI ev8 ?_
  refine lv_istore (lv' := [(4, .int v8), (3, .int v5), (2, .int (pA S0 q1 (Int32.toNatClampNeg x1))), (0, .ref a0), (1, .int x1)]) hx hb dX12_goes_24 hl (by decide) rfl (fun ls hl => ?_)
  refine lv_iload_n hx hb dX12_goes_26 rfl (lv_at hl 2 rfl) ?_
  refine lv_if_ne (tgt := 54) hx hb dX12_goes_27 (by decide) (fun h9 => ?_) (fun h9 => ?_)
  · rw [if_neg h9] at hm
    refine lv_iload_n hx hb dX12_goes_54 rfl (lv_at hl 2 rfl) ?_
    refine lv_iconst (v := 1) hx hb dX12_goes_55 (by decide) ?_
    refine lv_icmp_ne (tgt := 65) hx hb dX12_goes_56 (by decide) (fun h10 => ?_) (fun h10 => ?_)
    · rw [if_neg h10] at hm
      refine lv_iload_n hx hb dX12_goes_65 rfl (lv_at hl 2 rfl) ?_
      refine lv_iconst (v := 3) hx hb dX12_goes_66 (by decide) ?_
      refine lv_icmp_ne (tgt := 78) hx hb dX12_goes_67 (by decide) (fun h11 => ?_) (fun h11 => ?_)
      · rw [if_neg h11] at hm
        refine lv_iload_n hx hb dX12_goes_78 rfl (lv_at hl 2 rfl) ?_
        refine lv_iconst (v := 4) hx hb dX12_goes_79 (by decide) ?_
        refine lv_icmp_ne (tgt := 89) hx hb dX12_goes_80 (by decide) (fun h12 => ?_) (fun h12 => ?_)
        · rw [if_neg h12] at hm
          refine lv_aload_n hx hb dX12_goes_89 rfl (lv_at hl 3 rfl) ?_
          obtain ⟨q13, hq13, hm⟩ := bd_some hm
          have Tq13 : TY S0 q13 14 := hw.wf.ref (k := 12) (j := 47) Ta0 (by decide) (by decide) hq13
          refine pg_rb (k := 12) (j := 47) (f := 1247) hx hb hown hU iu12 hw Ta0 (by decide) rfl (hU _ tw1518) rfl hq13 dX12_goes_90 ?_
          refine lv_iconst (v := 0) hx hb dX12_goes_93 (by decide) ?_
          refine lv_iload_n hx hb dX12_goes_94 rfl (lv_at hl 1 rfl) ?_
          refine lv_iadd hx hb dX12_goes_95 ?_
          obtain ⟨hi14, hm⟩ := ck_some hm
          refine pw_iald hx hb hw Tq13 hi14 dX12_goes_96 ?_
          refine lv_iload hx hb dX12_goes_97 (lv_at hl 0 rfl) ?_
          refine lv_icmp_ge (tgt := 104) hx hb dX12_goes_99 (by decide) (fun h15 => ?_) (fun h15 => ?_)
          · rw [if_pos h15] at hm
            refine lv_aload_n hx hb dX12_goes_104 rfl (lv_at hl 3 rfl) ?_
            obtain ⟨q16, hq16, hm⟩ := bd_some hm
            have Tq16 : TY S0 q16 14 := hw.wf.ref (k := 12) (j := 47) Ta0 (by decide) (by decide) hq16
            refine pg_rb (k := 12) (j := 47) (f := 1247) hx hb hown hU iu12 hw Ta0 (by decide) rfl (hU _ tw1518) rfl hq16 dX12_goes_105 ?_
            refine lv_iconst (v := 0) hx hb dX12_goes_108 (by decide) ?_
            refine lv_iload_n hx hb dX12_goes_109 rfl (lv_at hl 1 rfl) ?_
            refine lv_iadd hx hb dX12_goes_110 ?_
            refine lv_dup2_11 hx hb dX12_goes_111 rfl rfl ?_
            obtain ⟨hi17, hm⟩ := ck_some hm
            refine pw_iald hx hb hw Tq16 hi17 dX12_goes_112 ?_
            refine lv_iload hx hb dX12_goes_113 (lv_at hl 0 rfl) ?_
            refine lv_isub hx hb dX12_goes_115 ?_
            obtain ⟨hi18, hm⟩ := ck_some hm
            refine pw_iast hx hb hw Tq16 hi18 dX12_goes_116 (fun H locs hw => ?_)
            obtain ⟨S_19, eS_19, hm⟩ := lt_some hm
            rw [← eS_19] at hw
            have Ta0 : TY S_19 a0 12 := by rw [eS_19]; exact Ta0
            have hE : Ext S0 S_19 := by rw [eS_19]; exact hE
            refine lv_aload_n hx hb dX12_goes_117 rfl (lv_at hl 3 rfl) ?_
            refine lv_bipush (v := 6) hx hb dX12_goes_118 (by decide) ?_
            refine lv_iload_n hx hb dX12_goes_120 rfl (lv_at hl 1 rfl) ?_
            refine lv_iadd hx hb dX12_goes_121 ?_
            refine lv_iconst (v := 2) hx hb dX12_goes_122 (by decide) ?_
            refine lv_iload hx hb dX12_goes_123 (lv_at hl 0 rfl) ?_
            refine lv_imul hx hb dX12_goes_125 ?_
            obtain ⟨S_20, hq21, hm⟩ := bd_some hm
            refine pw_cv (va_runV (As := [.int ((6 : Int32) + v5), .int ((2 : Int32) * v8)]) (rest := []) ⟨hx, hb, hml, hown, hU⟩ (c_X12_adds l C X n S_19 hw.wf _ a0 ((6 : Int32) + v5) ((2 : Int32) * v8) (Ta0) S_20 hq21) (cwV 2 hU (pq_gV tw1870 tw1872 ts152 tw14 tc_X12_adds) rfl rfl rfl cd_X12_adds ⟨Nat.le_of_ble_eq_true rfl, Nat.le_of_ble_eq_true rfl⟩) (pw_preV hw Ta0 (by decide) rfl) rfl rfl hl.1 rfl (lv_room (Nat.le_of_ble_eq_true rfl)) dX12_goes_126 ⟨Nat.zero_le _, Nat.zero_le _⟩) hw (fun H locs hw hx22 => ?_)
            have Ta0 : TY S_20 a0 12 := ty_ext hx22 Ta0
            have hE : Ext S0 S_20 := Ext.tr hE hx22
            refine lv_iconst (v := 1) hx hb dX12_goes_129 (by decide) ?_
            cases hm
            exact pw_zret hx hb hr bz_1 hlk hw hE dX12_goes_130
          · rw [if_neg h15] at hm
            refine lv_iconst (v := 0) hx hb dX12_goes_102 (by decide) ?_
            cases hm
            exact pw_zret hx hb hr bz_0 hlk hw hE dX12_goes_103
        · rw [if_pos h12] at hm
          refine lv_aload_n hx hb dX12_goes_83 rfl (lv_at hl 3 rfl) ?_
          obtain ⟨S_23, hq24, hm⟩ := bd_some hm
          refine pw_cv (va_runV (As := []) (rest := []) ⟨hx, hb, hml, hown, hU⟩ (c_X12_month l C X n S0 hw.wf _ a0 (Ta0) S_23 hq24) (cwV 0 hU (pq_gV tw1894 tw1896 ts158 tw14 tc_X12_month) rfl rfl rfl cd_X12_month ⟨Nat.le_of_ble_eq_true rfl, Nat.le_of_ble_eq_true rfl⟩) (pw_preV hw Ta0 (by decide) rfl) rfl rfl hl.1 rfl (lv_room (Nat.le_of_ble_eq_true rfl)) dX12_goes_84 ⟨Nat.zero_le _, Nat.zero_le _⟩) hw (fun H locs hw hx25 => ?_)
          have Ta0 : TY S_23 a0 12 := ty_ext hx25 Ta0
          have hE : Ext S0 S_23 := Ext.tr hE hx25
          refine lv_iconst (v := 1) hx hb dX12_goes_87 (by decide) ?_
          cases hm
          exact pw_zret hx hb hr bz_1 hlk hw hE dX12_goes_88
      · rw [if_pos h11] at hm
        refine lv_aload_n hx hb dX12_goes_70 rfl (lv_at hl 3 rfl) ?_
        refine lv_iload hx hb dX12_goes_71 (lv_at hl 0 rfl) ?_
        refine lv_iload_n hx hb dX12_goes_73 rfl (lv_at hl 1 rfl) ?_
        obtain ⟨r28, S_26, hq27, hm⟩ := cb_some hm
        refine pw_cz (va_runV (As := [.int v8, .int v5]) (rest := []) ⟨hx, hb, hml, hown, hU⟩ (c_X12_digsNow l C X n S0 hw.wf _ a0 v8 v5 (Ta0) r28 S_26 hq27) (cwV 2 hU (pq_gV tw1882 tw1884 ts155 tw14 tc_X12_digsNow) rfl rfl rfl cd_X12_digsNow ⟨Nat.le_of_ble_eq_true rfl, Nat.le_of_ble_eq_true rfl⟩) (pw_preV hw Ta0 (by decide) rfl) rfl rfl hl.1 rfl (lv_room (Nat.le_of_ble_eq_true rfl)) dX12_goes_74 ⟨Nat.zero_le _, Nat.zero_le _⟩) hw (fun H locs hw hx29 hz30 => ?_)
        have Ta0 : TY S_26 a0 12 := ty_ext hx29 Ta0
        have hE : Ext S0 S_26 := Ext.tr hE hx29
        cases hm
        exact pw_zret hx hb hr hz30 hlk hw hE dX12_goes_77
    · rw [if_pos h10] at hm
      refine lv_aload_n hx hb dX12_goes_59 rfl (lv_at hl 3 rfl) ?_
      refine lv_iload_n hx hb dX12_goes_60 rfl (lv_at hl 1 rfl) ?_
      obtain ⟨r33, S_31, hq32, hm⟩ := cb_some hm
      refine pw_cz (va_runV (As := [.int v5]) (rest := []) ⟨hx, hb, hml, hown, hU⟩ (c_X12_sells l C X n S0 hw.wf _ a0 v5 (Ta0) r33 S_31 hq32) (cwV 1 hU (pq_gV tw1874 tw1876 ts153 tw14 tc_X12_sells) rfl rfl rfl cd_X12_sells ⟨Nat.le_of_ble_eq_true rfl, Nat.le_of_ble_eq_true rfl⟩) (pw_preV hw Ta0 (by decide) rfl) rfl rfl hl.1 rfl (lv_room (Nat.le_of_ble_eq_true rfl)) dX12_goes_61 ⟨Nat.zero_le _, Nat.zero_le _⟩) hw (fun H locs hw hx34 hz35 => ?_)
      have Ta0 : TY S_31 a0 12 := ty_ext hx34 Ta0
      have hE : Ext S0 S_31 := Ext.tr hE hx34
      cases hm
      exact pw_zret hx hb hr hz35 hlk hw hE dX12_goes_64
  · rw [if_pos h9] at hm
    refine lv_aload_n hx hb dX12_goes_30 rfl (lv_at hl 3 rfl) ?_
    refine lv_iload_n hx hb dX12_goes_31 rfl (lv_at hl 1 rfl) ?_
    refine lv_iload hx hb dX12_goes_32 (lv_at hl 0 rfl) ?_
    refine lv_aload_n hx hb dX12_goes_34 rfl (lv_at hl 3 rfl) ?_
    obtain ⟨q36, hq36, hm⟩ := bd_some hm
    have Tq36 : TY S0 q36 14 := hw.wf.ref (k := 12) (j := 39) Ta0 (by decide) (by decide) hq36
    refine pg_rb (k := 12) (j := 39) (f := 1239) hx hb hown hU iu12 hw Ta0 (by decide) rfl (hU _ tw1510) rfl hq36 dX12_goes_35 ?_
    refine lv_iload_n hx hb dX12_goes_38 rfl (lv_at hl 4 rfl) ?_
    refine lv_iconst (v := 3) hx hb dX12_goes_39 (by decide) ?_
    refine lv_iadd hx hb dX12_goes_40 ?_
    obtain ⟨hi37, hm⟩ := ck_some hm
    refine pw_iald hx hb hw Tq36 hi37 dX12_goes_41 ?_
    refine lv_aload_n hx hb dX12_goes_42 rfl (lv_at hl 3 rfl) ?_
    obtain ⟨q38, hq38, hm⟩ := bd_some hm
    have Tq38 : TY S0 q38 14 := hw.wf.ref (k := 12) (j := 39) Ta0 (by decide) (by decide) hq38
    refine pg_rb (k := 12) (j := 39) (f := 1239) hx hb hown hU iu12 hw Ta0 (by decide) rfl (hU _ tw1510) rfl hq38 dX12_goes_43 ?_
    refine lv_iload_n hx hb dX12_goes_46 rfl (lv_at hl 4 rfl) ?_
    refine lv_iconst (v := 4) hx hb dX12_goes_47 (by decide) ?_
    refine lv_iadd hx hb dX12_goes_48 ?_
    obtain ⟨hi39, hm⟩ := ck_some hm
    refine pw_iald hx hb hw Tq38 hi39 dX12_goes_49 ?_
    obtain ⟨r42, S_40, hq41, hm⟩ := cb_some hm
    refine pw_cz (va_runV (As := [.int v5, .int v8, .int (pA S0 q36 (Int32.toNatClampNeg (x1 + (3 : Int32)))), .int (pA S0 q38 (Int32.toNatClampNeg (x1 + (4 : Int32))))]) (rest := []) ⟨hx, hb, hml, hown, hU⟩ (c_X12_carries l C X n S0 hw.wf _ a0 v5 v8 (pA S0 q36 (Int32.toNatClampNeg (x1 + (3 : Int32)))) (pA S0 q38 (Int32.toNatClampNeg (x1 + (4 : Int32)))) (Ta0) r42 S_40 hq41) (cwV 4 hU (pq_gV tw1845 tw1847 ts148 tw14 tc_X12_carries) rfl rfl rfl cd_X12_carries ⟨Nat.le_of_ble_eq_true rfl, Nat.le_of_ble_eq_true rfl⟩) (pw_preV hw Ta0 (by decide) rfl) rfl rfl hl.1 rfl (lv_room (Nat.le_of_ble_eq_true rfl)) dX12_goes_50 ⟨Nat.zero_le _, Nat.zero_le _⟩) hw (fun H locs hw hx43 hz44 => ?_)
    have Ta0 : TY S_40 a0 12 := ty_ext hx43 Ta0
    have hE : Ext S0 S_40 := Ext.tr hE hx43
    cases hm
    exact pw_zret hx hb hr hz44 hlk hw hE dX12_goes_53
abbrev rm_X12_arrives : Room := { frames := 3, cells := 0, slots := 0, locals := 70 }
def b_X12_arrives_55 (n : Nat) (a0 : Nat) (x1 : Int32) (x2 : Int32) (x3 : Int32) (x4 : Int32) (b0 : Nat) (z1 : Int32) (S : pq_S) : Option (Int32 × pq_S) := cb (m_X12_may n b0 z1 2 1 S) fun r28 S_26 => if r28 = 0 then some (0, S_26) else Option.bind (m_X12_take n a0 S_26) fun S_32 => cb (m_X12_arriveOf n a0 x1 x2 x3 x4 S_32) fun r37 S_35 => some (r37, S_35)
set_option maxHeartbeats 4000000 in
set_option maxRecDepth 100000 in
theorem wb_X12_arrives_55 {p : Program} {l : Launch} {e : Env} {s : State} {m : MethodId} {args : Array Value} {below : List Frame} {meth : Method} {c : Code} (cx : Cx p s m args meth c cX12_arrives 5 RX12 (some .int)) (C : pq_C) (X : va_W) (S0 : pq_S) (n : Nat) (r : Int32) (S1 : pq_S) : ∀ (a0 : Nat) (x1 : Int32) (x2 : Int32) (x3 : Int32) (x4 : Int32) (b0 : Nat) (z1 : Int32) (S : pq_S) (H : Heap) (locs : List Loc) (ls : Array Slot), PW C X S (pq_F C X S0 s.heap.size) H locs s → Ext S0 S → TY S a0 12 → TY S b0 12 → lv_has ls 5 [(0, .ref a0), (1, .int x1), (2, .int x2), (3, .int x3), (4, .int x4)] → b_X12_arrives_55 n a0 x1 x2 x3 x4 b0 z1 S = some (r, S1) → W p l e rm_X12_arrives s m args below meth c H locs 0 0 (MQ below (QcI C X S0 s.heap.size r S1) args s 0 0 (pq_F C X S0 s.heap.size)) (F0 m 55 ls [.int z1, .ref b0]) := by
  obtain ⟨hx, hb, hml, hown, hU, hr, hlk⟩ := id cx
  intro a0 x1 x2 x3 x4 b0 z1 S H locs ls hw hE Ta0 Tb0 hl hm
  rw [b_X12_arrives_55] at hm
  refine lv_iconst (v := 2) hx hb dX12_arrives_55 (by decide) ?_
  refine lv_iconst (v := 1) hx hb dX12_arrives_56 (by decide) ?_
  obtain ⟨r28, S_26, hq27, hm⟩ := cb_some hm
  refine pw_cz (va_runV (As := [.int z1, .int 2, .int 1]) (rest := []) ⟨hx, hb, hml, hown, hU⟩ (c_X12_may l C X n S hw.wf _ b0 z1 2 1 (Tb0) r28 S_26 hq27) (cwV 3 hU (pq_gV tw1703 tw1705 ts123 tw14 tc_X12_may) rfl rfl rfl cd_X12_may ⟨Nat.le_of_ble_eq_true rfl, Nat.le_of_ble_eq_true rfl⟩) (pw_preV hw Tb0 (by decide) rfl) rfl rfl hl.1 rfl (lv_room (Nat.le_of_ble_eq_true rfl)) dX12_arrives_57 ⟨Nat.zero_le _, Nat.zero_le _⟩) hw (fun H locs hw hx29 hz30 => ?_)
  have Ta0 : TY S_26 a0 12 := ty_ext hx29 Ta0
  have hE : Ext S0 S_26 := Ext.tr hE hx29
  refine lv_if_ne (tgt := 65) hx hb dX12_arrives_60 (by decide) (fun h31 => ?_) (fun h31 => ?_)
  · rw [if_neg h31] at hm
    refine lv_aload_n hx hb dX12_arrives_65 rfl (lv_at hl 0 rfl) ?_
    obtain ⟨S_32, hq33, hm⟩ := bd_some hm
    refine pw_cv (va_runV (As := []) (rest := []) ⟨hx, hb, hml, hown, hU⟩ (c_X12_take l C X n S_26 hw.wf _ a0 (Ta0) S_32 hq33) (cwV 0 hU (pq_gV tw1922 tw1924 ts161 tw14 tc_X12_take) rfl rfl rfl cd_X12_take ⟨Nat.le_of_ble_eq_true rfl, Nat.le_of_ble_eq_true rfl⟩) (pw_preV hw Ta0 (by decide) rfl) rfl rfl hl.1 rfl (lv_room (Nat.le_of_ble_eq_true rfl)) dX12_arrives_66 ⟨Nat.zero_le _, Nat.zero_le _⟩) hw (fun H locs hw hx34 => ?_)
    have Ta0 : TY S_32 a0 12 := ty_ext hx34 Ta0
    have hE : Ext S0 S_32 := Ext.tr hE hx34
    refine lv_aload_n hx hb dX12_arrives_69 rfl (lv_at hl 0 rfl) ?_
    refine lv_iload_n hx hb dX12_arrives_70 rfl (lv_at hl 1 rfl) ?_
    refine lv_iload_n hx hb dX12_arrives_71 rfl (lv_at hl 2 rfl) ?_
    refine lv_iload_n hx hb dX12_arrives_72 rfl (lv_at hl 3 rfl) ?_
    refine lv_iload hx hb dX12_arrives_73 (lv_at hl 4 rfl) ?_
    obtain ⟨r37, S_35, hq36, hm⟩ := cb_some hm
    refine pw_ci (va_runV (As := [.int x1, .int x2, .int x3, .int x4]) (rest := []) ⟨hx, hb, hml, hown, hU⟩ (c_X12_arriveOf l C X n S_32 hw.wf _ a0 x1 x2 x3 x4 (Ta0) r37 S_35 hq36) (cwV 4 hU (pq_gV tw1849 tw1851 ts149 tw14 tc_X12_arriveOf) rfl rfl rfl cd_X12_arriveOf ⟨Nat.le_of_ble_eq_true rfl, Nat.le_of_ble_eq_true rfl⟩) (pw_preV hw Ta0 (by decide) rfl) rfl rfl hl.1 rfl (lv_room (Nat.le_of_ble_eq_true rfl)) dX12_arrives_75 ⟨Nat.zero_le _, Nat.zero_le _⟩) hw (fun H locs hw hx38 => ?_)
    have Ta0 : TY S_35 a0 12 := ty_ext hx38 Ta0
    have hE : Ext S0 S_35 := Ext.tr hE hx38
    cases hm
    exact pw_iret hx hb hr rfl hlk hw hE dX12_arrives_78
  · rw [if_pos h31] at hm
    refine lv_iconst (v := 0) hx hb dX12_arrives_63 (by decide) ?_
    cases hm
    exact pw_iret hx hb hr rfl hlk hw hE dX12_arrives_64
def b_X12_arrives_54 (n : Nat) (a0 : Nat) (x1 : Int32) (x2 : Int32) (x3 : Int32) (x4 : Int32) (b0 : Nat) (S : pq_S) : Option (Int32 × pq_S) := b_X12_arrives_55 n a0 x1 x2 x3 x4 b0 0 S
set_option maxHeartbeats 4000000 in
set_option maxRecDepth 100000 in
theorem wb_X12_arrives_54 {p : Program} {l : Launch} {e : Env} {s : State} {m : MethodId} {args : Array Value} {below : List Frame} {meth : Method} {c : Code} (cx : Cx p s m args meth c cX12_arrives 5 RX12 (some .int)) (C : pq_C) (X : va_W) (S0 : pq_S) (n : Nat) (r : Int32) (S1 : pq_S) : ∀ (a0 : Nat) (x1 : Int32) (x2 : Int32) (x3 : Int32) (x4 : Int32) (b0 : Nat) (S : pq_S) (H : Heap) (locs : List Loc) (ls : Array Slot), PW C X S (pq_F C X S0 s.heap.size) H locs s → Ext S0 S → TY S a0 12 → TY S b0 12 → lv_has ls 5 [(0, .ref a0), (1, .int x1), (2, .int x2), (3, .int x3), (4, .int x4)] → b_X12_arrives_54 n a0 x1 x2 x3 x4 b0 S = some (r, S1) → W p l e rm_X12_arrives s m args below meth c H locs 0 0 (MQ below (QcI C X S0 s.heap.size r S1) args s 0 0 (pq_F C X S0 s.heap.size)) (F0 m 54 ls [.ref b0]) := by
  obtain ⟨hx, hb, hml, hown, hU, hr, hlk⟩ := id cx
  intro a0 x1 x2 x3 x4 b0 S H locs ls hw hE Ta0 Tb0 hl hm
  rw [b_X12_arrives_54] at hm
  refine lv_iconst (v := 0) hx hb dX12_arrives_54 (by decide) ?_
  exact wb_X12_arrives_55 cx C X S0 n r S1 a0 x1 x2 x3 x4 b0 0 S _ _ _ hw hE Ta0 Tb0 (lv_sub hl [0, 1, 2, 3, 4] rfl) hm
def m_X12_arrives (n : Nat) (a0 : Nat) (x1 : Int32) (x2 : Int32) (x3 : Int32) (x4 : Int32) (S0 : pq_S) : Option (Int32 × pq_S) := cb (m_X12_isPlace n a0 x1 1 (sI S0 1200 a0 0)) fun r3 S_1 => if r3 = 0 then some (0, S_1) else cb (m_X12_isPlace n a0 x2 1 S_1) fun r9 S_7 => if r9 = 0 then some (0, S_7) else if x1 = x2 then b_X12_arrives_54 n a0 x1 x2 x3 x4 a0 S_7 else cb (m_X12_within n x3 0 999 S_7) fun r16 S_14 => if r16 = 0 then b_X12_arrives_54 n a0 x1 x2 x3 x4 a0 S_14 else cb (m_X12_within n x4 0 1 S_14) fun r22 S_20 => if r22 = 0 then b_X12_arrives_54 n a0 x1 x2 x3 x4 a0 S_20 else b_X12_arrives_55 n a0 x1 x2 x3 x4 a0 1 S_20
theorem tc_X12_arrives : Cond.code yX12_arrives cX12_arrives 5 (some .int) ∈ pq_U := tw1949
theorem cd_X12_arrives : yX12_arrives.cls = RX12 ∧ yX12_arrives.cls ≠ "java/lang/invoke/MethodHandle" ∧ yX12_arrives.cls ≠ "java/lang/invoke/VarHandle" ∧ (parseMethodDescriptor yX12_arrives.desc).map (fun d => d.parameters.length) = some 4 := by decide +kernel
set_option maxHeartbeats 4000000 in
set_option maxRecDepth 100000 in
theorem c_X12_arrives (l : Launch) (C : pq_C) (X : va_W) (n : Nat) (S0 : pq_S) (hF : WF S0) (sz : Nat) (a0 : Nat) (x1 : Int32) (x2 : Int32) (x3 : Int32) (x4 : Int32) (Ta0 : TY S0 a0 12) (r : Int32) (S1 : pq_S) (hm : m_X12_arrives n a0 x1 x2 x3 x4 S0 = some (r, S1)) : MI l yX12_arrives (.code yX12_arrives cX12_arrives 5 (some .int) :: pq_U) rm_X12_arrives C X S0 sz [.ref a0, .int x1, .int x2, .int x3, .int x4] r S1 0 0 := by
  refine Met.ofW (cc := cX12_arrives) (maxL := 5) (ret := (some .int)) (by decide) rfl ?_
  intro p e s m args below meth c s₁ B hml hv
  obtain ⟨rfl, hv⟩ := hv
  have hsz := hv.1
  subst hsz
  have hw := pw_entry hF hv
  have hts := atoms_spec (ws := .code yX12_arrives cX12_arrives 5 (some .int) :: pq_U) B.pre
  have hU : ∀ w ∈ pq_U, w.before _ s = true := fun w h => hts w (List.mem_cons_of_mem _ h)
  have hx := B.exec
  have hb := B.bytes
  have hr := B.returns
  have hown : s.vm.findClass RX12 = some m.cls := findClass_of_methodNamed B.named
  have hlk := B.notSynchronized
  have hl := lv_entry ([.ref a0, .int x1, .int x2, .int x3, .int x4]) (n := 5) (Nat.le_of_ble_eq_true rfl)
  rw [lg_entry_eq]
  generalize (lg_sl ([.ref a0, .int x1, .int x2, .int x3, .int x4]) ++ List.replicate (5 - (lg_sl ([.ref a0, .int x1, .int x2, .int x3, .int x4])).length) Slot.unset).toArray = ls at hl ⊢
  have hl : lv_has ls 5 [(0, .ref a0), (1, .int x1), (2, .int x2), (3, .int x3), (4, .int x4)] := hl
  have hE : Ext S0 S0 := Ext.rf _
  have cx : Cx p s m _ meth c cX12_arrives 5 RX12 (some .int) := ⟨hx, hb, hml, hown, hU, hr, hlk⟩
  rw [m_X12_arrives] at hm
  refine lv_aload_n hx hb dX12_arrives_0 rfl (lv_at hl 0 rfl) ?_
  refine lv_iconst (v := 0) hx hb dX12_arrives_1 (by decide) ?_
  refine pp_i (k := 12) (j := 0) (f := 1200) hx hb hown hU iu12 tyX12_ok nmX12 hw Ta0 (by decide) rfl (hU _ tw1471) rfl rfl rfl dX12_arrives_2 (fun H locs hw => ?_)
  refine lv_aload_n hx hb dX12_arrives_5 rfl (lv_at hl 0 rfl) ?_
  refine lv_iload_n hx hb dX12_arrives_6 rfl (lv_at hl 1 rfl) ?_
  refine lv_iconst (v := 1) hx hb dX12_arrives_7 (by decide) ?_
  obtain ⟨r3, S_1, hq2, hm⟩ := cb_some hm
  refine pw_cz (va_runV (As := [.int x1, .int 1]) (rest := []) ⟨hx, hb, hml, hown, hU⟩ (c_X12_isPlace l C X n (sI S0 1200 a0 0) hw.wf _ a0 x1 1 (Ta0) r3 S_1 hq2) (cwV 2 hU (pq_gV tw1918 tw1920 ts160 tw14 tc_X12_isPlace) rfl rfl rfl cd_X12_isPlace ⟨Nat.le_of_ble_eq_true rfl, Nat.le_of_ble_eq_true rfl⟩) (pw_preV hw Ta0 (by decide) rfl) rfl rfl hl.1 rfl (lv_room (Nat.le_of_ble_eq_true rfl)) dX12_arrives_8 ⟨Nat.zero_le _, Nat.zero_le _⟩) hw (fun H locs hw hx4 hz5 => ?_)
  have Ta0 : TY S_1 a0 12 := ty_ext hx4 Ta0
  have hE : Ext S0 S_1 := Ext.tr hE hx4
  refine lv_if_eq (tgt := 63) hx hb dX12_arrives_11 (by decide) (fun h6 => ?_) (fun h6 => ?_)
  · rw [if_pos h6] at hm
    refine lv_iconst (v := 0) hx hb dX12_arrives_63 (by decide) ?_
    cases hm
    exact pw_iret hx hb hr rfl hlk hw hE dX12_arrives_64
  · rw [if_neg h6] at hm
    refine lv_aload_n hx hb dX12_arrives_14 rfl (lv_at hl 0 rfl) ?_
    refine lv_iload_n hx hb dX12_arrives_15 rfl (lv_at hl 2 rfl) ?_
    refine lv_iconst (v := 1) hx hb dX12_arrives_16 (by decide) ?_
    obtain ⟨r9, S_7, hq8, hm⟩ := cb_some hm
    refine pw_cz (va_runV (As := [.int x2, .int 1]) (rest := []) ⟨hx, hb, hml, hown, hU⟩ (c_X12_isPlace l C X n S_1 hw.wf _ a0 x2 1 (Ta0) r9 S_7 hq8) (cwV 2 hU (pq_gV tw1918 tw1920 ts160 tw14 tc_X12_isPlace) rfl rfl rfl cd_X12_isPlace ⟨Nat.le_of_ble_eq_true rfl, Nat.le_of_ble_eq_true rfl⟩) (pw_preV hw Ta0 (by decide) rfl) rfl rfl hl.1 rfl (lv_room (Nat.le_of_ble_eq_true rfl)) dX12_arrives_17 ⟨Nat.zero_le _, Nat.zero_le _⟩) hw (fun H locs hw hx10 hz11 => ?_)
    have Ta0 : TY S_7 a0 12 := ty_ext hx10 Ta0
    have hE : Ext S0 S_7 := Ext.tr hE hx10
    refine lv_if_eq (tgt := 63) hx hb dX12_arrives_20 (by decide) (fun h12 => ?_) (fun h12 => ?_)
    · rw [if_pos h12] at hm
      refine lv_iconst (v := 0) hx hb dX12_arrives_63 (by decide) ?_
      cases hm
      exact pw_iret hx hb hr rfl hlk hw hE dX12_arrives_64
    · rw [if_neg h12] at hm
      refine lv_aload_n hx hb dX12_arrives_23 rfl (lv_at hl 0 rfl) ?_
      refine lv_iload_n hx hb dX12_arrives_24 rfl (lv_at hl 1 rfl) ?_
      refine lv_iload_n hx hb dX12_arrives_25 rfl (lv_at hl 2 rfl) ?_
      refine lv_icmp_eq (tgt := 54) hx hb dX12_arrives_26 (by decide) (fun h13 => ?_) (fun h13 => ?_)
      · rw [if_pos h13] at hm
        exact wb_X12_arrives_54 cx C X S0 n r S1 a0 x1 x2 x3 x4 a0 S_7 _ _ _ hw hE Ta0 Ta0 (lv_sub hl [0, 1, 2, 3, 4] rfl) hm
      · rw [if_neg h13] at hm
        refine lv_iload_n hx hb dX12_arrives_29 rfl (lv_at hl 3 rfl) ?_
        refine lv_iconst (v := 0) hx hb dX12_arrives_30 (by decide) ?_
        refine lv_sipush (v := 999) hx hb dX12_arrives_31 (by decide) ?_
        obtain ⟨r16, S_14, hq15, hm⟩ := cb_some hm
        refine pw_cz (va_runS (As := [.int x3, .int 0, .int 999]) (rest := [.ref a0]) ⟨hx, hb, hml, hown, hU⟩ (c_X12_within l C X n S_7 hw.wf _ x3 0 999  r16 S_14 hq15) ⟨callB_of 3 hU (pq_g1 tc_X12_within) rfl rfl rfl (hU _ tw14) (hU _ tw1776) cd_X12_within.2 ⟨Nat.le_of_ble_eq_true rfl, Nat.le_of_ble_eq_true rfl⟩, hU _ tw1777⟩ (pw_preS hw) rfl rfl hl.1 rfl (lv_room (Nat.le_of_ble_eq_true rfl)) dX12_arrives_34 ⟨Nat.zero_le _, Nat.zero_le _⟩) hw (fun H locs hw hx17 hz18 => ?_)
        have Ta0 : TY S_14 a0 12 := ty_ext hx17 Ta0
        have hE : Ext S0 S_14 := Ext.tr hE hx17
        refine lv_if_eq (tgt := 54) hx hb dX12_arrives_37 (by decide) (fun h19 => ?_) (fun h19 => ?_)
        · rw [if_pos h19] at hm
          exact wb_X12_arrives_54 cx C X S0 n r S1 a0 x1 x2 x3 x4 a0 S_14 _ _ _ hw hE Ta0 Ta0 (lv_sub hl [0, 1, 2, 3, 4] rfl) hm
        · rw [if_neg h19] at hm
          refine lv_iload hx hb dX12_arrives_40 (lv_at hl 4 rfl) ?_
          refine lv_iconst (v := 0) hx hb dX12_arrives_42 (by decide) ?_
          refine lv_iconst (v := 1) hx hb dX12_arrives_43 (by decide) ?_
          obtain ⟨r22, S_20, hq21, hm⟩ := cb_some hm
          refine pw_cz (va_runS (As := [.int x4, .int 0, .int 1]) (rest := [.ref a0]) ⟨hx, hb, hml, hown, hU⟩ (c_X12_within l C X n S_14 hw.wf _ x4 0 1  r22 S_20 hq21) ⟨callB_of 3 hU (pq_g1 tc_X12_within) rfl rfl rfl (hU _ tw14) (hU _ tw1776) cd_X12_within.2 ⟨Nat.le_of_ble_eq_true rfl, Nat.le_of_ble_eq_true rfl⟩, hU _ tw1777⟩ (pw_preS hw) rfl rfl hl.1 rfl (lv_room (Nat.le_of_ble_eq_true rfl)) dX12_arrives_44 ⟨Nat.zero_le _, Nat.zero_le _⟩) hw (fun H locs hw hx23 hz24 => ?_)
          have Ta0 : TY S_20 a0 12 := ty_ext hx23 Ta0
          have hE : Ext S0 S_20 := Ext.tr hE hx23
          refine lv_if_eq (tgt := 54) hx hb dX12_arrives_47 (by decide) (fun h25 => ?_) (fun h25 => ?_)
          · rw [if_pos h25] at hm
            exact wb_X12_arrives_54 cx C X S0 n r S1 a0 x1 x2 x3 x4 a0 S_20 _ _ _ hw hE Ta0 Ta0 (lv_sub hl [0, 1, 2, 3, 4] rfl) hm
          · rw [if_neg h25] at hm
            refine lv_iconst (v := 1) hx hb dX12_arrives_50 (by decide) ?_
            refine lv_goto (tgt := 55) hx hb dX12_arrives_51 (by decide) ?_
            exact wb_X12_arrives_55 cx C X S0 n r S1 a0 x1 x2 x3 x4 a0 1 S_20 _ _ _ hw hE Ta0 Ta0 (lv_sub hl [0, 1, 2, 3, 4] rfl) hm
abbrev rm_X12_digs : Room := { frames := 3, cells := 0, slots := 0, locals := 68 }
def m_X12_digs (n : Nat) (a0 : Nat) (x1 : Int32) (x2 : Int32) (S0 : pq_S) : Option (Int32 × pq_S) := cb (m_X12_isMine n a0 x1 1 (sI S0 1200 a0 0)) fun r3 S_1 => if r3 = 0 then some (0, S_1) else cb (m_X12_within n x2 0 9 S_1) fun r9 S_7 => cb (m_X12_may n a0 r9 2 1 S_7) fun r14 S_12 => if r14 = 0 then some (0, S_12) else Option.bind (m_X12_take n a0 S_12) fun S_18 => cb (m_X12_digOf n a0 x1 x2 S_18) fun r23 S_21 => some (r23, S_21)
theorem tc_X12_digs : Cond.code yX12_digs cX12_digs 3 (some .int) ∈ pq_U := tw1953
theorem cd_X12_digs : yX12_digs.cls = RX12 ∧ yX12_digs.cls ≠ "java/lang/invoke/MethodHandle" ∧ yX12_digs.cls ≠ "java/lang/invoke/VarHandle" ∧ (parseMethodDescriptor yX12_digs.desc).map (fun d => d.parameters.length) = some 2 := by decide +kernel
set_option maxHeartbeats 4000000 in
set_option maxRecDepth 100000 in
theorem c_X12_digs (l : Launch) (C : pq_C) (X : va_W) (n : Nat) (S0 : pq_S) (hF : WF S0) (sz : Nat) (a0 : Nat) (x1 : Int32) (x2 : Int32) (Ta0 : TY S0 a0 12) (r : Int32) (S1 : pq_S) (hm : m_X12_digs n a0 x1 x2 S0 = some (r, S1)) : MI l yX12_digs (.code yX12_digs cX12_digs 3 (some .int) :: pq_U) rm_X12_digs C X S0 sz [.ref a0, .int x1, .int x2] r S1 0 0 := by
  refine Met.ofW (cc := cX12_digs) (maxL := 3) (ret := (some .int)) (by decide) rfl ?_
  intro p e s m args below meth c s₁ B hml hv
  obtain ⟨rfl, hv⟩ := hv
  have hsz := hv.1
  subst hsz
  have hw := pw_entry hF hv
  have hts := atoms_spec (ws := .code yX12_digs cX12_digs 3 (some .int) :: pq_U) B.pre
  have hU : ∀ w ∈ pq_U, w.before _ s = true := fun w h => hts w (List.mem_cons_of_mem _ h)
  have hx := B.exec
  have hb := B.bytes
  have hr := B.returns
  have hown : s.vm.findClass RX12 = some m.cls := findClass_of_methodNamed B.named
  have hlk := B.notSynchronized
  have hl := lv_entry ([.ref a0, .int x1, .int x2]) (n := 3) (Nat.le_of_ble_eq_true rfl)
  rw [lg_entry_eq]
  generalize (lg_sl ([.ref a0, .int x1, .int x2]) ++ List.replicate (3 - (lg_sl ([.ref a0, .int x1, .int x2])).length) Slot.unset).toArray = ls at hl ⊢
  have hl : lv_has ls 3 [(0, .ref a0), (1, .int x1), (2, .int x2)] := hl
  have hE : Ext S0 S0 := Ext.rf _
  have cx : Cx p s m _ meth c cX12_digs 3 RX12 (some .int) := ⟨hx, hb, hml, hown, hU, hr, hlk⟩
  rw [m_X12_digs] at hm
  refine lv_aload_n hx hb dX12_digs_0 rfl (lv_at hl 0 rfl) ?_
  refine lv_iconst (v := 0) hx hb dX12_digs_1 (by decide) ?_
  refine pp_i (k := 12) (j := 0) (f := 1200) hx hb hown hU iu12 tyX12_ok nmX12 hw Ta0 (by decide) rfl (hU _ tw1471) rfl rfl rfl dX12_digs_2 (fun H locs hw => ?_)
  refine lv_aload_n hx hb dX12_digs_5 rfl (lv_at hl 0 rfl) ?_
  refine lv_iload_n hx hb dX12_digs_6 rfl (lv_at hl 1 rfl) ?_
  refine lv_iconst (v := 1) hx hb dX12_digs_7 (by decide) ?_
  obtain ⟨r3, S_1, hq2, hm⟩ := cb_some hm
  refine pw_cz (va_runV (As := [.int x1, .int 1]) (rest := []) ⟨hx, hb, hml, hown, hU⟩ (c_X12_isMine l C X n (sI S0 1200 a0 0) hw.wf _ a0 x1 1 (Ta0) r3 S_1 hq2) (cwV 2 hU (pq_gV tw1942 tw1944 ts164 tw14 tc_X12_isMine) rfl rfl rfl cd_X12_isMine ⟨Nat.le_of_ble_eq_true rfl, Nat.le_of_ble_eq_true rfl⟩) (pw_preV hw Ta0 (by decide) rfl) rfl rfl hl.1 rfl (lv_room (Nat.le_of_ble_eq_true rfl)) dX12_digs_8 ⟨Nat.zero_le _, Nat.zero_le _⟩) hw (fun H locs hw hx4 hz5 => ?_)
  have Ta0 : TY S_1 a0 12 := ty_ext hx4 Ta0
  have hE : Ext S0 S_1 := Ext.tr hE hx4
  refine lv_if_eq (tgt := 30) hx hb dX12_digs_11 (by decide) (fun h6 => ?_) (fun h6 => ?_)
  · rw [if_pos h6] at hm
    refine lv_iconst (v := 0) hx hb dX12_digs_30 (by decide) ?_
    cases hm
    exact pw_iret hx hb hr rfl hlk hw hE dX12_digs_31
  · rw [if_neg h6] at hm
    refine lv_aload_n hx hb dX12_digs_14 rfl (lv_at hl 0 rfl) ?_
    refine lv_iload_n hx hb dX12_digs_15 rfl (lv_at hl 2 rfl) ?_
    refine lv_iconst (v := 0) hx hb dX12_digs_16 (by decide) ?_
    refine lv_bipush (v := 9) hx hb dX12_digs_17 (by decide) ?_
    obtain ⟨r9, S_7, hq8, hm⟩ := cb_some hm
    refine pw_cz (va_runS (As := [.int x2, .int 0, .int 9]) (rest := [.ref a0]) ⟨hx, hb, hml, hown, hU⟩ (c_X12_within l C X n S_1 hw.wf _ x2 0 9  r9 S_7 hq8) ⟨callB_of 3 hU (pq_g1 tc_X12_within) rfl rfl rfl (hU _ tw14) (hU _ tw1776) cd_X12_within.2 ⟨Nat.le_of_ble_eq_true rfl, Nat.le_of_ble_eq_true rfl⟩, hU _ tw1777⟩ (pw_preS hw) rfl rfl hl.1 rfl (lv_room (Nat.le_of_ble_eq_true rfl)) dX12_digs_19 ⟨Nat.zero_le _, Nat.zero_le _⟩) hw (fun H locs hw hx10 hz11 => ?_)
    have Ta0 : TY S_7 a0 12 := ty_ext hx10 Ta0
    have hE : Ext S0 S_7 := Ext.tr hE hx10
    refine lv_iconst (v := 2) hx hb dX12_digs_22 (by decide) ?_
    refine lv_iconst (v := 1) hx hb dX12_digs_23 (by decide) ?_
    obtain ⟨r14, S_12, hq13, hm⟩ := cb_some hm
    refine pw_cz (va_runV (As := [.int r9, .int 2, .int 1]) (rest := []) ⟨hx, hb, hml, hown, hU⟩ (c_X12_may l C X n S_7 hw.wf _ a0 r9 2 1 (Ta0) r14 S_12 hq13) (cwV 3 hU (pq_gV tw1703 tw1705 ts123 tw14 tc_X12_may) rfl rfl rfl cd_X12_may ⟨Nat.le_of_ble_eq_true rfl, Nat.le_of_ble_eq_true rfl⟩) (pw_preV hw Ta0 (by decide) rfl) rfl rfl hl.1 rfl (lv_room (Nat.le_of_ble_eq_true rfl)) dX12_digs_24 ⟨Nat.zero_le _, Nat.zero_le _⟩) hw (fun H locs hw hx15 hz16 => ?_)
    have Ta0 : TY S_12 a0 12 := ty_ext hx15 Ta0
    have hE : Ext S0 S_12 := Ext.tr hE hx15
    refine lv_if_ne (tgt := 32) hx hb dX12_digs_27 (by decide) (fun h17 => ?_) (fun h17 => ?_)
    · rw [if_neg h17] at hm
      refine lv_aload_n hx hb dX12_digs_32 rfl (lv_at hl 0 rfl) ?_
      obtain ⟨S_18, hq19, hm⟩ := bd_some hm
      refine pw_cv (va_runV (As := []) (rest := []) ⟨hx, hb, hml, hown, hU⟩ (c_X12_take l C X n S_12 hw.wf _ a0 (Ta0) S_18 hq19) (cwV 0 hU (pq_gV tw1922 tw1924 ts161 tw14 tc_X12_take) rfl rfl rfl cd_X12_take ⟨Nat.le_of_ble_eq_true rfl, Nat.le_of_ble_eq_true rfl⟩) (pw_preV hw Ta0 (by decide) rfl) rfl rfl hl.1 rfl (lv_room (Nat.le_of_ble_eq_true rfl)) dX12_digs_33 ⟨Nat.zero_le _, Nat.zero_le _⟩) hw (fun H locs hw hx20 => ?_)
      have Ta0 : TY S_18 a0 12 := ty_ext hx20 Ta0
      have hE : Ext S0 S_18 := Ext.tr hE hx20
      refine lv_aload_n hx hb dX12_digs_36 rfl (lv_at hl 0 rfl) ?_
      refine lv_iload_n hx hb dX12_digs_37 rfl (lv_at hl 1 rfl) ?_
      refine lv_iload_n hx hb dX12_digs_38 rfl (lv_at hl 2 rfl) ?_
      obtain ⟨r23, S_21, hq22, hm⟩ := cb_some hm
      refine pw_ci (va_runV (As := [.int x1, .int x2]) (rest := []) ⟨hx, hb, hml, hown, hU⟩ (c_X12_digOf l C X n S_18 hw.wf _ a0 x1 x2 (Ta0) r23 S_21 hq22) (cwV 2 hU (pq_gV tw1890 tw1892 ts157 tw14 tc_X12_digOf) rfl rfl rfl cd_X12_digOf ⟨Nat.le_of_ble_eq_true rfl, Nat.le_of_ble_eq_true rfl⟩) (pw_preV hw Ta0 (by decide) rfl) rfl rfl hl.1 rfl (lv_room (Nat.le_of_ble_eq_true rfl)) dX12_digs_39 ⟨Nat.zero_le _, Nat.zero_le _⟩) hw (fun H locs hw hx24 => ?_)
      have Ta0 : TY S_21 a0 12 := ty_ext hx24 Ta0
      have hE : Ext S0 S_21 := Ext.tr hE hx24
      cases hm
      exact pw_iret hx hb hr rfl hlk hw hE dX12_digs_42
    · rw [if_pos h17] at hm
      refine lv_iconst (v := 0) hx hb dX12_digs_30 (by decide) ?_
      cases hm
      exact pw_iret hx hb hr rfl hlk hw hE dX12_digs_31
abbrev rm_X12_brings : Room := { frames := 4, cells := 0, slots := 0, locals := 96 }
def b_X12_brings_115 (n : Nat) (k37 : Nat → Int32 → Int32 → Int32 → Int32 → Int32 → Int32 → pq_S → Option (Int32 × pq_S)) (a0 : Nat) (x1 : Int32) (x2 : Int32) (x3 : Int32) (x4 : Int32) (x5 : Int32) (x6 : Int32) (S : pq_S) : Option (Int32 × pq_S) := k37 a0 x1 x2 x3 x4 x5 (x6 + 1) S
set_option maxHeartbeats 4000000 in
set_option maxRecDepth 100000 in
theorem wb_X12_brings_115 {p : Program} {l : Launch} {e : Env} {s : State} {m : MethodId} {args : Array Value} {below : List Frame} {meth : Method} {c : Code} (cx : Cx p s m args meth c cX12_brings 7 RX12 (some .int)) (C : pq_C) (X : va_W) (S0 : pq_S) (n : Nat) (r : Int32) (S1 : pq_S) (k37 : Nat → Int32 → Int32 → Int32 → Int32 → Int32 → Int32 → pq_S → Option (Int32 × pq_S)) (hk37 : ∀ (a0 : Nat) (x1 : Int32) (x2 : Int32) (x3 : Int32) (x4 : Int32) (x5 : Int32) (x6 : Int32) (S : pq_S) (H : Heap) (locs : List Loc) (ls : Array Slot), PW C X S (pq_F C X S0 s.heap.size) H locs s → Ext S0 S → TY S a0 12 → lv_has ls 7 [(0, .ref a0), (1, .int x1), (2, .int x2), (3, .int x3), (4, .int x4), (5, .int x5), (6, .int x6)] → k37 a0 x1 x2 x3 x4 x5 x6 S = some (r, S1) → W p l e rm_X12_brings s m args below meth c H locs 0 0 (MQ below (QcI C X S0 s.heap.size r S1) args s 0 0 (pq_F C X S0 s.heap.size)) (F0 m 62 ls [])) : ∀ (a0 : Nat) (x1 : Int32) (x2 : Int32) (x3 : Int32) (x4 : Int32) (x5 : Int32) (x6 : Int32) (S : pq_S) (H : Heap) (locs : List Loc) (ls : Array Slot), PW C X S (pq_F C X S0 s.heap.size) H locs s → Ext S0 S → TY S a0 12 → lv_has ls 7 [(0, .ref a0), (1, .int x1), (2, .int x2), (3, .int x3), (4, .int x4), (5, .int x5), (6, .int x6)] → b_X12_brings_115 n k37 a0 x1 x2 x3 x4 x5 x6 S = some (r, S1) → W p l e rm_X12_brings s m args below meth c H locs 0 0 (MQ below (QcI C X S0 s.heap.size r S1) args s 0 0 (pq_F C X S0 s.heap.size)) (F0 m 115 ls []) := by
  obtain ⟨hx, hb, hml, hown, hU, hr, hlk⟩ := id cx
  intro a0 x1 x2 x3 x4 x5 x6 S H locs ls hw hE Ta0 hl hm
  rw [b_X12_brings_115] at hm
  refine lv_iinc (v := (x6 + 1)) (lv' := [(6, .int (x6 + 1)), (0, .ref a0), (1, .int x1), (2, .int x2), (3, .int x3), (4, .int x4), (5, .int x5)]) hx hb dX12_brings_115 hl (k := 6) rfl rfl (by decide) rfl (fun ls hl => ?_)
  refine lv_goto (tgt := 62) hx hb dX12_brings_118 (by decide) ?_
  exact hk37 a0 x1 x2 x3 x4 x5 (x6 + 1) S _ _ _ hw hE Ta0 (lv_sub hl [1, 2, 3, 4, 5, 6, 0] rfl) hm
def b_X12_brings_121 (n : Nat) (x3 : Int32) (x4 : Int32) (x5 : Int32) (S : pq_S) : Option (Int32 × pq_S) := if x3 = 0 then some (x4, S) else some (x5, S)
set_option maxHeartbeats 4000000 in
set_option maxRecDepth 100000 in
theorem wb_X12_brings_121 {p : Program} {l : Launch} {e : Env} {s : State} {m : MethodId} {args : Array Value} {below : List Frame} {meth : Method} {c : Code} (cx : Cx p s m args meth c cX12_brings 7 RX12 (some .int)) (C : pq_C) (X : va_W) (S0 : pq_S) (n : Nat) (r : Int32) (S1 : pq_S) : ∀ (x3 : Int32) (x4 : Int32) (x5 : Int32) (S : pq_S) (H : Heap) (locs : List Loc) (ls : Array Slot), PW C X S (pq_F C X S0 s.heap.size) H locs s → Ext S0 S → lv_has ls 7 [(3, .int x3), (4, .int x4), (5, .int x5)] → b_X12_brings_121 n x3 x4 x5 S = some (r, S1) → W p l e rm_X12_brings s m args below meth c H locs 0 0 (MQ below (QcI C X S0 s.heap.size r S1) args s 0 0 (pq_F C X S0 s.heap.size)) (F0 m 121 ls []) := by
  obtain ⟨hx, hb, hml, hown, hU, hr, hlk⟩ := id cx
  intro x3 x4 x5 S H locs ls hw hE hl hm
  rw [b_X12_brings_121] at hm
  refine lv_iload_n hx hb dX12_brings_121 rfl (lv_at hl 0 rfl) ?_
  refine lv_if_ne (tgt := 130) hx hb dX12_brings_122 (by decide) (fun h41 => ?_) (fun h41 => ?_)
  · rw [if_neg h41] at hm
    refine lv_iload hx hb dX12_brings_130 (lv_at hl 2 rfl) ?_
    cases hm
    exact pw_iret hx hb hr rfl hlk hw hE dX12_brings_132
  · rw [if_pos h41] at hm
    refine lv_iload hx hb dX12_brings_125 (lv_at hl 1 rfl) ?_
    refine lv_goto (tgt := 132) hx hb dX12_brings_127 (by decide) ?_
    cases hm
    exact pw_iret hx hb hr rfl hlk hw hE dX12_brings_132
def b_X12_brings_62 (n : Nat) : Nat → Nat → Int32 → Int32 → Int32 → Int32 → Int32 → Int32 → pq_S → Option (Int32 × pq_S)
  | 0, _, _, _, _, _, _, _, _ => none
  | f + 1, a0, x1, x2, x3, x4, x5, x6, S => Option.bind (pR S 1246 a0) fun q26 => ck (ix ((0 : Int32) + x1) (pN S q26)) (dix _ _) (if (pA S q26 (Int32.toNatClampNeg ((0 : Int32) + x1))) < x6 then b_X12_brings_121 n x3 x4 x5 S else Option.bind (m_X12_take n a0 S) fun S_29 => cb (m_X12_carries n a0 x1 x2 x6 1 S_29) fun r34 S_32 => Option.bind (m_X12_findSales n a0 S_32) fun S_37 => if x5 < (pI S_37 1253 a0) then b_X12_brings_115 n (b_X12_brings_62 n f) a0 x1 x2 x3 x6 (pI S_37 1253 a0) x6 S_37 else b_X12_brings_115 n (b_X12_brings_62 n f) a0 x1 x2 x3 x4 x5 x6 S_37)
set_option maxHeartbeats 4000000 in
set_option maxRecDepth 100000 in
theorem wb_X12_brings_62 {p : Program} {l : Launch} {e : Env} {s : State} {m : MethodId} {args : Array Value} {below : List Frame} {meth : Method} {c : Code} (cx : Cx p s m args meth c cX12_brings 7 RX12 (some .int)) (C : pq_C) (X : va_W) (S0 : pq_S) (n : Nat) (r : Int32) (S1 : pq_S) : ∀ (f : Nat) (a0 : Nat) (x1 : Int32) (x2 : Int32) (x3 : Int32) (x4 : Int32) (x5 : Int32) (x6 : Int32) (S : pq_S) (H : Heap) (locs : List Loc) (ls : Array Slot), PW C X S (pq_F C X S0 s.heap.size) H locs s → Ext S0 S → TY S a0 12 → lv_has ls 7 [(0, .ref a0), (1, .int x1), (2, .int x2), (3, .int x3), (4, .int x4), (5, .int x5), (6, .int x6)] → b_X12_brings_62 n f a0 x1 x2 x3 x4 x5 x6 S = some (r, S1) → W p l e rm_X12_brings s m args below meth c H locs 0 0 (MQ below (QcI C X S0 s.heap.size r S1) args s 0 0 (pq_F C X S0 s.heap.size)) (F0 m 62 ls []) := by
  obtain ⟨hx, hb, hml, hown, hU, hr, hlk⟩ := id cx
  intro f
  induction f with
  | zero =>
    intro a0 x1 x2 x3 x4 x5 x6 S H locs ls hw hE Ta0 hl hm
    cases hm
  | succ f ih =>
    intro a0 x1 x2 x3 x4 x5 x6 S H locs ls hw hE Ta0 hl hm
    rw [b_X12_brings_62] at hm
    refine lv_iload hx hb dX12_brings_62 (lv_at hl 6 rfl) ?_
    refine lv_aload_n hx hb dX12_brings_64 rfl (lv_at hl 0 rfl) ?_
    obtain ⟨q26, hq26, hm⟩ := bd_some hm
    have Tq26 : TY S q26 14 := hw.wf.ref (k := 12) (j := 46) Ta0 (by decide) (by decide) hq26
    refine pg_rb (k := 12) (j := 46) (f := 1246) hx hb hown hU iu12 hw Ta0 (by decide) rfl (hU _ tw1517) rfl hq26 dX12_brings_65 ?_
    refine lv_iconst (v := 0) hx hb dX12_brings_68 (by decide) ?_
    refine lv_iload_n hx hb dX12_brings_69 rfl (lv_at hl 1 rfl) ?_
    refine lv_iadd hx hb dX12_brings_70 ?_
    obtain ⟨hi27, hm⟩ := ck_some hm
    refine pw_iald hx hb hw Tq26 hi27 dX12_brings_71 ?_
    refine lv_icmp_gt (tgt := 121) hx hb dX12_brings_72 (by decide) (fun h28 => ?_) (fun h28 => ?_)
    · rw [if_pos h28] at hm
      exact wb_X12_brings_121 cx C X S0 n r S1 x3 x4 x5 S _ _ _ hw hE  (lv_sub hl [3, 4, 5] rfl) hm
    · rw [if_neg h28] at hm
      refine lv_aload_n hx hb dX12_brings_75 rfl (lv_at hl 0 rfl) ?_
      obtain ⟨S_29, hq30, hm⟩ := bd_some hm
      refine pw_cv (va_runV (As := []) (rest := []) ⟨hx, hb, hml, hown, hU⟩ (c_X12_take l C X n S hw.wf _ a0 (Ta0) S_29 hq30) (cwV 0 hU (pq_gV tw1922 tw1924 ts161 tw14 tc_X12_take) rfl rfl rfl cd_X12_take ⟨Nat.le_of_ble_eq_true rfl, Nat.le_of_ble_eq_true rfl⟩) (pw_preV hw Ta0 (by decide) rfl) rfl rfl hl.1 rfl (lv_room (Nat.le_of_ble_eq_true rfl)) dX12_brings_76 ⟨Nat.zero_le _, Nat.zero_le _⟩) hw (fun H locs hw hx31 => ?_)
      have Ta0 : TY S_29 a0 12 := ty_ext hx31 Ta0
      have hE : Ext S0 S_29 := Ext.tr hE hx31
      refine lv_aload_n hx hb dX12_brings_79 rfl (lv_at hl 0 rfl) ?_
      refine lv_iload_n hx hb dX12_brings_80 rfl (lv_at hl 1 rfl) ?_
      refine lv_iload_n hx hb dX12_brings_81 rfl (lv_at hl 2 rfl) ?_
      refine lv_iload hx hb dX12_brings_82 (lv_at hl 6 rfl) ?_
      refine lv_iconst (v := 1) hx hb dX12_brings_84 (by decide) ?_
      obtain ⟨r34, S_32, hq33, hm⟩ := cb_some hm
      refine pw_cz (va_runV (As := [.int x1, .int x2, .int x6, .int 1]) (rest := []) ⟨hx, hb, hml, hown, hU⟩ (c_X12_carries l C X n S_29 hw.wf _ a0 x1 x2 x6 1 (Ta0) r34 S_32 hq33) (cwV 4 hU (pq_gV tw1845 tw1847 ts148 tw14 tc_X12_carries) rfl rfl rfl cd_X12_carries ⟨Nat.le_of_ble_eq_true rfl, Nat.le_of_ble_eq_true rfl⟩) (pw_preV hw Ta0 (by decide) rfl) rfl rfl hl.1 rfl (lv_room (Nat.le_of_ble_eq_true rfl)) dX12_brings_85 ⟨Nat.zero_le _, Nat.zero_le _⟩) hw (fun H locs hw hx35 hz36 => ?_)
      have Ta0 : TY S_32 a0 12 := ty_ext hx35 Ta0
      have hE : Ext S0 S_32 := Ext.tr hE hx35
      refine lv_pop hx hb dX12_brings_88 rfl ?_
      refine lv_aload_n hx hb dX12_brings_89 rfl (lv_at hl 0 rfl) ?_
      obtain ⟨S_37, hq38, hm⟩ := bd_some hm
      refine pw_cv (va_runV (As := []) (rest := []) ⟨hx, hb, hml, hown, hU⟩ (c_X12_findSales l C X n S_32 hw.wf _ a0 (Ta0) S_37 hq38) (cwV 0 hU (pq_gV tw1962 tw1964 ts165 tw14 tc_X12_findSales) rfl rfl rfl cd_X12_findSales ⟨Nat.le_of_ble_eq_true rfl, Nat.le_of_ble_eq_true rfl⟩) (pw_preV hw Ta0 (by decide) rfl) rfl rfl hl.1 rfl (lv_room (Nat.le_of_ble_eq_true rfl)) dX12_brings_90 ⟨Nat.zero_le _, Nat.zero_le _⟩) hw (fun H locs hw hx39 => ?_)
      have Ta0 : TY S_37 a0 12 := ty_ext hx39 Ta0
      have hE : Ext S0 S_37 := Ext.tr hE hx39
      refine lv_aload_n hx hb dX12_brings_93 rfl (lv_at hl 0 rfl) ?_
      refine pg_i (k := 12) (j := 53) (f := 1253) hx hb hown hU iu12 hw Ta0 (by decide) rfl (hU _ tw1524) rfl dX12_brings_94 ?_
      refine lv_iload hx hb dX12_brings_97 (lv_at hl 5 rfl) ?_
      refine lv_icmp_gt (tgt := 105) hx hb dX12_brings_99 (by decide) (fun h40 => ?_) (fun h40 => ?_)
      · rw [if_pos h40] at hm
        refine lv_iload hx hb dX12_brings_105 (lv_at hl 6 rfl) ?_
        refine lv_istore (lv' := [(4, .int x6), (0, .ref a0), (1, .int x1), (2, .int x2), (3, .int x3), (5, .int x5), (6, .int x6)]) hx hb dX12_brings_107 hl (by decide) rfl (fun ls hl => ?_)
        refine lv_aload_n hx hb dX12_brings_109 rfl (lv_at hl 1 rfl) ?_
        refine pg_i (k := 12) (j := 53) (f := 1253) hx hb hown hU iu12 hw Ta0 (by decide) rfl (hU _ tw1524) rfl dX12_brings_110 ?_
        refine lv_istore (lv' := [(5, .int (pI S_37 1253 a0)), (4, .int x6), (0, .ref a0), (1, .int x1), (2, .int x2), (3, .int x3), (6, .int x6)]) hx hb dX12_brings_113 hl (by decide) rfl (fun ls hl => ?_)
        exact wb_X12_brings_115 cx C X S0 n r S1 _ ih a0 x1 x2 x3 x6 (pI S_37 1253 a0) x6 S_37 _ _ _ hw hE Ta0 (lv_sub hl [2, 3, 4, 5, 1, 0, 6] rfl) hm
      · rw [if_neg h40] at hm
        refine lv_goto (tgt := 115) hx hb dX12_brings_102 (by decide) ?_
        exact wb_X12_brings_115 cx C X S0 n r S1 _ ih a0 x1 x2 x3 x4 x5 x6 S_37 _ _ _ hw hE Ta0 (lv_sub hl [0, 1, 2, 3, 4, 5, 6] rfl) hm
def b_X12_brings_43 (n : Nat) (a0 : Nat) (x1 : Int32) (x2 : Int32) (x3 : Int32) (b0 : Nat) (z1 : Int32) (S : pq_S) : Option (Int32 × pq_S) := cb (m_X12_may n b0 z1 2 1 S) fun r22 S_20 => if r22 = 0 then some (0, S_20) else b_X12_brings_62 n n a0 x1 x2 x3 0 (-1) 0 S_20
set_option maxHeartbeats 4000000 in
set_option maxRecDepth 100000 in
theorem wb_X12_brings_43 {p : Program} {l : Launch} {e : Env} {s : State} {m : MethodId} {args : Array Value} {below : List Frame} {meth : Method} {c : Code} (cx : Cx p s m args meth c cX12_brings 7 RX12 (some .int)) (C : pq_C) (X : va_W) (S0 : pq_S) (n : Nat) (r : Int32) (S1 : pq_S) : ∀ (a0 : Nat) (x1 : Int32) (x2 : Int32) (x3 : Int32) (b0 : Nat) (z1 : Int32) (S : pq_S) (H : Heap) (locs : List Loc) (ls : Array Slot), PW C X S (pq_F C X S0 s.heap.size) H locs s → Ext S0 S → TY S a0 12 → TY S b0 12 → lv_has ls 7 [(0, .ref a0), (1, .int x1), (2, .int x2), (3, .int x3)] → b_X12_brings_43 n a0 x1 x2 x3 b0 z1 S = some (r, S1) → W p l e rm_X12_brings s m args below meth c H locs 0 0 (MQ below (QcI C X S0 s.heap.size r S1) args s 0 0 (pq_F C X S0 s.heap.size)) (F0 m 43 ls [.int z1, .ref b0]) := by
  obtain ⟨hx, hb, hml, hown, hU, hr, hlk⟩ := id cx
  intro a0 x1 x2 x3 b0 z1 S H locs ls hw hE Ta0 Tb0 hl hm
  rw [b_X12_brings_43] at hm
  refine lv_iconst (v := 2) hx hb dX12_brings_43 (by decide) ?_
  refine lv_iconst (v := 1) hx hb dX12_brings_44 (by decide) ?_
  obtain ⟨r22, S_20, hq21, hm⟩ := cb_some hm
  refine pw_cz (va_runV (As := [.int z1, .int 2, .int 1]) (rest := []) ⟨hx, hb, hml, hown, hU⟩ (c_X12_may l C X n S hw.wf _ b0 z1 2 1 (Tb0) r22 S_20 hq21) (cwV 3 hU (pq_gV tw1703 tw1705 ts123 tw14 tc_X12_may) rfl rfl rfl cd_X12_may ⟨Nat.le_of_ble_eq_true rfl, Nat.le_of_ble_eq_true rfl⟩) (pw_preV hw Tb0 (by decide) rfl) rfl rfl hl.1 rfl (lv_room (Nat.le_of_ble_eq_true rfl)) dX12_brings_45 ⟨Nat.zero_le _, Nat.zero_le _⟩) hw (fun H locs hw hx23 hz24 => ?_)
  have Ta0 : TY S_20 a0 12 := ty_ext hx23 Ta0
  have hE : Ext S0 S_20 := Ext.tr hE hx23
  refine lv_if_ne (tgt := 53) hx hb dX12_brings_48 (by decide) (fun h25 => ?_) (fun h25 => ?_)
  · rw [if_neg h25] at hm
    refine lv_iconst (v := 0) hx hb dX12_brings_53 (by decide) ?_
    refine lv_istore (lv' := [(4, .int 0), (0, .ref a0), (1, .int x1), (2, .int x2), (3, .int x3)]) hx hb dX12_brings_54 hl (by decide) rfl (fun ls hl => ?_)
    refine lv_iconst (v := (-1)) hx hb dX12_brings_56 (by decide) ?_
    refine lv_istore (lv' := [(5, .int (-1)), (4, .int 0), (0, .ref a0), (1, .int x1), (2, .int x2), (3, .int x3)]) hx hb dX12_brings_57 hl (by decide) rfl (fun ls hl => ?_)
    refine lv_iconst (v := 0) hx hb dX12_brings_59 (by decide) ?_
    refine lv_istore (lv' := [(6, .int 0), (5, .int (-1)), (4, .int 0), (0, .ref a0), (1, .int x1), (2, .int x2), (3, .int x3)]) hx hb dX12_brings_60 hl (by decide) rfl (fun ls hl => ?_)
    exact wb_X12_brings_62 cx C X S0 n r S1 n a0 x1 x2 x3 0 (-1) 0 S_20 _ _ _ hw hE Ta0 (lv_sub hl [3, 4, 5, 6, 2, 1, 0] rfl) hm
  · rw [if_pos h25] at hm
    refine lv_iconst (v := 0) hx hb dX12_brings_51 (by decide) ?_
    cases hm
    exact pw_iret hx hb hr rfl hlk hw hE dX12_brings_52
def b_X12_brings_42 (n : Nat) (a0 : Nat) (x1 : Int32) (x2 : Int32) (x3 : Int32) (b0 : Nat) (S : pq_S) : Option (Int32 × pq_S) := b_X12_brings_43 n a0 x1 x2 x3 b0 0 S
set_option maxHeartbeats 4000000 in
set_option maxRecDepth 100000 in
theorem wb_X12_brings_42 {p : Program} {l : Launch} {e : Env} {s : State} {m : MethodId} {args : Array Value} {below : List Frame} {meth : Method} {c : Code} (cx : Cx p s m args meth c cX12_brings 7 RX12 (some .int)) (C : pq_C) (X : va_W) (S0 : pq_S) (n : Nat) (r : Int32) (S1 : pq_S) : ∀ (a0 : Nat) (x1 : Int32) (x2 : Int32) (x3 : Int32) (b0 : Nat) (S : pq_S) (H : Heap) (locs : List Loc) (ls : Array Slot), PW C X S (pq_F C X S0 s.heap.size) H locs s → Ext S0 S → TY S a0 12 → TY S b0 12 → lv_has ls 7 [(0, .ref a0), (1, .int x1), (2, .int x2), (3, .int x3)] → b_X12_brings_42 n a0 x1 x2 x3 b0 S = some (r, S1) → W p l e rm_X12_brings s m args below meth c H locs 0 0 (MQ below (QcI C X S0 s.heap.size r S1) args s 0 0 (pq_F C X S0 s.heap.size)) (F0 m 42 ls [.ref b0]) := by
  obtain ⟨hx, hb, hml, hown, hU, hr, hlk⟩ := id cx
  intro a0 x1 x2 x3 b0 S H locs ls hw hE Ta0 Tb0 hl hm
  rw [b_X12_brings_42] at hm
  refine lv_iconst (v := 0) hx hb dX12_brings_42 (by decide) ?_
  exact wb_X12_brings_43 cx C X S0 n r S1 a0 x1 x2 x3 b0 0 S _ _ _ hw hE Ta0 Tb0 (lv_sub hl [0, 1, 2, 3] rfl) hm
def m_X12_brings (n : Nat) (a0 : Nat) (x1 : Int32) (x2 : Int32) (x3 : Int32) (S0 : pq_S) : Option (Int32 × pq_S) := cb (m_X12_isPlace n a0 x1 1 (sI S0 1200 a0 0)) fun r3 S_1 => if r3 = 0 then some (0, S_1) else cb (m_X12_isPlace n a0 x2 1 S_1) fun r9 S_7 => if r9 = 0 then some (0, S_7) else if x1 = x2 then b_X12_brings_42 n a0 x1 x2 x3 a0 S_7 else cb (m_X12_within n x3 0 1 S_7) fun r16 S_14 => if r16 = 0 then b_X12_brings_42 n a0 x1 x2 x3 a0 S_14 else b_X12_brings_43 n a0 x1 x2 x3 a0 1 S_14
theorem tc_X12_brings : Cond.code yX12_brings cX12_brings 7 (some .int) ∈ pq_U := tw1973
theorem cd_X12_brings : yX12_brings.cls = RX12 ∧ yX12_brings.cls ≠ "java/lang/invoke/MethodHandle" ∧ yX12_brings.cls ≠ "java/lang/invoke/VarHandle" ∧ (parseMethodDescriptor yX12_brings.desc).map (fun d => d.parameters.length) = some 3 := by decide +kernel
set_option maxHeartbeats 4000000 in
set_option maxRecDepth 100000 in
theorem c_X12_brings (l : Launch) (C : pq_C) (X : va_W) (n : Nat) (S0 : pq_S) (hF : WF S0) (sz : Nat) (a0 : Nat) (x1 : Int32) (x2 : Int32) (x3 : Int32) (Ta0 : TY S0 a0 12) (r : Int32) (S1 : pq_S) (hm : m_X12_brings n a0 x1 x2 x3 S0 = some (r, S1)) : MI l yX12_brings (.code yX12_brings cX12_brings 7 (some .int) :: pq_U) rm_X12_brings C X S0 sz [.ref a0, .int x1, .int x2, .int x3] r S1 0 0 := by
  refine Met.ofW (cc := cX12_brings) (maxL := 7) (ret := (some .int)) (by decide) rfl ?_
  intro p e s m args below meth c s₁ B hml hv
  obtain ⟨rfl, hv⟩ := hv
  have hsz := hv.1
  subst hsz
  have hw := pw_entry hF hv
  have hts := atoms_spec (ws := .code yX12_brings cX12_brings 7 (some .int) :: pq_U) B.pre
  have hU : ∀ w ∈ pq_U, w.before _ s = true := fun w h => hts w (List.mem_cons_of_mem _ h)
  have hx := B.exec
  have hb := B.bytes
  have hr := B.returns
  have hown : s.vm.findClass RX12 = some m.cls := findClass_of_methodNamed B.named
  have hlk := B.notSynchronized
  have hl := lv_entry ([.ref a0, .int x1, .int x2, .int x3]) (n := 7) (Nat.le_of_ble_eq_true rfl)
  rw [lg_entry_eq]
  generalize (lg_sl ([.ref a0, .int x1, .int x2, .int x3]) ++ List.replicate (7 - (lg_sl ([.ref a0, .int x1, .int x2, .int x3])).length) Slot.unset).toArray = ls at hl ⊢
  have hl : lv_has ls 7 [(0, .ref a0), (1, .int x1), (2, .int x2), (3, .int x3)] := hl
  have hE : Ext S0 S0 := Ext.rf _
  have cx : Cx p s m _ meth c cX12_brings 7 RX12 (some .int) := ⟨hx, hb, hml, hown, hU, hr, hlk⟩
  rw [m_X12_brings] at hm
  refine lv_aload_n hx hb dX12_brings_0 rfl (lv_at hl 0 rfl) ?_
  refine lv_iconst (v := 0) hx hb dX12_brings_1 (by decide) ?_
  refine pp_i (k := 12) (j := 0) (f := 1200) hx hb hown hU iu12 tyX12_ok nmX12 hw Ta0 (by decide) rfl (hU _ tw1471) rfl rfl rfl dX12_brings_2 (fun H locs hw => ?_)
  refine lv_aload_n hx hb dX12_brings_5 rfl (lv_at hl 0 rfl) ?_
  refine lv_iload_n hx hb dX12_brings_6 rfl (lv_at hl 1 rfl) ?_
  refine lv_iconst (v := 1) hx hb dX12_brings_7 (by decide) ?_
  obtain ⟨r3, S_1, hq2, hm⟩ := cb_some hm
  refine pw_cz (va_runV (As := [.int x1, .int 1]) (rest := []) ⟨hx, hb, hml, hown, hU⟩ (c_X12_isPlace l C X n (sI S0 1200 a0 0) hw.wf _ a0 x1 1 (Ta0) r3 S_1 hq2) (cwV 2 hU (pq_gV tw1918 tw1920 ts160 tw14 tc_X12_isPlace) rfl rfl rfl cd_X12_isPlace ⟨Nat.le_of_ble_eq_true rfl, Nat.le_of_ble_eq_true rfl⟩) (pw_preV hw Ta0 (by decide) rfl) rfl rfl hl.1 rfl (lv_room (Nat.le_of_ble_eq_true rfl)) dX12_brings_8 ⟨Nat.zero_le _, Nat.zero_le _⟩) hw (fun H locs hw hx4 hz5 => ?_)
  have Ta0 : TY S_1 a0 12 := ty_ext hx4 Ta0
  have hE : Ext S0 S_1 := Ext.tr hE hx4
  refine lv_if_eq (tgt := 51) hx hb dX12_brings_11 (by decide) (fun h6 => ?_) (fun h6 => ?_)
  · rw [if_pos h6] at hm
    refine lv_iconst (v := 0) hx hb dX12_brings_51 (by decide) ?_
    cases hm
    exact pw_iret hx hb hr rfl hlk hw hE dX12_brings_52
  · rw [if_neg h6] at hm
    refine lv_aload_n hx hb dX12_brings_14 rfl (lv_at hl 0 rfl) ?_
    refine lv_iload_n hx hb dX12_brings_15 rfl (lv_at hl 2 rfl) ?_
    refine lv_iconst (v := 1) hx hb dX12_brings_16 (by decide) ?_
    obtain ⟨r9, S_7, hq8, hm⟩ := cb_some hm
    refine pw_cz (va_runV (As := [.int x2, .int 1]) (rest := []) ⟨hx, hb, hml, hown, hU⟩ (c_X12_isPlace l C X n S_1 hw.wf _ a0 x2 1 (Ta0) r9 S_7 hq8) (cwV 2 hU (pq_gV tw1918 tw1920 ts160 tw14 tc_X12_isPlace) rfl rfl rfl cd_X12_isPlace ⟨Nat.le_of_ble_eq_true rfl, Nat.le_of_ble_eq_true rfl⟩) (pw_preV hw Ta0 (by decide) rfl) rfl rfl hl.1 rfl (lv_room (Nat.le_of_ble_eq_true rfl)) dX12_brings_17 ⟨Nat.zero_le _, Nat.zero_le _⟩) hw (fun H locs hw hx10 hz11 => ?_)
    have Ta0 : TY S_7 a0 12 := ty_ext hx10 Ta0
    have hE : Ext S0 S_7 := Ext.tr hE hx10
    refine lv_if_eq (tgt := 51) hx hb dX12_brings_20 (by decide) (fun h12 => ?_) (fun h12 => ?_)
    · rw [if_pos h12] at hm
      refine lv_iconst (v := 0) hx hb dX12_brings_51 (by decide) ?_
      cases hm
      exact pw_iret hx hb hr rfl hlk hw hE dX12_brings_52
    · rw [if_neg h12] at hm
      refine lv_aload_n hx hb dX12_brings_23 rfl (lv_at hl 0 rfl) ?_
      refine lv_iload_n hx hb dX12_brings_24 rfl (lv_at hl 1 rfl) ?_
      refine lv_iload_n hx hb dX12_brings_25 rfl (lv_at hl 2 rfl) ?_
      refine lv_icmp_eq (tgt := 42) hx hb dX12_brings_26 (by decide) (fun h13 => ?_) (fun h13 => ?_)
      · rw [if_pos h13] at hm
        exact wb_X12_brings_42 cx C X S0 n r S1 a0 x1 x2 x3 a0 S_7 _ _ _ hw hE Ta0 Ta0 (lv_sub hl [0, 1, 2, 3] rfl) hm
      · rw [if_neg h13] at hm
        refine lv_iload_n hx hb dX12_brings_29 rfl (lv_at hl 3 rfl) ?_
        refine lv_iconst (v := 0) hx hb dX12_brings_30 (by decide) ?_
        refine lv_iconst (v := 1) hx hb dX12_brings_31 (by decide) ?_
        obtain ⟨r16, S_14, hq15, hm⟩ := cb_some hm
        refine pw_cz (va_runS (As := [.int x3, .int 0, .int 1]) (rest := [.ref a0]) ⟨hx, hb, hml, hown, hU⟩ (c_X12_within l C X n S_7 hw.wf _ x3 0 1  r16 S_14 hq15) ⟨callB_of 3 hU (pq_g1 tc_X12_within) rfl rfl rfl (hU _ tw14) (hU _ tw1776) cd_X12_within.2 ⟨Nat.le_of_ble_eq_true rfl, Nat.le_of_ble_eq_true rfl⟩, hU _ tw1777⟩ (pw_preS hw) rfl rfl hl.1 rfl (lv_room (Nat.le_of_ble_eq_true rfl)) dX12_brings_32 ⟨Nat.zero_le _, Nat.zero_le _⟩) hw (fun H locs hw hx17 hz18 => ?_)
        have Ta0 : TY S_14 a0 12 := ty_ext hx17 Ta0
        have hE : Ext S0 S_14 := Ext.tr hE hx17
        refine lv_if_eq (tgt := 42) hx hb dX12_brings_35 (by decide) (fun h19 => ?_) (fun h19 => ?_)
        · rw [if_pos h19] at hm
          exact wb_X12_brings_42 cx C X S0 n r S1 a0 x1 x2 x3 a0 S_14 _ _ _ hw hE Ta0 Ta0 (lv_sub hl [0, 1, 2, 3] rfl) hm
        · rw [if_neg h19] at hm
          refine lv_iconst (v := 1) hx hb dX12_brings_38 (by decide) ?_
          refine lv_goto (tgt := 43) hx hb dX12_brings_39 (by decide) ?_
          exact wb_X12_brings_43 cx C X S0 n r S1 a0 x1 x2 x3 a0 1 S_14 _ _ _ hw hE Ta0 Ta0 (lv_sub hl [0, 1, 2, 3] rfl) hm
abbrev rm_X12_option : Room := { frames := 65, cells := 0, slots := 0, locals := 1950 }
def m_X12_option (n : Nat) (a0 : Nat) (x1 : Int32) (x2 : Int32) (x3 : Int32) (x4 : Int32) (x5 : Int32) (x6 : Int32) (x7 : Int32) (S0 : pq_S) : Option (Int64 × pq_S) := cb (m_X12_within n x7 0 1 (sI S0 1200 a0 0)) fun r3 S_1 => cb (m_X12_isOption n a0 x1 x2 x3 x4 x5 x6 r3 S_1) fun r8 S_6 => if r8 = 0 then some (0, S_6) else cb (m_X12_worthOf n a0 x1 x6 0 S_6) fun r14 S_12 => cb (m_X12_least n r14 ((1 : Int64) <<< (Int32.toInt64 ((4 : Int32) * x6) &&& (63 : Int64))) x7 S_12) fun r18 S_16 => some (r18, S_16)
theorem tc_X12_option : Cond.code yX12_option cX12_option 8 (some .long) ∈ pq_U := tw1989
theorem cd_X12_option : yX12_option.cls = RX12 ∧ yX12_option.cls ≠ "java/lang/invoke/MethodHandle" ∧ yX12_option.cls ≠ "java/lang/invoke/VarHandle" ∧ (parseMethodDescriptor yX12_option.desc).map (fun d => d.parameters.length) = some 7 := by decide +kernel
set_option maxHeartbeats 4000000 in
set_option maxRecDepth 100000 in
theorem c_X12_option (l : Launch) (C : pq_C) (X : va_W) (n : Nat) (S0 : pq_S) (hF : WF S0) (sz : Nat) (a0 : Nat) (x1 : Int32) (x2 : Int32) (x3 : Int32) (x4 : Int32) (x5 : Int32) (x6 : Int32) (x7 : Int32) (Ta0 : TY S0 a0 12) (r : Int64) (S1 : pq_S) (hm : m_X12_option n a0 x1 x2 x3 x4 x5 x6 x7 S0 = some (r, S1)) : MJ l yX12_option (.code yX12_option cX12_option 8 (some .long) :: pq_U) rm_X12_option C X S0 sz [.ref a0, .int x1, .int x2, .int x3, .int x4, .int x5, .int x6, .int x7] r S1 0 0 := by
  refine Met.ofW (cc := cX12_option) (maxL := 8) (ret := (some .long)) (by decide) rfl ?_
  intro p e s m args below meth c s₁ B hml hv
  obtain ⟨rfl, hv⟩ := hv
  have hsz := hv.1
  subst hsz
  have hw := pw_entry hF hv
  have hts := atoms_spec (ws := .code yX12_option cX12_option 8 (some .long) :: pq_U) B.pre
  have hU : ∀ w ∈ pq_U, w.before _ s = true := fun w h => hts w (List.mem_cons_of_mem _ h)
  have hx := B.exec
  have hb := B.bytes
  have hr := B.returns
  have hown : s.vm.findClass RX12 = some m.cls := findClass_of_methodNamed B.named
  have hlk := B.notSynchronized
  have hl := lv_entry ([.ref a0, .int x1, .int x2, .int x3, .int x4, .int x5, .int x6, .int x7]) (n := 8) (Nat.le_of_ble_eq_true rfl)
  rw [lg_entry_eq]
  generalize (lg_sl ([.ref a0, .int x1, .int x2, .int x3, .int x4, .int x5, .int x6, .int x7]) ++ List.replicate (8 - (lg_sl ([.ref a0, .int x1, .int x2, .int x3, .int x4, .int x5, .int x6, .int x7])).length) Slot.unset).toArray = ls at hl ⊢
  have hl : lv_has ls 8 [(0, .ref a0), (1, .int x1), (2, .int x2), (3, .int x3), (4, .int x4), (5, .int x5), (6, .int x6), (7, .int x7)] := hl
  have hE : Ext S0 S0 := Ext.rf _
  have cx : Cx p s m _ meth c cX12_option 8 RX12 (some .long) := ⟨hx, hb, hml, hown, hU, hr, hlk⟩
  rw [m_X12_option] at hm
  refine lv_aload_n hx hb dX12_option_0 rfl (lv_at hl 0 rfl) ?_
  refine lv_iconst (v := 0) hx hb dX12_option_1 (by decide) ?_
  refine pp_i (k := 12) (j := 0) (f := 1200) hx hb hown hU iu12 tyX12_ok nmX12 hw Ta0 (by decide) rfl (hU _ tw1471) rfl rfl rfl dX12_option_2 (fun H locs hw => ?_)
  refine lv_aload_n hx hb dX12_option_5 rfl (lv_at hl 0 rfl) ?_
  refine lv_iload_n hx hb dX12_option_6 rfl (lv_at hl 1 rfl) ?_
  refine lv_iload_n hx hb dX12_option_7 rfl (lv_at hl 2 rfl) ?_
  refine lv_iload_n hx hb dX12_option_8 rfl (lv_at hl 3 rfl) ?_
  refine lv_iload hx hb dX12_option_9 (lv_at hl 4 rfl) ?_
  refine lv_iload hx hb dX12_option_11 (lv_at hl 5 rfl) ?_
  refine lv_iload hx hb dX12_option_13 (lv_at hl 6 rfl) ?_
  refine lv_iload hx hb dX12_option_15 (lv_at hl 7 rfl) ?_
  refine lv_iconst (v := 0) hx hb dX12_option_17 (by decide) ?_
  refine lv_iconst (v := 1) hx hb dX12_option_18 (by decide) ?_
  obtain ⟨r3, S_1, hq2, hm⟩ := cb_some hm
  refine pw_cz (va_runS (As := [.int x7, .int 0, .int 1]) (rest := [.int x6, .int x5, .int x4, .int x3, .int x2, .int x1, .ref a0]) ⟨hx, hb, hml, hown, hU⟩ (c_X12_within l C X n (sI S0 1200 a0 0) hw.wf _ x7 0 1  r3 S_1 hq2) ⟨callB_of 3 hU (pq_g1 tc_X12_within) rfl rfl rfl (hU _ tw14) (hU _ tw1776) cd_X12_within.2 ⟨Nat.le_of_ble_eq_true rfl, Nat.le_of_ble_eq_true rfl⟩, hU _ tw1777⟩ (pw_preS hw) rfl rfl hl.1 rfl (lv_room (Nat.le_of_ble_eq_true rfl)) dX12_option_19 ⟨Nat.zero_le _, Nat.zero_le _⟩) hw (fun H locs hw hx4 hz5 => ?_)
  have Ta0 : TY S_1 a0 12 := ty_ext hx4 Ta0
  have hE : Ext S0 S_1 := Ext.tr hE hx4
  obtain ⟨r8, S_6, hq7, hm⟩ := cb_some hm
  refine pw_cz (va_runV (As := [.int x1, .int x2, .int x3, .int x4, .int x5, .int x6, .int r3]) (rest := []) ⟨hx, hb, hml, hown, hU⟩ (c_X12_isOption l C X n S_1 hw.wf _ a0 x1 x2 x3 x4 x5 x6 r3 (Ta0) r8 S_6 hq7) (cwV 7 hU (pq_gV tw1990 tw1992 ts167 tw14 tc_X12_isOption) rfl rfl rfl cd_X12_isOption ⟨Nat.le_of_ble_eq_true rfl, Nat.le_of_ble_eq_true rfl⟩) (pw_preV hw Ta0 (by decide) rfl) rfl rfl hl.1 rfl (lv_room (Nat.le_of_ble_eq_true rfl)) dX12_option_22 ⟨Nat.zero_le _, Nat.zero_le _⟩) hw (fun H locs hw hx9 hz10 => ?_)
  have Ta0 : TY S_6 a0 12 := ty_ext hx9 Ta0
  have hE : Ext S0 S_6 := Ext.tr hE hx9
  refine lv_if_ne (tgt := 30) hx hb dX12_option_25 (by decide) (fun h11 => ?_) (fun h11 => ?_)
  · rw [if_neg h11] at hm
    refine lv_aload_n hx hb dX12_option_30 rfl (lv_at hl 0 rfl) ?_
    refine lv_iload_n hx hb dX12_option_31 rfl (lv_at hl 1 rfl) ?_
    refine lv_iload hx hb dX12_option_32 (lv_at hl 6 rfl) ?_
    refine lv_iconst (v := 0) hx hb dX12_option_34 (by decide) ?_
    obtain ⟨r14, S_12, hq13, hm⟩ := cb_some hm
    refine pw_cj (va_runV (As := [.int x1, .int x6, .int 0]) (rest := []) ⟨hx, hb, hml, hown, hU⟩ (c_X12_worthOf l C X n S_6 hw.wf _ a0 x1 x6 0 (Ta0) r14 S_12 hq13) (cwV 3 hU (pq_gV tw1994 tw1996 ts168 tw14 tc_X12_worthOf) rfl rfl rfl cd_X12_worthOf ⟨Nat.le_of_ble_eq_true rfl, Nat.le_of_ble_eq_true rfl⟩) (pw_preV hw Ta0 (by decide) rfl) rfl rfl hl.1 rfl (lv_room (Nat.le_of_ble_eq_true rfl)) dX12_option_35 ⟨Nat.zero_le _, Nat.zero_le _⟩) hw (fun H locs hw hx15 => ?_)
    have Ta0 : TY S_12 a0 12 := ty_ext hx15 Ta0
    have hE : Ext S0 S_12 := Ext.tr hE hx15
    refine lv_lconst (v := 1) hx hb dX12_option_38 (by decide) ?_
    refine lv_iconst (v := 4) hx hb dX12_option_39 (by decide) ?_
    refine lv_iload hx hb dX12_option_40 (lv_at hl 6 rfl) ?_
    refine lv_imul hx hb dX12_option_42 ?_
    refine lv_lshl (v := ((1 : Int64) <<< (Int32.toInt64 ((4 : Int32) * x6) &&& (63 : Int64)))) hx hb dX12_option_43 rfl ?_
    refine lv_iload hx hb dX12_option_44 (lv_at hl 7 rfl) ?_
    obtain ⟨r18, S_16, hq17, hm⟩ := cb_some hm
    refine pw_cj (va_runS (As := [.long r14, .long ((1 : Int64) <<< (Int32.toInt64 ((4 : Int32) * x6) &&& (63 : Int64))), .int x7]) (rest := []) ⟨hx, hb, hml, hown, hU⟩ (c_X12_least l C X n S_12 hw.wf _ r14 ((1 : Int64) <<< (Int32.toInt64 ((4 : Int32) * x6) &&& (63 : Int64))) x7  r18 S_16 hq17) ⟨callB_of 3 hU (pq_g1 tc_X12_least) rfl rfl rfl (hU _ tw14) (hU _ tw1998) cd_X12_least.2 ⟨Nat.le_of_ble_eq_true rfl, Nat.le_of_ble_eq_true rfl⟩, hU _ tw1999⟩ (pw_preS hw) rfl rfl hl.1 rfl (lv_room (Nat.le_of_ble_eq_true rfl)) dX12_option_46 ⟨Nat.zero_le _, Nat.zero_le _⟩) hw (fun H locs hw hx19 => ?_)
    have Ta0 : TY S_16 a0 12 := ty_ext hx19 Ta0
    have hE : Ext S0 S_16 := Ext.tr hE hx19
    cases hm
    exact pw_jret hx hb hr hlk hw hE dX12_option_49
  · rw [if_pos h11] at hm
    refine lv_lconst (v := 0) hx hb dX12_option_28 (by decide) ?_
    cases hm
    exact pw_jret hx hb hr hlk hw hE dX12_option_29
abbrev rm_X12_late : Room := { frames := 65, cells := 0, slots := 0, locals := 1950 }
def m_X12_late (n : Nat) (a0 : Nat) (x1 : Int32) (x2 : Int32) (x3 : Int32) (x4 : Int32) (x5 : Int32) (x6 : Int32) (x7 : Int32) (S0 : pq_S) : Option (Int64 × pq_S) := cb (m_X12_within n x7 0 1 (sI S0 1200 a0 0)) fun r3 S_1 => cb (m_X12_isOption n a0 x1 x2 x3 x4 x5 x6 r3 S_1) fun r8 S_6 => if r8 = 0 then some (0, S_6) else cb (m_X12_worthOf n a0 x1 x6 1 S_6) fun r14 S_12 => cb (m_X12_least n r14 ((1 : Int64) <<< (Int32.toInt64 ((4 : Int32) * x6) &&& (63 : Int64))) x7 S_12) fun r18 S_16 => some (r18, S_16)
theorem tc_X12_late : Cond.code yX12_late cX12_late 8 (some .long) ∈ pq_U := tw2004
theorem cd_X12_late : yX12_late.cls = RX12 ∧ yX12_late.cls ≠ "java/lang/invoke/MethodHandle" ∧ yX12_late.cls ≠ "java/lang/invoke/VarHandle" ∧ (parseMethodDescriptor yX12_late.desc).map (fun d => d.parameters.length) = some 7 := by decide +kernel
set_option maxHeartbeats 4000000 in
set_option maxRecDepth 100000 in
theorem c_X12_late (l : Launch) (C : pq_C) (X : va_W) (n : Nat) (S0 : pq_S) (hF : WF S0) (sz : Nat) (a0 : Nat) (x1 : Int32) (x2 : Int32) (x3 : Int32) (x4 : Int32) (x5 : Int32) (x6 : Int32) (x7 : Int32) (Ta0 : TY S0 a0 12) (r : Int64) (S1 : pq_S) (hm : m_X12_late n a0 x1 x2 x3 x4 x5 x6 x7 S0 = some (r, S1)) : MJ l yX12_late (.code yX12_late cX12_late 8 (some .long) :: pq_U) rm_X12_late C X S0 sz [.ref a0, .int x1, .int x2, .int x3, .int x4, .int x5, .int x6, .int x7] r S1 0 0 := by
  refine Met.ofW (cc := cX12_late) (maxL := 8) (ret := (some .long)) (by decide) rfl ?_
  intro p e s m args below meth c s₁ B hml hv
  obtain ⟨rfl, hv⟩ := hv
  have hsz := hv.1
  subst hsz
  have hw := pw_entry hF hv
  have hts := atoms_spec (ws := .code yX12_late cX12_late 8 (some .long) :: pq_U) B.pre
  have hU : ∀ w ∈ pq_U, w.before _ s = true := fun w h => hts w (List.mem_cons_of_mem _ h)
  have hx := B.exec
  have hb := B.bytes
  have hr := B.returns
  have hown : s.vm.findClass RX12 = some m.cls := findClass_of_methodNamed B.named
  have hlk := B.notSynchronized
  have hl := lv_entry ([.ref a0, .int x1, .int x2, .int x3, .int x4, .int x5, .int x6, .int x7]) (n := 8) (Nat.le_of_ble_eq_true rfl)
  rw [lg_entry_eq]
  generalize (lg_sl ([.ref a0, .int x1, .int x2, .int x3, .int x4, .int x5, .int x6, .int x7]) ++ List.replicate (8 - (lg_sl ([.ref a0, .int x1, .int x2, .int x3, .int x4, .int x5, .int x6, .int x7])).length) Slot.unset).toArray = ls at hl ⊢
  have hl : lv_has ls 8 [(0, .ref a0), (1, .int x1), (2, .int x2), (3, .int x3), (4, .int x4), (5, .int x5), (6, .int x6), (7, .int x7)] := hl
  have hE : Ext S0 S0 := Ext.rf _
  have cx : Cx p s m _ meth c cX12_late 8 RX12 (some .long) := ⟨hx, hb, hml, hown, hU, hr, hlk⟩
  rw [m_X12_late] at hm
  refine lv_aload_n hx hb dX12_late_0 rfl (lv_at hl 0 rfl) ?_
  refine lv_iconst (v := 0) hx hb dX12_late_1 (by decide) ?_
  refine pp_i (k := 12) (j := 0) (f := 1200) hx hb hown hU iu12 tyX12_ok nmX12 hw Ta0 (by decide) rfl (hU _ tw1471) rfl rfl rfl dX12_late_2 (fun H locs hw => ?_)
  refine lv_aload_n hx hb dX12_late_5 rfl (lv_at hl 0 rfl) ?_
  refine lv_iload_n hx hb dX12_late_6 rfl (lv_at hl 1 rfl) ?_
  refine lv_iload_n hx hb dX12_late_7 rfl (lv_at hl 2 rfl) ?_
  refine lv_iload_n hx hb dX12_late_8 rfl (lv_at hl 3 rfl) ?_
  refine lv_iload hx hb dX12_late_9 (lv_at hl 4 rfl) ?_
  refine lv_iload hx hb dX12_late_11 (lv_at hl 5 rfl) ?_
  refine lv_iload hx hb dX12_late_13 (lv_at hl 6 rfl) ?_
  refine lv_iload hx hb dX12_late_15 (lv_at hl 7 rfl) ?_
  refine lv_iconst (v := 0) hx hb dX12_late_17 (by decide) ?_
  refine lv_iconst (v := 1) hx hb dX12_late_18 (by decide) ?_
  obtain ⟨r3, S_1, hq2, hm⟩ := cb_some hm
  refine pw_cz (va_runS (As := [.int x7, .int 0, .int 1]) (rest := [.int x6, .int x5, .int x4, .int x3, .int x2, .int x1, .ref a0]) ⟨hx, hb, hml, hown, hU⟩ (c_X12_within l C X n (sI S0 1200 a0 0) hw.wf _ x7 0 1  r3 S_1 hq2) ⟨callB_of 3 hU (pq_g1 tc_X12_within) rfl rfl rfl (hU _ tw14) (hU _ tw1776) cd_X12_within.2 ⟨Nat.le_of_ble_eq_true rfl, Nat.le_of_ble_eq_true rfl⟩, hU _ tw1777⟩ (pw_preS hw) rfl rfl hl.1 rfl (lv_room (Nat.le_of_ble_eq_true rfl)) dX12_late_19 ⟨Nat.zero_le _, Nat.zero_le _⟩) hw (fun H locs hw hx4 hz5 => ?_)
  have Ta0 : TY S_1 a0 12 := ty_ext hx4 Ta0
  have hE : Ext S0 S_1 := Ext.tr hE hx4
  obtain ⟨r8, S_6, hq7, hm⟩ := cb_some hm
  refine pw_cz (va_runV (As := [.int x1, .int x2, .int x3, .int x4, .int x5, .int x6, .int r3]) (rest := []) ⟨hx, hb, hml, hown, hU⟩ (c_X12_isOption l C X n S_1 hw.wf _ a0 x1 x2 x3 x4 x5 x6 r3 (Ta0) r8 S_6 hq7) (cwV 7 hU (pq_gV tw1990 tw1992 ts167 tw14 tc_X12_isOption) rfl rfl rfl cd_X12_isOption ⟨Nat.le_of_ble_eq_true rfl, Nat.le_of_ble_eq_true rfl⟩) (pw_preV hw Ta0 (by decide) rfl) rfl rfl hl.1 rfl (lv_room (Nat.le_of_ble_eq_true rfl)) dX12_late_22 ⟨Nat.zero_le _, Nat.zero_le _⟩) hw (fun H locs hw hx9 hz10 => ?_)
  have Ta0 : TY S_6 a0 12 := ty_ext hx9 Ta0
  have hE : Ext S0 S_6 := Ext.tr hE hx9
  refine lv_if_ne (tgt := 30) hx hb dX12_late_25 (by decide) (fun h11 => ?_) (fun h11 => ?_)
  · rw [if_neg h11] at hm
    refine lv_aload_n hx hb dX12_late_30 rfl (lv_at hl 0 rfl) ?_
    refine lv_iload_n hx hb dX12_late_31 rfl (lv_at hl 1 rfl) ?_
    refine lv_iload hx hb dX12_late_32 (lv_at hl 6 rfl) ?_
    refine lv_iconst (v := 1) hx hb dX12_late_34 (by decide) ?_
    obtain ⟨r14, S_12, hq13, hm⟩ := cb_some hm
    refine pw_cj (va_runV (As := [.int x1, .int x6, .int 1]) (rest := []) ⟨hx, hb, hml, hown, hU⟩ (c_X12_worthOf l C X n S_6 hw.wf _ a0 x1 x6 1 (Ta0) r14 S_12 hq13) (cwV 3 hU (pq_gV tw1994 tw1996 ts168 tw14 tc_X12_worthOf) rfl rfl rfl cd_X12_worthOf ⟨Nat.le_of_ble_eq_true rfl, Nat.le_of_ble_eq_true rfl⟩) (pw_preV hw Ta0 (by decide) rfl) rfl rfl hl.1 rfl (lv_room (Nat.le_of_ble_eq_true rfl)) dX12_late_35 ⟨Nat.zero_le _, Nat.zero_le _⟩) hw (fun H locs hw hx15 => ?_)
    have Ta0 : TY S_12 a0 12 := ty_ext hx15 Ta0
    have hE : Ext S0 S_12 := Ext.tr hE hx15
    refine lv_lconst (v := 1) hx hb dX12_late_38 (by decide) ?_
    refine lv_iconst (v := 4) hx hb dX12_late_39 (by decide) ?_
    refine lv_iload hx hb dX12_late_40 (lv_at hl 6 rfl) ?_
    refine lv_imul hx hb dX12_late_42 ?_
    refine lv_lshl (v := ((1 : Int64) <<< (Int32.toInt64 ((4 : Int32) * x6) &&& (63 : Int64)))) hx hb dX12_late_43 rfl ?_
    refine lv_iload hx hb dX12_late_44 (lv_at hl 7 rfl) ?_
    obtain ⟨r18, S_16, hq17, hm⟩ := cb_some hm
    refine pw_cj (va_runS (As := [.long r14, .long ((1 : Int64) <<< (Int32.toInt64 ((4 : Int32) * x6) &&& (63 : Int64))), .int x7]) (rest := []) ⟨hx, hb, hml, hown, hU⟩ (c_X12_least l C X n S_12 hw.wf _ r14 ((1 : Int64) <<< (Int32.toInt64 ((4 : Int32) * x6) &&& (63 : Int64))) x7  r18 S_16 hq17) ⟨callB_of 3 hU (pq_g1 tc_X12_least) rfl rfl rfl (hU _ tw14) (hU _ tw1998) cd_X12_least.2 ⟨Nat.le_of_ble_eq_true rfl, Nat.le_of_ble_eq_true rfl⟩, hU _ tw1999⟩ (pw_preS hw) rfl rfl hl.1 rfl (lv_room (Nat.le_of_ble_eq_true rfl)) dX12_late_46 ⟨Nat.zero_le _, Nat.zero_le _⟩) hw (fun H locs hw hx19 => ?_)
    have Ta0 : TY S_16 a0 12 := ty_ext hx19 Ta0
    have hE : Ext S0 S_16 := Ext.tr hE hx19
    cases hm
    exact pw_jret hx hb hr hlk hw hE dX12_late_49
  · rw [if_pos h11] at hm
    refine lv_lconst (v := 0) hx hb dX12_late_28 (by decide) ?_
    cases hm
    exact pw_jret hx hb hr hlk hw hE dX12_late_29
abbrev rm_X12_now : Room := { frames := 65, cells := 0, slots := 0, locals := 1950 }
def m_X12_now (n : Nat) (a0 : Nat) (x1 : Int32) (x2 : Int32) (x3 : Int32) (x4 : Int32) (x5 : Int32) (x6 : Int32) (S0 : pq_S) : Option (Int32 × pq_S) := cb (m_X12_isOption n a0 x1 x2 x3 x4 x5 x6 1 (sI S0 1200 a0 0)) fun r3 S_1 => if r3 = 0 then some (0, S_1) else if x1 ≤ x5 then some (0, S_1) else cb (m_X12_worthOf n a0 x1 x6 0 S_1) fun r10 S_8 => if (lg_cmp ((Int32.toInt64 (x1 - x5)) <<< (Int32.toInt64 ((4 : Int32) * x6) &&& (63 : Int64))) r10) < 0 then some (0, S_8) else some (1, S_8)
theorem tc_X12_now : Cond.code yX12_now cX12_now 7 (some .boolean) ∈ pq_U := tw2008
theorem cd_X12_now : yX12_now.cls = RX12 ∧ yX12_now.cls ≠ "java/lang/invoke/MethodHandle" ∧ yX12_now.cls ≠ "java/lang/invoke/VarHandle" ∧ (parseMethodDescriptor yX12_now.desc).map (fun d => d.parameters.length) = some 6 := by decide +kernel
set_option maxHeartbeats 4000000 in
set_option maxRecDepth 100000 in
theorem c_X12_now (l : Launch) (C : pq_C) (X : va_W) (n : Nat) (S0 : pq_S) (hF : WF S0) (sz : Nat) (a0 : Nat) (x1 : Int32) (x2 : Int32) (x3 : Int32) (x4 : Int32) (x5 : Int32) (x6 : Int32) (Ta0 : TY S0 a0 12) (r : Int32) (S1 : pq_S) (hm : m_X12_now n a0 x1 x2 x3 x4 x5 x6 S0 = some (r, S1)) : MZ l yX12_now (.code yX12_now cX12_now 7 (some .boolean) :: pq_U) rm_X12_now C X S0 sz [.ref a0, .int x1, .int x2, .int x3, .int x4, .int x5, .int x6] r S1 0 0 := by
  refine Met.ofW (cc := cX12_now) (maxL := 7) (ret := (some .boolean)) (by decide) rfl ?_
  intro p e s m args below meth c s₁ B hml hv
  obtain ⟨rfl, hv⟩ := hv
  have hsz := hv.1
  subst hsz
  have hw := pw_entry hF hv
  have hts := atoms_spec (ws := .code yX12_now cX12_now 7 (some .boolean) :: pq_U) B.pre
  have hU : ∀ w ∈ pq_U, w.before _ s = true := fun w h => hts w (List.mem_cons_of_mem _ h)
  have hx := B.exec
  have hb := B.bytes
  have hr := B.returns
  have hown : s.vm.findClass RX12 = some m.cls := findClass_of_methodNamed B.named
  have hlk := B.notSynchronized
  have hl := lv_entry ([.ref a0, .int x1, .int x2, .int x3, .int x4, .int x5, .int x6]) (n := 7) (Nat.le_of_ble_eq_true rfl)
  rw [lg_entry_eq]
  generalize (lg_sl ([.ref a0, .int x1, .int x2, .int x3, .int x4, .int x5, .int x6]) ++ List.replicate (7 - (lg_sl ([.ref a0, .int x1, .int x2, .int x3, .int x4, .int x5, .int x6])).length) Slot.unset).toArray = ls at hl ⊢
  have hl : lv_has ls 7 [(0, .ref a0), (1, .int x1), (2, .int x2), (3, .int x3), (4, .int x4), (5, .int x5), (6, .int x6)] := hl
  have hE : Ext S0 S0 := Ext.rf _
  have cx : Cx p s m _ meth c cX12_now 7 RX12 (some .boolean) := ⟨hx, hb, hml, hown, hU, hr, hlk⟩
  rw [m_X12_now] at hm
  refine lv_aload_n hx hb dX12_now_0 rfl (lv_at hl 0 rfl) ?_
  refine lv_iconst (v := 0) hx hb dX12_now_1 (by decide) ?_
  refine pp_i (k := 12) (j := 0) (f := 1200) hx hb hown hU iu12 tyX12_ok nmX12 hw Ta0 (by decide) rfl (hU _ tw1471) rfl rfl rfl dX12_now_2 (fun H locs hw => ?_)
  refine lv_aload_n hx hb dX12_now_5 rfl (lv_at hl 0 rfl) ?_
  refine lv_iload_n hx hb dX12_now_6 rfl (lv_at hl 1 rfl) ?_
  refine lv_iload_n hx hb dX12_now_7 rfl (lv_at hl 2 rfl) ?_
  refine lv_iload_n hx hb dX12_now_8 rfl (lv_at hl 3 rfl) ?_
  refine lv_iload hx hb dX12_now_9 (lv_at hl 4 rfl) ?_
  refine lv_iload hx hb dX12_now_11 (lv_at hl 5 rfl) ?_
  refine lv_iload hx hb dX12_now_13 (lv_at hl 6 rfl) ?_
  refine lv_iconst (v := 1) hx hb dX12_now_15 (by decide) ?_
  obtain ⟨r3, S_1, hq2, hm⟩ := cb_some hm
  refine pw_cz (va_runV (As := [.int x1, .int x2, .int x3, .int x4, .int x5, .int x6, .int 1]) (rest := []) ⟨hx, hb, hml, hown, hU⟩ (c_X12_isOption l C X n (sI S0 1200 a0 0) hw.wf _ a0 x1 x2 x3 x4 x5 x6 1 (Ta0) r3 S_1 hq2) (cwV 7 hU (pq_gV tw1990 tw1992 ts167 tw14 tc_X12_isOption) rfl rfl rfl cd_X12_isOption ⟨Nat.le_of_ble_eq_true rfl, Nat.le_of_ble_eq_true rfl⟩) (pw_preV hw Ta0 (by decide) rfl) rfl rfl hl.1 rfl (lv_room (Nat.le_of_ble_eq_true rfl)) dX12_now_16 ⟨Nat.zero_le _, Nat.zero_le _⟩) hw (fun H locs hw hx4 hz5 => ?_)
  have Ta0 : TY S_1 a0 12 := ty_ext hx4 Ta0
  have hE : Ext S0 S_1 := Ext.tr hE hx4
  refine lv_if_ne (tgt := 24) hx hb dX12_now_19 (by decide) (fun h6 => ?_) (fun h6 => ?_)
  · rw [if_neg h6] at hm
    refine lv_iload_n hx hb dX12_now_24 rfl (lv_at hl 1 rfl) ?_
    refine lv_iload hx hb dX12_now_25 (lv_at hl 5 rfl) ?_
    refine lv_icmp_le (tgt := 56) hx hb dX12_now_27 (by decide) (fun h7 => ?_) (fun h7 => ?_)
    · rw [if_pos h7] at hm
      refine lv_iconst (v := 0) hx hb dX12_now_56 (by decide) ?_
      cases hm
      exact pw_zret hx hb hr bz_0 hlk hw hE dX12_now_57
    · rw [if_neg h7] at hm
      refine lv_iload_n hx hb dX12_now_30 rfl (lv_at hl 1 rfl) ?_
      refine lv_iload hx hb dX12_now_31 (lv_at hl 5 rfl) ?_
      refine lv_isub hx hb dX12_now_33 ?_
      refine lv_i2l (v := (Int32.toInt64 (x1 - x5))) hx hb dX12_now_34 rfl ?_
      refine lv_iconst (v := 4) hx hb dX12_now_35 (by decide) ?_
      refine lv_iload hx hb dX12_now_36 (lv_at hl 6 rfl) ?_
      refine lv_imul hx hb dX12_now_38 ?_
      refine lv_lshl (v := ((Int32.toInt64 (x1 - x5)) <<< (Int32.toInt64 ((4 : Int32) * x6) &&& (63 : Int64)))) hx hb dX12_now_39 rfl ?_
      refine lv_aload_n hx hb dX12_now_40 rfl (lv_at hl 0 rfl) ?_
      refine lv_iload_n hx hb dX12_now_41 rfl (lv_at hl 1 rfl) ?_
      refine lv_iload hx hb dX12_now_42 (lv_at hl 6 rfl) ?_
      refine lv_iconst (v := 0) hx hb dX12_now_44 (by decide) ?_
      obtain ⟨r10, S_8, hq9, hm⟩ := cb_some hm
      refine pw_cj (va_runV (As := [.int x1, .int x6, .int 0]) (rest := [.long ((Int32.toInt64 (x1 - x5)) <<< (Int32.toInt64 ((4 : Int32) * x6) &&& (63 : Int64)))]) ⟨hx, hb, hml, hown, hU⟩ (c_X12_worthOf l C X n S_1 hw.wf _ a0 x1 x6 0 (Ta0) r10 S_8 hq9) (cwV 3 hU (pq_gV tw1994 tw1996 ts168 tw14 tc_X12_worthOf) rfl rfl rfl cd_X12_worthOf ⟨Nat.le_of_ble_eq_true rfl, Nat.le_of_ble_eq_true rfl⟩) (pw_preV hw Ta0 (by decide) rfl) rfl rfl hl.1 rfl (lv_room (Nat.le_of_ble_eq_true rfl)) dX12_now_45 ⟨Nat.zero_le _, Nat.zero_le _⟩) hw (fun H locs hw hx11 => ?_)
      have Ta0 : TY S_8 a0 12 := ty_ext hx11 Ta0
      have hE : Ext S0 S_8 := Ext.tr hE hx11
      refine W.lcmp hx hb dX12_now_48 ?_
      refine lv_if_lt (tgt := 56) hx hb dX12_now_49 (by decide) (fun h12 => ?_) (fun h12 => ?_)
      · rw [if_pos h12] at hm
        refine lv_iconst (v := 0) hx hb dX12_now_56 (by decide) ?_
        cases hm
        exact pw_zret hx hb hr bz_0 hlk hw hE dX12_now_57
      · rw [if_neg h12] at hm
        refine lv_iconst (v := 1) hx hb dX12_now_52 (by decide) ?_
        refine lv_goto (tgt := 57) hx hb dX12_now_53 (by decide) ?_
        cases hm
        exact pw_zret hx hb hr bz_1 hlk hw hE dX12_now_57
  · rw [if_pos h6] at hm
    refine lv_iconst (v := 0) hx hb dX12_now_22 (by decide) ?_
    cases hm
    exact pw_zret hx hb hr bz_0 hlk hw hE dX12_now_23
abbrev rm_X12_findNights : Room := { frames := 65, cells := 0, slots := 0, locals := 1625 }
def b_X12_findNights_66 (n : Nat) (k5 : Nat → Int32 → Int32 → Int32 → pq_S → Option (Int32 × pq_S)) (a0 : Nat) (x1 : Int32) (x2 : Int32) (x3 : Int32) (S : pq_S) : Option (Int32 × pq_S) := k5 a0 x1 x2 (x3 + 1) S
set_option maxHeartbeats 4000000 in
set_option maxRecDepth 100000 in
theorem wb_X12_findNights_66 {p : Program} {l : Launch} {e : Env} {s : State} {m : MethodId} {args : Array Value} {below : List Frame} {meth : Method} {c : Code} (cx : Cx p s m args meth c cX12_findNights 5 RX12 (some .int)) (C : pq_C) (X : va_W) (S0 : pq_S) (n : Nat) (r : Int32) (S1 : pq_S) (k5 : Nat → Int32 → Int32 → Int32 → pq_S → Option (Int32 × pq_S)) (hk5 : ∀ (a0 : Nat) (x1 : Int32) (x2 : Int32) (x3 : Int32) (S : pq_S) (H : Heap) (locs : List Loc) (ls : Array Slot), PW C X S (pq_F C X S0 s.heap.size) H locs s → Ext S0 S → TY S a0 12 → lv_has ls 5 [(0, .ref a0), (1, .int x1), (2, .int x2), (3, .int x3)] → k5 a0 x1 x2 x3 S = some (r, S1) → W p l e rm_X12_findNights s m args below meth c H locs 0 0 (MQ below (QcI C X S0 s.heap.size r S1) args s 0 0 (pq_F C X S0 s.heap.size)) (F0 m 7 ls [])) : ∀ (a0 : Nat) (x1 : Int32) (x2 : Int32) (x3 : Int32) (S : pq_S) (H : Heap) (locs : List Loc) (ls : Array Slot), PW C X S (pq_F C X S0 s.heap.size) H locs s → Ext S0 S → TY S a0 12 → lv_has ls 5 [(0, .ref a0), (1, .int x1), (2, .int x2), (3, .int x3)] → b_X12_findNights_66 n k5 a0 x1 x2 x3 S = some (r, S1) → W p l e rm_X12_findNights s m args below meth c H locs 0 0 (MQ below (QcI C X S0 s.heap.size r S1) args s 0 0 (pq_F C X S0 s.heap.size)) (F0 m 66 ls []) := by
  obtain ⟨hx, hb, hml, hown, hU, hr, hlk⟩ := id cx
  intro a0 x1 x2 x3 S H locs ls hw hE Ta0 hl hm
  rw [b_X12_findNights_66] at hm
  refine lv_iinc (v := (x3 + 1)) (lv' := [(3, .int (x3 + 1)), (0, .ref a0), (1, .int x1), (2, .int x2)]) hx hb dX12_findNights_66 hl (k := 3) rfl rfl (by decide) rfl (fun ls hl => ?_)
  refine lv_goto (tgt := 7) hx hb dX12_findNights_69 (by decide) ?_
  exact hk5 a0 x1 x2 (x3 + 1) S _ _ _ hw hE Ta0 (lv_sub hl [1, 2, 3, 0] rfl) hm
def b_X12_findNights_105 (n : Nat) (k46 : Nat → Int32 → Int32 → pq_S → Option (Int32 × pq_S)) (a0 : Nat) (x2 : Int32) (x3 : Int32) (S : pq_S) : Option (Int32 × pq_S) := cb (m_X12_fitsOn n a0 0 x3 S) fun r17 S_15 => if r17 = 0 then k46 a0 x2 (x3 + 1) S_15 else some (x3, S_15)
set_option maxHeartbeats 4000000 in
set_option maxRecDepth 100000 in
theorem wb_X12_findNights_105 {p : Program} {l : Launch} {e : Env} {s : State} {m : MethodId} {args : Array Value} {below : List Frame} {meth : Method} {c : Code} (cx : Cx p s m args meth c cX12_findNights 5 RX12 (some .int)) (C : pq_C) (X : va_W) (S0 : pq_S) (n : Nat) (r : Int32) (S1 : pq_S) (k46 : Nat → Int32 → Int32 → pq_S → Option (Int32 × pq_S)) (hk46 : ∀ (a0 : Nat) (x2 : Int32) (x3 : Int32) (S : pq_S) (H : Heap) (locs : List Loc) (ls : Array Slot), PW C X S (pq_F C X S0 s.heap.size) H locs s → Ext S0 S → TY S a0 12 → lv_has ls 5 [(0, .ref a0), (2, .int x2), (3, .int x3)] → k46 a0 x2 x3 S = some (r, S1) → W p l e rm_X12_findNights s m args below meth c H locs 0 0 (MQ below (QcI C X S0 s.heap.size r S1) args s 0 0 (pq_F C X S0 s.heap.size)) (F0 m 74 ls [])) : ∀ (a0 : Nat) (x2 : Int32) (x3 : Int32) (S : pq_S) (H : Heap) (locs : List Loc) (ls : Array Slot), PW C X S (pq_F C X S0 s.heap.size) H locs s → Ext S0 S → TY S a0 12 → lv_has ls 5 [(0, .ref a0), (2, .int x2), (3, .int x3)] → b_X12_findNights_105 n k46 a0 x2 x3 S = some (r, S1) → W p l e rm_X12_findNights s m args below meth c H locs 0 0 (MQ below (QcI C X S0 s.heap.size r S1) args s 0 0 (pq_F C X S0 s.heap.size)) (F0 m 105 ls []) := by
  obtain ⟨hx, hb, hml, hown, hU, hr, hlk⟩ := id cx
  intro a0 x2 x3 S H locs ls hw hE Ta0 hl hm
  rw [b_X12_findNights_105] at hm
  refine lv_aload_n hx hb dX12_findNights_105 rfl (lv_at hl 0 rfl) ?_
  refine lv_iconst (v := 0) hx hb dX12_findNights_106 (by decide) ?_
  refine lv_iload_n hx hb dX12_findNights_107 rfl (lv_at hl 2 rfl) ?_
  obtain ⟨r17, S_15, hq16, hm⟩ := cb_some hm
  refine pw_cz (va_runV (As := [.int 0, .int x3]) (rest := []) ⟨hx, hb, hml, hown, hU⟩ (c_X12_fitsOn l C X n S hw.wf _ a0 0 x3 (Ta0) r17 S_15 hq16) (cwV 2 hU (pq_gV tw2017 tw2019 ts170 tw14 tc_X12_fitsOn) rfl rfl rfl cd_X12_fitsOn ⟨Nat.le_of_ble_eq_true rfl, Nat.le_of_ble_eq_true rfl⟩) (pw_preV hw Ta0 (by decide) rfl) rfl rfl hl.1 rfl (lv_room (Nat.le_of_ble_eq_true rfl)) dX12_findNights_108 ⟨Nat.zero_le _, Nat.zero_le _⟩) hw (fun H locs hw hx18 hz19 => ?_)
  have Ta0 : TY S_15 a0 12 := ty_ext hx18 Ta0
  have hE : Ext S0 S_15 := Ext.tr hE hx18
  refine lv_if_eq (tgt := 116) hx hb dX12_findNights_111 (by decide) (fun h20 => ?_) (fun h20 => ?_)
  · rw [if_pos h20] at hm
    refine lv_iinc (v := (x3 + 1)) (lv' := [(3, .int (x3 + 1)), (0, .ref a0), (2, .int x2)]) hx hb dX12_findNights_116 hl (k := 2) rfl rfl (by decide) rfl (fun ls hl => ?_)
    refine lv_goto (tgt := 74) hx hb dX12_findNights_119 (by decide) ?_
    exact hk46 a0 x2 (x3 + 1) S_15 _ _ _ hw hE Ta0 (lv_sub hl [1, 2, 0] rfl) hm
  · rw [if_neg h20] at hm
    refine lv_iload_n hx hb dX12_findNights_114 rfl (lv_at hl 2 rfl) ?_
    cases hm
    exact pw_iret hx hb hr rfl hlk hw hE dX12_findNights_115
def b_X12_findNights_85 (n : Nat) (k46 : Nat → Int32 → Int32 → pq_S → Option (Int32 × pq_S)) : Nat → Nat → Int32 → Int32 → Int32 → pq_S → Option (Int32 × pq_S)
  | 0, _, _, _, _, _ => none
  | f + 1, a0, x2, x3, x4, S => if x3 ≤ x4 then b_X12_findNights_105 n k46 a0 x2 x3 S else Option.bind (pR S 1260 a0) fun q13 => ck (ix x4 (pN S q13)) (dix _ _) (b_X12_findNights_85 n k46 f a0 x2 x3 (x4 + 1) (sA S q13 (Int32.toNatClampNeg x4) x2))
set_option maxHeartbeats 4000000 in
set_option maxRecDepth 100000 in
theorem wb_X12_findNights_85 {p : Program} {l : Launch} {e : Env} {s : State} {m : MethodId} {args : Array Value} {below : List Frame} {meth : Method} {c : Code} (cx : Cx p s m args meth c cX12_findNights 5 RX12 (some .int)) (C : pq_C) (X : va_W) (S0 : pq_S) (n : Nat) (r : Int32) (S1 : pq_S) (k46 : Nat → Int32 → Int32 → pq_S → Option (Int32 × pq_S)) (hk46 : ∀ (a0 : Nat) (x2 : Int32) (x3 : Int32) (S : pq_S) (H : Heap) (locs : List Loc) (ls : Array Slot), PW C X S (pq_F C X S0 s.heap.size) H locs s → Ext S0 S → TY S a0 12 → lv_has ls 5 [(0, .ref a0), (2, .int x2), (3, .int x3)] → k46 a0 x2 x3 S = some (r, S1) → W p l e rm_X12_findNights s m args below meth c H locs 0 0 (MQ below (QcI C X S0 s.heap.size r S1) args s 0 0 (pq_F C X S0 s.heap.size)) (F0 m 74 ls [])) : ∀ (f : Nat) (a0 : Nat) (x2 : Int32) (x3 : Int32) (x4 : Int32) (S : pq_S) (H : Heap) (locs : List Loc) (ls : Array Slot), PW C X S (pq_F C X S0 s.heap.size) H locs s → Ext S0 S → TY S a0 12 → lv_has ls 5 [(0, .ref a0), (2, .int x2), (3, .int x3), (4, .int x4)] → b_X12_findNights_85 n k46 f a0 x2 x3 x4 S = some (r, S1) → W p l e rm_X12_findNights s m args below meth c H locs 0 0 (MQ below (QcI C X S0 s.heap.size r S1) args s 0 0 (pq_F C X S0 s.heap.size)) (F0 m 85 ls []) := by
  obtain ⟨hx, hb, hml, hown, hU, hr, hlk⟩ := id cx
  intro f
  induction f with
  | zero =>
    intro a0 x2 x3 x4 S H locs ls hw hE Ta0 hl hm
    cases hm
  | succ f ih =>
    intro a0 x2 x3 x4 S H locs ls hw hE Ta0 hl hm
    rw [b_X12_findNights_85] at hm
    refine lv_iload hx hb dX12_findNights_85 (lv_at hl 3 rfl) ?_
    refine lv_iload_n hx hb dX12_findNights_87 rfl (lv_at hl 2 rfl) ?_
    refine lv_icmp_ge (tgt := 105) hx hb dX12_findNights_88 (by decide) (fun h12 => ?_) (fun h12 => ?_)
    · rw [if_pos h12] at hm
      exact wb_X12_findNights_105 cx C X S0 n r S1 _ hk46 a0 x2 x3 S _ _ _ hw hE Ta0 (lv_sub hl [0, 1, 2] rfl) hm
    · rw [if_neg h12] at hm
      refine lv_aload_n hx hb dX12_findNights_91 rfl (lv_at hl 0 rfl) ?_
      obtain ⟨q13, hq13, hm⟩ := bd_some hm
      have Tq13 : TY S q13 14 := hw.wf.ref (k := 12) (j := 60) Ta0 (by decide) (by decide) hq13
      refine pg_rb (k := 12) (j := 60) (f := 1260) hx hb hown hU iu12 hw Ta0 (by decide) rfl (hU _ tw1531) rfl hq13 dX12_findNights_92 ?_
      refine lv_iload hx hb dX12_findNights_95 (lv_at hl 3 rfl) ?_
      refine lv_iload_n hx hb dX12_findNights_97 rfl (lv_at hl 1 rfl) ?_
      obtain ⟨hi14, hm⟩ := ck_some hm
      refine pw_iast hx hb hw Tq13 hi14 dX12_findNights_98 (fun H locs hw => ?_)
      refine lv_iinc (v := (x4 + 1)) (lv' := [(4, .int (x4 + 1)), (0, .ref a0), (2, .int x2), (3, .int x3)]) hx hb dX12_findNights_99 hl (k := 3) rfl rfl (by decide) rfl (fun ls hl => ?_)
      refine lv_goto (tgt := 85) hx hb dX12_findNights_102 (by decide) ?_
      exact ih a0 x2 x3 (x4 + 1) (sA S q13 (Int32.toNatClampNeg x4) x2) _ _ _ hw hE Ta0 (lv_sub hl [1, 2, 3, 0] rfl) hm
def b_X12_findNights_74 (n : Nat) : Nat → Nat → Int32 → Int32 → pq_S → Option (Int32 × pq_S)
  | 0, _, _, _, _ => none
  | f + 1, a0, x2, x3, S => if (pI S 1261 a0) < x3 then some ((-1), S) else b_X12_findNights_85 n (b_X12_findNights_74 n f) n a0 x2 x3 0 S
set_option maxHeartbeats 4000000 in
set_option maxRecDepth 100000 in
theorem wb_X12_findNights_74 {p : Program} {l : Launch} {e : Env} {s : State} {m : MethodId} {args : Array Value} {below : List Frame} {meth : Method} {c : Code} (cx : Cx p s m args meth c cX12_findNights 5 RX12 (some .int)) (C : pq_C) (X : va_W) (S0 : pq_S) (n : Nat) (r : Int32) (S1 : pq_S) : ∀ (f : Nat) (a0 : Nat) (x2 : Int32) (x3 : Int32) (S : pq_S) (H : Heap) (locs : List Loc) (ls : Array Slot), PW C X S (pq_F C X S0 s.heap.size) H locs s → Ext S0 S → TY S a0 12 → lv_has ls 5 [(0, .ref a0), (2, .int x2), (3, .int x3)] → b_X12_findNights_74 n f a0 x2 x3 S = some (r, S1) → W p l e rm_X12_findNights s m args below meth c H locs 0 0 (MQ below (QcI C X S0 s.heap.size r S1) args s 0 0 (pq_F C X S0 s.heap.size)) (F0 m 74 ls []) := by
  obtain ⟨hx, hb, hml, hown, hU, hr, hlk⟩ := id cx
  intro f
  induction f with
  | zero =>
    intro a0 x2 x3 S H locs ls hw hE Ta0 hl hm
    cases hm
  | succ f ih =>
    intro a0 x2 x3 S H locs ls hw hE Ta0 hl hm
    rw [b_X12_findNights_74] at hm
    refine lv_iload_n hx hb dX12_findNights_74 rfl (lv_at hl 2 rfl) ?_
    refine lv_aload_n hx hb dX12_findNights_75 rfl (lv_at hl 0 rfl) ?_
    refine pg_i (k := 12) (j := 61) (f := 1261) hx hb hown hU iu12 hw Ta0 (by decide) rfl (hU _ tw1532) rfl dX12_findNights_76 ?_
    refine lv_icmp_gt (tgt := 122) hx hb dX12_findNights_79 (by decide) (fun h11 => ?_) (fun h11 => ?_)
    · rw [if_pos h11] at hm
      refine lv_iconst (v := (-1)) hx hb dX12_findNights_122 (by decide) ?_
      cases hm
      exact pw_iret hx hb hr rfl hlk hw hE dX12_findNights_123
    · rw [if_neg h11] at hm
      refine lv_iconst (v := 0) hx hb dX12_findNights_82 (by decide) ?_
      refine lv_istore (lv' := [(4, .int 0), (0, .ref a0), (2, .int x2), (3, .int x3)]) hx hb dX12_findNights_83 hl (by decide) rfl (fun ls hl => ?_)
      exact wb_X12_findNights_85 cx C X S0 n r S1 _ ih n a0 x2 x3 0 S _ _ _ hw hE Ta0 (lv_sub hl [1, 2, 3, 0] rfl) hm
def b_X12_findNights_72 (n : Nat) (a0 : Nat) (x2 : Int32) (S : pq_S) : Option (Int32 × pq_S) := b_X12_findNights_74 n n a0 x2 0 S
set_option maxHeartbeats 4000000 in
set_option maxRecDepth 100000 in
theorem wb_X12_findNights_72 {p : Program} {l : Launch} {e : Env} {s : State} {m : MethodId} {args : Array Value} {below : List Frame} {meth : Method} {c : Code} (cx : Cx p s m args meth c cX12_findNights 5 RX12 (some .int)) (C : pq_C) (X : va_W) (S0 : pq_S) (n : Nat) (r : Int32) (S1 : pq_S) : ∀ (a0 : Nat) (x2 : Int32) (S : pq_S) (H : Heap) (locs : List Loc) (ls : Array Slot), PW C X S (pq_F C X S0 s.heap.size) H locs s → Ext S0 S → TY S a0 12 → lv_has ls 5 [(0, .ref a0), (2, .int x2)] → b_X12_findNights_72 n a0 x2 S = some (r, S1) → W p l e rm_X12_findNights s m args below meth c H locs 0 0 (MQ below (QcI C X S0 s.heap.size r S1) args s 0 0 (pq_F C X S0 s.heap.size)) (F0 m 72 ls []) := by
  obtain ⟨hx, hb, hml, hown, hU, hr, hlk⟩ := id cx
  intro a0 x2 S H locs ls hw hE Ta0 hl hm
  rw [b_X12_findNights_72] at hm
  refine lv_iconst (v := 0) hx hb dX12_findNights_72 (by decide) ?_
  refine lv_istore_n (lv' := [(3, .int 0), (0, .ref a0), (2, .int x2)]) hx hb dX12_findNights_73 rfl hl (by decide) rfl (fun ls hl => ?_)
  exact wb_X12_findNights_74 cx C X S0 n r S1 n a0 x2 0 S _ _ _ hw hE Ta0 (lv_sub hl [1, 2, 0] rfl) hm
def b_X12_findNights_7 (n : Nat) : Nat → Nat → Int32 → Int32 → Int32 → pq_S → Option (Int32 × pq_S)
  | 0, _, _, _, _, _ => none
  | f + 1, a0, x1, x2, x3, S => if (pI S 1225 a0) ≤ x3 then b_X12_findNights_72 n a0 x2 S else Option.bind (pR S 1215 a0) fun q2 => ck (ix ((4 : Int32) * x3) (pN S q2)) (dix _ _) (if (pA S q2 (Int32.toNatClampNeg ((4 : Int32) * x3))) = x1 then Option.bind (pR S 1215 a0) fun q5 => ck (ix (((4 : Int32) * x3) + (1 : Int32)) (pN S q5)) (dix _ _) (if (pA S q5 (Int32.toNatClampNeg (((4 : Int32) * x3) + (1 : Int32)))) ≤ x2 then Option.bind (pR S 1252 a0) fun q8 => ck (ix (pI S 1261 a0) (pN S q8)) (dix _ _) (lt_ (sI (sA S q8 (Int32.toNatClampNeg (pI S 1261 a0)) x3) 1261 a0 ((pI (sA S q8 (Int32.toNatClampNeg (pI S 1261 a0)) x3) 1261 a0) + (1 : Int32))) fun S_10 => b_X12_findNights_66 n (b_X12_findNights_7 n f) a0 x1 x2 x3 S_10) else some ((-1), S)) else b_X12_findNights_66 n (b_X12_findNights_7 n f) a0 x1 x2 x3 S)
set_option maxHeartbeats 4000000 in
set_option maxRecDepth 100000 in
theorem wb_X12_findNights_7 {p : Program} {l : Launch} {e : Env} {s : State} {m : MethodId} {args : Array Value} {below : List Frame} {meth : Method} {c : Code} (cx : Cx p s m args meth c cX12_findNights 5 RX12 (some .int)) (C : pq_C) (X : va_W) (S0 : pq_S) (n : Nat) (r : Int32) (S1 : pq_S) : ∀ (f : Nat) (a0 : Nat) (x1 : Int32) (x2 : Int32) (x3 : Int32) (S : pq_S) (H : Heap) (locs : List Loc) (ls : Array Slot), PW C X S (pq_F C X S0 s.heap.size) H locs s → Ext S0 S → TY S a0 12 → lv_has ls 5 [(0, .ref a0), (1, .int x1), (2, .int x2), (3, .int x3)] → b_X12_findNights_7 n f a0 x1 x2 x3 S = some (r, S1) → W p l e rm_X12_findNights s m args below meth c H locs 0 0 (MQ below (QcI C X S0 s.heap.size r S1) args s 0 0 (pq_F C X S0 s.heap.size)) (F0 m 7 ls []) := by
  obtain ⟨hx, hb, hml, hown, hU, hr, hlk⟩ := id cx
  intro f
  induction f with
  | zero =>
    intro a0 x1 x2 x3 S H locs ls hw hE Ta0 hl hm
    cases hm
  | succ f ih =>
    intro a0 x1 x2 x3 S H locs ls hw hE Ta0 hl hm
    rw [b_X12_findNights_7] at hm
    refine lv_iload_n hx hb dX12_findNights_7 rfl (lv_at hl 3 rfl) ?_
    refine lv_aload_n hx hb dX12_findNights_8 rfl (lv_at hl 0 rfl) ?_
    refine pg_i (k := 12) (j := 25) (f := 1225) hx hb hown hU iu12 hw Ta0 (by decide) rfl (hU _ tw1496) rfl dX12_findNights_9 ?_
    refine lv_icmp_ge (tgt := 72) hx hb dX12_findNights_12 (by decide) (fun h1 => ?_) (fun h1 => ?_)
    · rw [if_pos h1] at hm
      exact wb_X12_findNights_72 cx C X S0 n r S1 a0 x2 S _ _ _ hw hE Ta0 (lv_sub hl [0, 2] rfl) hm
    · rw [if_neg h1] at hm
      refine lv_aload_n hx hb dX12_findNights_15 rfl (lv_at hl 0 rfl) ?_
      obtain ⟨q2, hq2, hm⟩ := bd_some hm
      have Tq2 : TY S q2 14 := hw.wf.ref (k := 12) (j := 15) Ta0 (by decide) (by decide) hq2
      refine pg_rb (k := 12) (j := 15) (f := 1215) hx hb hown hU iu12 hw Ta0 (by decide) rfl (hU _ tw1486) rfl hq2 dX12_findNights_16 ?_
      refine lv_iconst (v := 4) hx hb dX12_findNights_19 (by decide) ?_
      refine lv_iload_n hx hb dX12_findNights_20 rfl (lv_at hl 3 rfl) ?_
      refine lv_imul hx hb dX12_findNights_21 ?_
      obtain ⟨hi3, hm⟩ := ck_some hm
      refine pw_iald hx hb hw Tq2 hi3 dX12_findNights_22 ?_
      refine lv_iload_n hx hb dX12_findNights_23 rfl (lv_at hl 1 rfl) ?_
      refine lv_icmp_eq (tgt := 30) hx hb dX12_findNights_24 (by decide) (fun h4 => ?_) (fun h4 => ?_)
      · rw [if_pos h4] at hm
        refine lv_aload_n hx hb dX12_findNights_30 rfl (lv_at hl 0 rfl) ?_
        obtain ⟨q5, hq5, hm⟩ := bd_some hm
        have Tq5 : TY S q5 14 := hw.wf.ref (k := 12) (j := 15) Ta0 (by decide) (by decide) hq5
        refine pg_rb (k := 12) (j := 15) (f := 1215) hx hb hown hU iu12 hw Ta0 (by decide) rfl (hU _ tw1486) rfl hq5 dX12_findNights_31 ?_
        refine lv_iconst (v := 4) hx hb dX12_findNights_34 (by decide) ?_
        refine lv_iload_n hx hb dX12_findNights_35 rfl (lv_at hl 3 rfl) ?_
        refine lv_imul hx hb dX12_findNights_36 ?_
        refine lv_iconst (v := 1) hx hb dX12_findNights_37 (by decide) ?_
        refine lv_iadd hx hb dX12_findNights_38 ?_
        obtain ⟨hi6, hm⟩ := ck_some hm
        refine pw_iald hx hb hw Tq5 hi6 dX12_findNights_39 ?_
        refine lv_iload_n hx hb dX12_findNights_40 rfl (lv_at hl 2 rfl) ?_
        refine lv_icmp_le (tgt := 46) hx hb dX12_findNights_41 (by decide) (fun h7 => ?_) (fun h7 => ?_)
        · rw [if_pos h7] at hm
          refine lv_aload_n hx hb dX12_findNights_46 rfl (lv_at hl 0 rfl) ?_
          obtain ⟨q8, hq8, hm⟩ := bd_some hm
          have Tq8 : TY S q8 14 := hw.wf.ref (k := 12) (j := 52) Ta0 (by decide) (by decide) hq8
          refine pg_rb (k := 12) (j := 52) (f := 1252) hx hb hown hU iu12 hw Ta0 (by decide) rfl (hU _ tw1523) rfl hq8 dX12_findNights_47 ?_
          refine lv_aload_n hx hb dX12_findNights_50 rfl (lv_at hl 0 rfl) ?_
          refine pg_i (k := 12) (j := 61) (f := 1261) hx hb hown hU iu12 hw Ta0 (by decide) rfl (hU _ tw1532) rfl dX12_findNights_51 ?_
          refine lv_iload_n hx hb dX12_findNights_54 rfl (lv_at hl 3 rfl) ?_
          obtain ⟨hi9, hm⟩ := ck_some hm
          refine pw_iast hx hb hw Tq8 hi9 dX12_findNights_55 (fun H locs hw => ?_)
          refine lv_aload_n hx hb dX12_findNights_56 rfl (lv_at hl 0 rfl) ?_
          refine lv_dup hx hb dX12_findNights_57 rfl ?_
          refine pg_i (k := 12) (j := 61) (f := 1261) hx hb hown hU iu12 hw Ta0 (by decide) rfl (hU _ tw1532) rfl dX12_findNights_58 ?_
          refine lv_iconst (v := 1) hx hb dX12_findNights_61 (by decide) ?_
          refine lv_iadd hx hb dX12_findNights_62 ?_
          refine pp_i (k := 12) (j := 61) (f := 1261) hx hb hown hU iu12 tyX12_ok nmX12 hw Ta0 (by decide) rfl (hU _ tw1532) rfl rfl rfl dX12_findNights_63 (fun H locs hw => ?_)
          obtain ⟨S_10, eS_10, hm⟩ := lt_some hm
          rw [← eS_10] at hw
          have Ta0 : TY S_10 a0 12 := by rw [eS_10]; exact Ta0
          have hE : Ext S0 S_10 := by rw [eS_10]; exact hE
          exact wb_X12_findNights_66 cx C X S0 n r S1 _ ih a0 x1 x2 x3 S_10 _ _ _ hw hE Ta0 (lv_sub hl [0, 1, 2, 3] rfl) hm
        · rw [if_neg h7] at hm
          refine lv_iconst (v := (-1)) hx hb dX12_findNights_44 (by decide) ?_
          cases hm
          exact pw_iret hx hb hr rfl hlk hw hE dX12_findNights_45
      · rw [if_neg h4] at hm
        refine lv_goto (tgt := 66) hx hb dX12_findNights_27 (by decide) ?_
        exact wb_X12_findNights_66 cx C X S0 n r S1 _ ih a0 x1 x2 x3 S _ _ _ hw hE Ta0 (lv_sub hl [0, 1, 2, 3] rfl) hm
def m_X12_findNights (n : Nat) (a0 : Nat) (x1 : Int32) (x2 : Int32) (S0 : pq_S) : Option (Int32 × pq_S) := b_X12_findNights_7 n n a0 x1 x2 0 (sI S0 1261 a0 0)
theorem tc_X12_findNights : Cond.code yX12_findNights cX12_findNights 5 (some .int) ∈ pq_U := tw2016
theorem cd_X12_findNights : yX12_findNights.cls = RX12 ∧ yX12_findNights.cls ≠ "java/lang/invoke/MethodHandle" ∧ yX12_findNights.cls ≠ "java/lang/invoke/VarHandle" ∧ (parseMethodDescriptor yX12_findNights.desc).map (fun d => d.parameters.length) = some 2 := by decide +kernel
set_option maxHeartbeats 4000000 in
set_option maxRecDepth 100000 in
theorem c_X12_findNights (l : Launch) (C : pq_C) (X : va_W) (n : Nat) (S0 : pq_S) (hF : WF S0) (sz : Nat) (a0 : Nat) (x1 : Int32) (x2 : Int32) (Ta0 : TY S0 a0 12) (r : Int32) (S1 : pq_S) (hm : m_X12_findNights n a0 x1 x2 S0 = some (r, S1)) : MI l yX12_findNights (.code yX12_findNights cX12_findNights 5 (some .int) :: pq_U) rm_X12_findNights C X S0 sz [.ref a0, .int x1, .int x2] r S1 0 0 := by
  refine Met.ofW (cc := cX12_findNights) (maxL := 5) (ret := (some .int)) (by decide) rfl ?_
  intro p e s m args below meth c s₁ B hml hv
  obtain ⟨rfl, hv⟩ := hv
  have hsz := hv.1
  subst hsz
  have hw := pw_entry hF hv
  have hts := atoms_spec (ws := .code yX12_findNights cX12_findNights 5 (some .int) :: pq_U) B.pre
  have hU : ∀ w ∈ pq_U, w.before _ s = true := fun w h => hts w (List.mem_cons_of_mem _ h)
  have hx := B.exec
  have hb := B.bytes
  have hr := B.returns
  have hown : s.vm.findClass RX12 = some m.cls := findClass_of_methodNamed B.named
  have hlk := B.notSynchronized
  have hl := lv_entry ([.ref a0, .int x1, .int x2]) (n := 5) (Nat.le_of_ble_eq_true rfl)
  rw [lg_entry_eq]
  generalize (lg_sl ([.ref a0, .int x1, .int x2]) ++ List.replicate (5 - (lg_sl ([.ref a0, .int x1, .int x2])).length) Slot.unset).toArray = ls at hl ⊢
  have hl : lv_has ls 5 [(0, .ref a0), (1, .int x1), (2, .int x2)] := hl
  have hE : Ext S0 S0 := Ext.rf _
  have cx : Cx p s m _ meth c cX12_findNights 5 RX12 (some .int) := ⟨hx, hb, hml, hown, hU, hr, hlk⟩
  rw [m_X12_findNights] at hm
  refine lv_aload_n hx hb dX12_findNights_0 rfl (lv_at hl 0 rfl) ?_
  refine lv_iconst (v := 0) hx hb dX12_findNights_1 (by decide) ?_
  refine pp_i (k := 12) (j := 61) (f := 1261) hx hb hown hU iu12 tyX12_ok nmX12 hw Ta0 (by decide) rfl (hU _ tw1532) rfl rfl rfl dX12_findNights_2 (fun H locs hw => ?_)
  refine lv_iconst (v := 0) hx hb dX12_findNights_5 (by decide) ?_
  refine lv_istore_n (lv' := [(3, .int 0), (0, .ref a0), (1, .int x1), (2, .int x2)]) hx hb dX12_findNights_6 rfl hl (by decide) rfl (fun ls hl => ?_)
  exact wb_X12_findNights_7 cx C X S0 n r S1 n a0 x1 x2 0 (sI S0 1261 a0 0) _ _ _ hw hE Ta0 (lv_sub hl [1, 2, 3, 0] rfl) hm
abbrev rm_X12_nights : Room := { frames := 66, cells := 0, slots := 0, locals := 1649 }
def m_X12_nights (n : Nat) (a0 : Nat) (x1 : Int32) (x2 : Int32) (S0 : pq_S) : Option (Int32 × pq_S) := cb (m_X12_isPlace n a0 x1 1 (sI S0 1200 a0 0)) fun r3 S_1 => if r3 = 0 then some (0, S_1) else cb (m_X12_within n x2 1 24 S_1) fun r9 S_7 => cb (m_X12_may n a0 r9 2 1 S_7) fun r14 S_12 => if r14 = 0 then some (0, S_12) else cb (m_X12_findNights n a0 x1 x2 S_12) fun r20 S_18 => some (r20, S_18)
theorem tc_X12_nights : Cond.code yX12_nights cX12_nights 3 (some .int) ∈ pq_U := tw2012
theorem cd_X12_nights : yX12_nights.cls = RX12 ∧ yX12_nights.cls ≠ "java/lang/invoke/MethodHandle" ∧ yX12_nights.cls ≠ "java/lang/invoke/VarHandle" ∧ (parseMethodDescriptor yX12_nights.desc).map (fun d => d.parameters.length) = some 2 := by decide +kernel
set_option maxHeartbeats 4000000 in
set_option maxRecDepth 100000 in
theorem c_X12_nights (l : Launch) (C : pq_C) (X : va_W) (n : Nat) (S0 : pq_S) (hF : WF S0) (sz : Nat) (a0 : Nat) (x1 : Int32) (x2 : Int32) (Ta0 : TY S0 a0 12) (r : Int32) (S1 : pq_S) (hm : m_X12_nights n a0 x1 x2 S0 = some (r, S1)) : MI l yX12_nights (.code yX12_nights cX12_nights 3 (some .int) :: pq_U) rm_X12_nights C X S0 sz [.ref a0, .int x1, .int x2] r S1 0 0 := by
  refine Met.ofW (cc := cX12_nights) (maxL := 3) (ret := (some .int)) (by decide) rfl ?_
  intro p e s m args below meth c s₁ B hml hv
  obtain ⟨rfl, hv⟩ := hv
  have hsz := hv.1
  subst hsz
  have hw := pw_entry hF hv
  have hts := atoms_spec (ws := .code yX12_nights cX12_nights 3 (some .int) :: pq_U) B.pre
  have hU : ∀ w ∈ pq_U, w.before _ s = true := fun w h => hts w (List.mem_cons_of_mem _ h)
  have hx := B.exec
  have hb := B.bytes
  have hr := B.returns
  have hown : s.vm.findClass RX12 = some m.cls := findClass_of_methodNamed B.named
  have hlk := B.notSynchronized
  have hl := lv_entry ([.ref a0, .int x1, .int x2]) (n := 3) (Nat.le_of_ble_eq_true rfl)
  rw [lg_entry_eq]
  generalize (lg_sl ([.ref a0, .int x1, .int x2]) ++ List.replicate (3 - (lg_sl ([.ref a0, .int x1, .int x2])).length) Slot.unset).toArray = ls at hl ⊢
  have hl : lv_has ls 3 [(0, .ref a0), (1, .int x1), (2, .int x2)] := hl
  have hE : Ext S0 S0 := Ext.rf _
  have cx : Cx p s m _ meth c cX12_nights 3 RX12 (some .int) := ⟨hx, hb, hml, hown, hU, hr, hlk⟩
  rw [m_X12_nights] at hm
  refine lv_aload_n hx hb dX12_nights_0 rfl (lv_at hl 0 rfl) ?_
  refine lv_iconst (v := 0) hx hb dX12_nights_1 (by decide) ?_
  refine pp_i (k := 12) (j := 0) (f := 1200) hx hb hown hU iu12 tyX12_ok nmX12 hw Ta0 (by decide) rfl (hU _ tw1471) rfl rfl rfl dX12_nights_2 (fun H locs hw => ?_)
  refine lv_aload_n hx hb dX12_nights_5 rfl (lv_at hl 0 rfl) ?_
  refine lv_iload_n hx hb dX12_nights_6 rfl (lv_at hl 1 rfl) ?_
  refine lv_iconst (v := 1) hx hb dX12_nights_7 (by decide) ?_
  obtain ⟨r3, S_1, hq2, hm⟩ := cb_some hm
  refine pw_cz (va_runV (As := [.int x1, .int 1]) (rest := []) ⟨hx, hb, hml, hown, hU⟩ (c_X12_isPlace l C X n (sI S0 1200 a0 0) hw.wf _ a0 x1 1 (Ta0) r3 S_1 hq2) (cwV 2 hU (pq_gV tw1918 tw1920 ts160 tw14 tc_X12_isPlace) rfl rfl rfl cd_X12_isPlace ⟨Nat.le_of_ble_eq_true rfl, Nat.le_of_ble_eq_true rfl⟩) (pw_preV hw Ta0 (by decide) rfl) rfl rfl hl.1 rfl (lv_room (Nat.le_of_ble_eq_true rfl)) dX12_nights_8 ⟨Nat.zero_le _, Nat.zero_le _⟩) hw (fun H locs hw hx4 hz5 => ?_)
  have Ta0 : TY S_1 a0 12 := ty_ext hx4 Ta0
  have hE : Ext S0 S_1 := Ext.tr hE hx4
  refine lv_if_eq (tgt := 30) hx hb dX12_nights_11 (by decide) (fun h6 => ?_) (fun h6 => ?_)
  · rw [if_pos h6] at hm
    refine lv_iconst (v := 0) hx hb dX12_nights_30 (by decide) ?_
    cases hm
    exact pw_iret hx hb hr rfl hlk hw hE dX12_nights_31
  · rw [if_neg h6] at hm
    refine lv_aload_n hx hb dX12_nights_14 rfl (lv_at hl 0 rfl) ?_
    refine lv_iload_n hx hb dX12_nights_15 rfl (lv_at hl 2 rfl) ?_
    refine lv_iconst (v := 1) hx hb dX12_nights_16 (by decide) ?_
    refine lv_bipush (v := 24) hx hb dX12_nights_17 (by decide) ?_
    obtain ⟨r9, S_7, hq8, hm⟩ := cb_some hm
    refine pw_cz (va_runS (As := [.int x2, .int 1, .int 24]) (rest := [.ref a0]) ⟨hx, hb, hml, hown, hU⟩ (c_X12_within l C X n S_1 hw.wf _ x2 1 24  r9 S_7 hq8) ⟨callB_of 3 hU (pq_g1 tc_X12_within) rfl rfl rfl (hU _ tw14) (hU _ tw1776) cd_X12_within.2 ⟨Nat.le_of_ble_eq_true rfl, Nat.le_of_ble_eq_true rfl⟩, hU _ tw1777⟩ (pw_preS hw) rfl rfl hl.1 rfl (lv_room (Nat.le_of_ble_eq_true rfl)) dX12_nights_19 ⟨Nat.zero_le _, Nat.zero_le _⟩) hw (fun H locs hw hx10 hz11 => ?_)
    have Ta0 : TY S_7 a0 12 := ty_ext hx10 Ta0
    have hE : Ext S0 S_7 := Ext.tr hE hx10
    refine lv_iconst (v := 2) hx hb dX12_nights_22 (by decide) ?_
    refine lv_iconst (v := 1) hx hb dX12_nights_23 (by decide) ?_
    obtain ⟨r14, S_12, hq13, hm⟩ := cb_some hm
    refine pw_cz (va_runV (As := [.int r9, .int 2, .int 1]) (rest := []) ⟨hx, hb, hml, hown, hU⟩ (c_X12_may l C X n S_7 hw.wf _ a0 r9 2 1 (Ta0) r14 S_12 hq13) (cwV 3 hU (pq_gV tw1703 tw1705 ts123 tw14 tc_X12_may) rfl rfl rfl cd_X12_may ⟨Nat.le_of_ble_eq_true rfl, Nat.le_of_ble_eq_true rfl⟩) (pw_preV hw Ta0 (by decide) rfl) rfl rfl hl.1 rfl (lv_room (Nat.le_of_ble_eq_true rfl)) dX12_nights_24 ⟨Nat.zero_le _, Nat.zero_le _⟩) hw (fun H locs hw hx15 hz16 => ?_)
    have Ta0 : TY S_12 a0 12 := ty_ext hx15 Ta0
    have hE : Ext S0 S_12 := Ext.tr hE hx15
    refine lv_if_ne (tgt := 32) hx hb dX12_nights_27 (by decide) (fun h17 => ?_) (fun h17 => ?_)
    · rw [if_neg h17] at hm
      refine lv_aload_n hx hb dX12_nights_32 rfl (lv_at hl 0 rfl) ?_
      refine lv_iload_n hx hb dX12_nights_33 rfl (lv_at hl 1 rfl) ?_
      refine lv_iload_n hx hb dX12_nights_34 rfl (lv_at hl 2 rfl) ?_
      obtain ⟨r20, S_18, hq19, hm⟩ := cb_some hm
      refine pw_ci (va_runV (As := [.int x1, .int x2]) (rest := []) ⟨hx, hb, hml, hown, hU⟩ (c_X12_findNights l C X n S_12 hw.wf _ a0 x1 x2 (Ta0) r20 S_18 hq19) (cwV 2 hU (pq_gV tw2013 tw2015 ts169 tw14 tc_X12_findNights) rfl rfl rfl cd_X12_findNights ⟨Nat.le_of_ble_eq_true rfl, Nat.le_of_ble_eq_true rfl⟩) (pw_preV hw Ta0 (by decide) rfl) rfl rfl hl.1 rfl (lv_room (Nat.le_of_ble_eq_true rfl)) dX12_nights_35 ⟨Nat.zero_le _, Nat.zero_le _⟩) hw (fun H locs hw hx21 => ?_)
      have Ta0 : TY S_18 a0 12 := ty_ext hx21 Ta0
      have hE : Ext S0 S_18 := Ext.tr hE hx21
      cases hm
      exact pw_iret hx hb hr rfl hlk hw hE dX12_nights_38
    · rw [if_pos h17] at hm
      refine lv_iconst (v := 0) hx hb dX12_nights_30 (by decide) ?_
      cases hm
      exact pw_iret hx hb hr rfl hlk hw hE dX12_nights_31
abbrev rm_X12_night : Room := { frames := 66, cells := 0, slots := 0, locals := 1649 }
def m_X12_night (n : Nat) (a0 : Nat) (x1 : Int32) (x2 : Int32) (S0 : pq_S) : Option (Int32 × pq_S) := cb (m_X12_isWant n a0 x1 1 (sI S0 1200 a0 0)) fun r3 S_1 => if r3 = 0 then some (0, S_1) else cb (m_X12_within n x2 1 24 S_1) fun r9 S_7 => cb (m_X12_may n a0 r9 2 1 S_7) fun r14 S_12 => if r14 = 0 then some (0, S_12) else Option.bind (pR S_12 1215 a0) fun q18 => ck (ix ((4 : Int32) * x1) (pN S_12 q18)) (dix _ _) (cb (m_X12_findNights n a0 (pA S_12 q18 (Int32.toNatClampNeg ((4 : Int32) * x1))) x2 S_12) fun r22 S_20 => if r22 = (-1) then some ((-1), S_20) else Option.bind (pR S_20 1259 a0) fun q25 => ck (ix x1 (pN S_20 q25)) (dix _ _) (some ((pA S_20 q25 (Int32.toNatClampNeg x1)), S_20)))
theorem tc_X12_night : Cond.code yX12_night cX12_night 3 (some .int) ∈ pq_U := tw2024
theorem cd_X12_night : yX12_night.cls = RX12 ∧ yX12_night.cls ≠ "java/lang/invoke/MethodHandle" ∧ yX12_night.cls ≠ "java/lang/invoke/VarHandle" ∧ (parseMethodDescriptor yX12_night.desc).map (fun d => d.parameters.length) = some 2 := by decide +kernel
set_option maxHeartbeats 4000000 in
set_option maxRecDepth 100000 in
theorem c_X12_night (l : Launch) (C : pq_C) (X : va_W) (n : Nat) (S0 : pq_S) (hF : WF S0) (sz : Nat) (a0 : Nat) (x1 : Int32) (x2 : Int32) (Ta0 : TY S0 a0 12) (r : Int32) (S1 : pq_S) (hm : m_X12_night n a0 x1 x2 S0 = some (r, S1)) : MI l yX12_night (.code yX12_night cX12_night 3 (some .int) :: pq_U) rm_X12_night C X S0 sz [.ref a0, .int x1, .int x2] r S1 0 0 := by
  refine Met.ofW (cc := cX12_night) (maxL := 3) (ret := (some .int)) (by decide) rfl ?_
  intro p e s m args below meth c s₁ B hml hv
  obtain ⟨rfl, hv⟩ := hv
  have hsz := hv.1
  subst hsz
  have hw := pw_entry hF hv
  have hts := atoms_spec (ws := .code yX12_night cX12_night 3 (some .int) :: pq_U) B.pre
  have hU : ∀ w ∈ pq_U, w.before _ s = true := fun w h => hts w (List.mem_cons_of_mem _ h)
  have hx := B.exec
  have hb := B.bytes
  have hr := B.returns
  have hown : s.vm.findClass RX12 = some m.cls := findClass_of_methodNamed B.named
  have hlk := B.notSynchronized
  have hl := lv_entry ([.ref a0, .int x1, .int x2]) (n := 3) (Nat.le_of_ble_eq_true rfl)
  rw [lg_entry_eq]
  generalize (lg_sl ([.ref a0, .int x1, .int x2]) ++ List.replicate (3 - (lg_sl ([.ref a0, .int x1, .int x2])).length) Slot.unset).toArray = ls at hl ⊢
  have hl : lv_has ls 3 [(0, .ref a0), (1, .int x1), (2, .int x2)] := hl
  have hE : Ext S0 S0 := Ext.rf _
  have cx : Cx p s m _ meth c cX12_night 3 RX12 (some .int) := ⟨hx, hb, hml, hown, hU, hr, hlk⟩
  rw [m_X12_night] at hm
  refine lv_aload_n hx hb dX12_night_0 rfl (lv_at hl 0 rfl) ?_
  refine lv_iconst (v := 0) hx hb dX12_night_1 (by decide) ?_
  refine pp_i (k := 12) (j := 0) (f := 1200) hx hb hown hU iu12 tyX12_ok nmX12 hw Ta0 (by decide) rfl (hU _ tw1471) rfl rfl rfl dX12_night_2 (fun H locs hw => ?_)
  refine lv_aload_n hx hb dX12_night_5 rfl (lv_at hl 0 rfl) ?_
  refine lv_iload_n hx hb dX12_night_6 rfl (lv_at hl 1 rfl) ?_
  refine lv_iconst (v := 1) hx hb dX12_night_7 (by decide) ?_
  obtain ⟨r3, S_1, hq2, hm⟩ := cb_some hm
  refine pw_cz (va_runV (As := [.int x1, .int 1]) (rest := []) ⟨hx, hb, hml, hown, hU⟩ (c_X12_isWant l C X n (sI S0 1200 a0 0) hw.wf _ a0 x1 1 (Ta0) r3 S_1 hq2) (cwV 2 hU (pq_gV tw1934 tw1936 ts163 tw14 tc_X12_isWant) rfl rfl rfl cd_X12_isWant ⟨Nat.le_of_ble_eq_true rfl, Nat.le_of_ble_eq_true rfl⟩) (pw_preV hw Ta0 (by decide) rfl) rfl rfl hl.1 rfl (lv_room (Nat.le_of_ble_eq_true rfl)) dX12_night_8 ⟨Nat.zero_le _, Nat.zero_le _⟩) hw (fun H locs hw hx4 hz5 => ?_)
  have Ta0 : TY S_1 a0 12 := ty_ext hx4 Ta0
  have hE : Ext S0 S_1 := Ext.tr hE hx4
  refine lv_if_eq (tgt := 30) hx hb dX12_night_11 (by decide) (fun h6 => ?_) (fun h6 => ?_)
  · rw [if_pos h6] at hm
    refine lv_iconst (v := 0) hx hb dX12_night_30 (by decide) ?_
    cases hm
    exact pw_iret hx hb hr rfl hlk hw hE dX12_night_31
  · rw [if_neg h6] at hm
    refine lv_aload_n hx hb dX12_night_14 rfl (lv_at hl 0 rfl) ?_
    refine lv_iload_n hx hb dX12_night_15 rfl (lv_at hl 2 rfl) ?_
    refine lv_iconst (v := 1) hx hb dX12_night_16 (by decide) ?_
    refine lv_bipush (v := 24) hx hb dX12_night_17 (by decide) ?_
    obtain ⟨r9, S_7, hq8, hm⟩ := cb_some hm
    refine pw_cz (va_runS (As := [.int x2, .int 1, .int 24]) (rest := [.ref a0]) ⟨hx, hb, hml, hown, hU⟩ (c_X12_within l C X n S_1 hw.wf _ x2 1 24  r9 S_7 hq8) ⟨callB_of 3 hU (pq_g1 tc_X12_within) rfl rfl rfl (hU _ tw14) (hU _ tw1776) cd_X12_within.2 ⟨Nat.le_of_ble_eq_true rfl, Nat.le_of_ble_eq_true rfl⟩, hU _ tw1777⟩ (pw_preS hw) rfl rfl hl.1 rfl (lv_room (Nat.le_of_ble_eq_true rfl)) dX12_night_19 ⟨Nat.zero_le _, Nat.zero_le _⟩) hw (fun H locs hw hx10 hz11 => ?_)
    have Ta0 : TY S_7 a0 12 := ty_ext hx10 Ta0
    have hE : Ext S0 S_7 := Ext.tr hE hx10
    refine lv_iconst (v := 2) hx hb dX12_night_22 (by decide) ?_
    refine lv_iconst (v := 1) hx hb dX12_night_23 (by decide) ?_
    obtain ⟨r14, S_12, hq13, hm⟩ := cb_some hm
    refine pw_cz (va_runV (As := [.int r9, .int 2, .int 1]) (rest := []) ⟨hx, hb, hml, hown, hU⟩ (c_X12_may l C X n S_7 hw.wf _ a0 r9 2 1 (Ta0) r14 S_12 hq13) (cwV 3 hU (pq_gV tw1703 tw1705 ts123 tw14 tc_X12_may) rfl rfl rfl cd_X12_may ⟨Nat.le_of_ble_eq_true rfl, Nat.le_of_ble_eq_true rfl⟩) (pw_preV hw Ta0 (by decide) rfl) rfl rfl hl.1 rfl (lv_room (Nat.le_of_ble_eq_true rfl)) dX12_night_24 ⟨Nat.zero_le _, Nat.zero_le _⟩) hw (fun H locs hw hx15 hz16 => ?_)
    have Ta0 : TY S_12 a0 12 := ty_ext hx15 Ta0
    have hE : Ext S0 S_12 := Ext.tr hE hx15
    refine lv_if_ne (tgt := 32) hx hb dX12_night_27 (by decide) (fun h17 => ?_) (fun h17 => ?_)
    · rw [if_neg h17] at hm
      refine lv_aload_n hx hb dX12_night_32 rfl (lv_at hl 0 rfl) ?_
      refine lv_aload_n hx hb dX12_night_33 rfl (lv_at hl 0 rfl) ?_
      obtain ⟨q18, hq18, hm⟩ := bd_some hm
      have Tq18 : TY S_12 q18 14 := hw.wf.ref (k := 12) (j := 15) Ta0 (by decide) (by decide) hq18
      refine pg_rb (k := 12) (j := 15) (f := 1215) hx hb hown hU iu12 hw Ta0 (by decide) rfl (hU _ tw1486) rfl hq18 dX12_night_34 ?_
      refine lv_iconst (v := 4) hx hb dX12_night_37 (by decide) ?_
      refine lv_iload_n hx hb dX12_night_38 rfl (lv_at hl 1 rfl) ?_
      refine lv_imul hx hb dX12_night_39 ?_
      obtain ⟨hi19, hm⟩ := ck_some hm
      refine pw_iald hx hb hw Tq18 hi19 dX12_night_40 ?_
      refine lv_iload_n hx hb dX12_night_41 rfl (lv_at hl 2 rfl) ?_
      obtain ⟨r22, S_20, hq21, hm⟩ := cb_some hm
      refine pw_ci (va_runV (As := [.int (pA S_12 q18 (Int32.toNatClampNeg ((4 : Int32) * x1))), .int x2]) (rest := []) ⟨hx, hb, hml, hown, hU⟩ (c_X12_findNights l C X n S_12 hw.wf _ a0 (pA S_12 q18 (Int32.toNatClampNeg ((4 : Int32) * x1))) x2 (Ta0) r22 S_20 hq21) (cwV 2 hU (pq_gV tw2013 tw2015 ts169 tw14 tc_X12_findNights) rfl rfl rfl cd_X12_findNights ⟨Nat.le_of_ble_eq_true rfl, Nat.le_of_ble_eq_true rfl⟩) (pw_preV hw Ta0 (by decide) rfl) rfl rfl hl.1 rfl (lv_room (Nat.le_of_ble_eq_true rfl)) dX12_night_42 ⟨Nat.zero_le _, Nat.zero_le _⟩) hw (fun H locs hw hx23 => ?_)
      have Ta0 : TY S_20 a0 12 := ty_ext hx23 Ta0
      have hE : Ext S0 S_20 := Ext.tr hE hx23
      refine lv_iconst (v := (-1)) hx hb dX12_night_45 (by decide) ?_
      refine lv_icmp_ne (tgt := 53) hx hb dX12_night_46 (by decide) (fun h24 => ?_) (fun h24 => ?_)
      · rw [if_neg h24] at hm
        refine lv_aload_n hx hb dX12_night_53 rfl (lv_at hl 0 rfl) ?_
        obtain ⟨q25, hq25, hm⟩ := bd_some hm
        have Tq25 : TY S_20 q25 14 := hw.wf.ref (k := 12) (j := 59) Ta0 (by decide) (by decide) hq25
        refine pg_rb (k := 12) (j := 59) (f := 1259) hx hb hown hU iu12 hw Ta0 (by decide) rfl (hU _ tw1530) rfl hq25 dX12_night_54 ?_
        refine lv_iload_n hx hb dX12_night_57 rfl (lv_at hl 1 rfl) ?_
        obtain ⟨hi26, hm⟩ := ck_some hm
        refine pw_iald hx hb hw Tq25 hi26 dX12_night_58 ?_
        cases hm
        exact pw_iret hx hb hr rfl hlk hw hE dX12_night_59
      · rw [if_pos h24] at hm
        refine lv_iconst (v := (-1)) hx hb dX12_night_49 (by decide) ?_
        refine lv_goto (tgt := 59) hx hb dX12_night_50 (by decide) ?_
        cases hm
        exact pw_iret hx hb hr rfl hlk hw hE dX12_night_59
    · rw [if_pos h17] at hm
      refine lv_iconst (v := 0) hx hb dX12_night_30 (by decide) ?_
      cases hm
      exact pw_iret hx hb hr rfl hlk hw hE dX12_night_31
