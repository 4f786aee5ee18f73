abbrev rm_X12_seam : Room := { frames := 68, cells := 0, slots := 0, locals := 1888 }
def b_X12_seam_49 (n : Nat) (a0 : Nat) (x1 : Int32) (x2 : Int32) (x3 : Int32) (x4 : Int32) (b0 : Nat) (z1 : Int32) (S : pq_S) : Option (Int32 × pq_S) := cb (m_X12_may n b0 z1 2 1 S) fun r27 S_25 => if r27 = 0 then some (0, S_25) else Option.bind (m_X12_take n a0 S_25) fun S_31 => Option.bind (m_X12_seams n a0 x1 x2 x3 0 0 (sI S_31 1265 a0 (-1000000))) fun S_34 => if x4 = 0 then some ((pI S_34 1265 a0), S_34) else some ((pI S_34 1266 a0), S_34)
set_option maxHeartbeats 4000000 in
set_option maxRecDepth 100000 in
theorem wb_X12_seam_49 {p : Program} {l : Launch} {e : Env} {s : State} {m : MethodId} {args : Array Value} {below : List Frame} {meth : Method} {c : Code} (cx : Cx p s m args meth c cX12_seam 5 RX12 (some .int)) (C : pq_C) (X : va_W) (S0 : pq_S) (n : Nat) (r : Int32) (S1 : pq_S) : ∀ (a0 : Nat) (x1 : Int32) (x2 : Int32) (x3 : Int32) (x4 : Int32) (b0 : Nat) (z1 : Int32) (S : pq_S) (H : Heap) (locs : List Loc) (ls : Array Slot), PW C X S (pq_F C X S0 s.heap.size) H locs s → Ext S0 S → TY S a0 12 → TY S b0 12 → lv_has ls 5 [(0, .ref a0), (1, .int x1), (2, .int x2), (3, .int x3), (4, .int x4)] → b_X12_seam_49 n a0 x1 x2 x3 x4 b0 z1 S = some (r, S1) → W p l e rm_X12_seam s m args below meth c H locs 0 0 (MQ below (QcI C X S0 s.heap.size r S1) args s 0 0 (pq_F C X S0 s.heap.size)) (F0 m 49 ls [.int z1, .ref b0]) := by
  obtain ⟨hx, hb, hml, hown, hU, hr, hlk⟩ := id cx
  intro a0 x1 x2 x3 x4 b0 z1 S H locs ls hw hE Ta0 Tb0 hl hm
  rw [b_X12_seam_49] at hm
  refine lv_iconst (v := 2) hx hb dX12_seam_49 (by decide) ?_
  refine lv_iconst (v := 1) hx hb dX12_seam_50 (by decide) ?_
  obtain ⟨r27, S_25, hq26, hm⟩ := cb_some hm
  refine pw_cz (va_runV (As := [.int z1, .int 2, .int 1]) (rest := []) ⟨hx, hb, hml, hown, hU⟩ (c_X12_may l C X n S hw.wf _ b0 z1 2 1 (Tb0) r27 S_25 hq26) (cwV 3 hU (pq_gV tw1703 tw1705 ts123 tw14 tc_X12_may) rfl rfl rfl cd_X12_may ⟨Nat.le_of_ble_eq_true rfl, Nat.le_of_ble_eq_true rfl⟩) (pw_preV hw Tb0 (by decide) rfl) rfl rfl hl.1 rfl (lv_room (Nat.le_of_ble_eq_true rfl)) dX12_seam_51 ⟨Nat.zero_le _, Nat.zero_le _⟩) hw (fun H locs hw hx28 hz29 => ?_)
  have Ta0 : TY S_25 a0 12 := ty_ext hx28 Ta0
  have hE : Ext S0 S_25 := Ext.tr hE hx28
  refine lv_if_ne (tgt := 59) hx hb dX12_seam_54 (by decide) (fun h30 => ?_) (fun h30 => ?_)
  · rw [if_neg h30] at hm
    refine lv_aload_n hx hb dX12_seam_59 rfl (lv_at hl 0 rfl) ?_
    obtain ⟨S_31, hq32, hm⟩ := bd_some hm
    refine pw_cv (va_runV (As := []) (rest := []) ⟨hx, hb, hml, hown, hU⟩ (c_X12_take l C X n S_25 hw.wf _ a0 (Ta0) S_31 hq32) (cwV 0 hU (pq_gV tw1922 tw1924 ts161 tw14 tc_X12_take) rfl rfl rfl cd_X12_take ⟨Nat.le_of_ble_eq_true rfl, Nat.le_of_ble_eq_true rfl⟩) (pw_preV hw Ta0 (by decide) rfl) rfl rfl hl.1 rfl (lv_room (Nat.le_of_ble_eq_true rfl)) dX12_seam_60 ⟨Nat.zero_le _, Nat.zero_le _⟩) hw (fun H locs hw hx33 => ?_)
    have Ta0 : TY S_31 a0 12 := ty_ext hx33 Ta0
    have hE : Ext S0 S_31 := Ext.tr hE hx33
    refine lv_aload_n hx hb dX12_seam_63 rfl (lv_at hl 0 rfl) ?_
    refine lv_ldcw (v := (-1000000)) hx hb hown (hU _ tw2049) dX12_seam_64 ?_
    refine pp_i (k := 12) (j := 65) (f := 1265) hx hb hown hU iu12 tyX12_ok nmX12 hw Ta0 (by decide) rfl (hU _ tw1536) rfl rfl rfl dX12_seam_67 (fun H locs hw => ?_)
    refine lv_aload_n hx hb dX12_seam_70 rfl (lv_at hl 0 rfl) ?_
    refine lv_iload_n hx hb dX12_seam_71 rfl (lv_at hl 1 rfl) ?_
    refine lv_iload_n hx hb dX12_seam_72 rfl (lv_at hl 2 rfl) ?_
    refine lv_iload_n hx hb dX12_seam_73 rfl (lv_at hl 3 rfl) ?_
    refine lv_iconst (v := 0) hx hb dX12_seam_74 (by decide) ?_
    refine lv_iconst (v := 0) hx hb dX12_seam_75 (by decide) ?_
    obtain ⟨S_34, hq35, hm⟩ := bd_some hm
    refine pw_cv (va_runV (As := [.int x1, .int x2, .int x3, .int 0, .int 0]) (rest := []) ⟨hx, hb, hml, hown, hU⟩ (c_X12_seams l C X n (sI S_31 1265 a0 (-1000000)) hw.wf _ a0 x1 x2 x3 0 0 (Ta0) S_34 hq35) (cwV 5 hU (pq_gV tw2050 tw2052 ts173 tw14 tc_X12_seams) rfl rfl rfl cd_X12_seams ⟨Nat.le_of_ble_eq_true rfl, Nat.le_of_ble_eq_true rfl⟩) (pw_preV hw Ta0 (by decide) rfl) rfl rfl hl.1 rfl (lv_room (Nat.le_of_ble_eq_true rfl)) dX12_seam_76 ⟨Nat.zero_le _, Nat.zero_le _⟩) hw (fun H locs hw hx36 => ?_)
    have Ta0 : TY S_34 a0 12 := ty_ext hx36 Ta0
    have hE : Ext S0 S_34 := Ext.tr hE hx36
    refine lv_iload hx hb dX12_seam_79 (lv_at hl 4 rfl) ?_
    refine lv_if_ne (tgt := 91) hx hb dX12_seam_81 (by decide) (fun h37 => ?_) (fun h37 => ?_)
    · rw [if_neg h37] at hm
      refine lv_aload_n hx hb dX12_seam_91 rfl (lv_at hl 0 rfl) ?_
      refine pg_i (k := 12) (j := 66) (f := 1266) hx hb hown hU iu12 hw Ta0 (by decide) rfl (hU _ tw1537) rfl dX12_seam_92 ?_
      cases hm
      exact pw_iret hx hb hr rfl hlk hw hE dX12_seam_95
    · rw [if_pos h37] at hm
      refine lv_aload_n hx hb dX12_seam_84 rfl (lv_at hl 0 rfl) ?_
      refine pg_i (k := 12) (j := 65) (f := 1265) hx hb hown hU iu12 hw Ta0 (by decide) rfl (hU _ tw1536) rfl dX12_seam_85 ?_
      refine lv_goto (tgt := 95) hx hb dX12_seam_88 (by decide) ?_
      cases hm
      exact pw_iret hx hb hr rfl hlk hw hE dX12_seam_95
  · rw [if_pos h30] at hm
    refine lv_iconst (v := 0) hx hb dX12_seam_57 (by decide) ?_
    cases hm
    exact pw_iret hx hb hr rfl hlk hw hE dX12_seam_58
def b_X12_seam_48 (n : Nat) (a0 : Nat) (x1 : Int32) (x2 : Int32) (x3 : Int32) (x4 : Int32) (b0 : Nat) (S : pq_S) : Option (Int32 × pq_S) := b_X12_seam_49 n a0 x1 x2 x3 x4 b0 0 S
set_option maxHeartbeats 4000000 in
set_option maxRecDepth 100000 in
theorem wb_X12_seam_48 {p : Program} {l : Launch} {e : Env} {s : State} {m : MethodId} {args : Array Value} {below : List Frame} {meth : Method} {c : Code} (cx : Cx p s m args meth c cX12_seam 5 RX12 (some .int)) (C : pq_C) (X : va_W) (S0 : pq_S) (n : Nat) (r : Int32) (S1 : pq_S) : ∀ (a0 : Nat) (x1 : Int32) (x2 : Int32) (x3 : Int32) (x4 : Int32) (b0 : Nat) (S : pq_S) (H : Heap) (locs : List Loc) (ls : Array Slot), PW C X S (pq_F C X S0 s.heap.size) H locs s → Ext S0 S → TY S a0 12 → TY S b0 12 → lv_has ls 5 [(0, .ref a0), (1, .int x1), (2, .int x2), (3, .int x3), (4, .int x4)] → b_X12_seam_48 n a0 x1 x2 x3 x4 b0 S = some (r, S1) → W p l e rm_X12_seam s m args below meth c H locs 0 0 (MQ below (QcI C X S0 s.heap.size r S1) args s 0 0 (pq_F C X S0 s.heap.size)) (F0 m 48 ls [.ref b0]) := by
  obtain ⟨hx, hb, hml, hown, hU, hr, hlk⟩ := id cx
  intro a0 x1 x2 x3 x4 b0 S H locs ls hw hE Ta0 Tb0 hl hm
  rw [b_X12_seam_48] at hm
  refine lv_iconst (v := 0) hx hb dX12_seam_48 (by decide) ?_
  exact wb_X12_seam_49 cx C X S0 n r S1 a0 x1 x2 x3 x4 b0 0 S _ _ _ hw hE Ta0 Tb0 (lv_sub hl [0, 1, 2, 3, 4] rfl) hm
def m_X12_seam (n : Nat) (a0 : Nat) (x1 : Int32) (x2 : Int32) (x3 : Int32) (x4 : Int32) (S0 : pq_S) : Option (Int32 × pq_S) := cb (m_X12_isMine n a0 x1 1 (sI S0 1200 a0 0)) fun r3 S_1 => if r3 = 0 then some (0, S_1) else cb (m_X12_within n x2 1 4 S_1) fun r9 S_7 => if r9 = 0 then b_X12_seam_48 n a0 x1 x2 x3 x4 a0 S_7 else cb (m_X12_within n x3 0 9 S_7) fun r15 S_13 => if r15 = 0 then b_X12_seam_48 n a0 x1 x2 x3 x4 a0 S_13 else cb (m_X12_within n x4 0 1 S_13) fun r21 S_19 => if r21 = 0 then b_X12_seam_48 n a0 x1 x2 x3 x4 a0 S_19 else b_X12_seam_49 n a0 x1 x2 x3 x4 a0 1 S_19
theorem tc_X12_seam : Cond.code yX12_seam cX12_seam 5 (some .int) ∈ pq_U := tw2048
theorem cd_X12_seam : yX12_seam.cls = RX12 ∧ yX12_seam.cls ≠ "java/lang/invoke/MethodHandle" ∧ yX12_seam.cls ≠ "java/lang/invoke/VarHandle" ∧ (parseMethodDescriptor yX12_seam.desc).map (fun d => d.parameters.length) = some 4 := by decide +kernel
set_option maxHeartbeats 4000000 in
set_option maxRecDepth 100000 in
theorem c_X12_seam (l : Launch) (C : pq_C) (X : va_W) (n : Nat) (S0 : pq_S) (hF : WF S0) (sz : Nat) (a0 : Nat) (x1 : Int32) (x2 : Int32) (x3 : Int32) (x4 : Int32) (Ta0 : TY S0 a0 12) (r : Int32) (S1 : pq_S) (hm : m_X12_seam n a0 x1 x2 x3 x4 S0 = some (r, S1)) : MI l yX12_seam (.code yX12_seam cX12_seam 5 (some .int) :: pq_U) rm_X12_seam C X S0 sz [.ref a0, .int x1, .int x2, .int x3, .int x4] r S1 0 0 := by
  refine Met.ofW (cc := cX12_seam) (maxL := 5) (ret := (some .int)) (by decide) rfl ?_
  intro p e s m args below meth c s₁ B hml hv
  obtain ⟨rfl, hv⟩ := hv
  have hsz := hv.1
  subst hsz
  have hw := pw_entry hF hv
  have hts := atoms_spec (ws := .code yX12_seam cX12_seam 5 (some .int) :: pq_U) B.pre
  have hU : ∀ w ∈ pq_U, w.before _ s = true := fun w h => hts w (List.mem_cons_of_mem _ h)
  have hx := B.exec
  have hb := B.bytes
  have hr := B.returns
  have hown : s.vm.findClass RX12 = some m.cls := findClass_of_methodNamed B.named
  have hlk := B.notSynchronized
  have hl := lv_entry ([.ref a0, .int x1, .int x2, .int x3, .int x4]) (n := 5) (Nat.le_of_ble_eq_true rfl)
  rw [lg_entry_eq]
  generalize (lg_sl ([.ref a0, .int x1, .int x2, .int x3, .int x4]) ++ List.replicate (5 - (lg_sl ([.ref a0, .int x1, .int x2, .int x3, .int x4])).length) Slot.unset).toArray = ls at hl ⊢
  have hl : lv_has ls 5 [(0, .ref a0), (1, .int x1), (2, .int x2), (3, .int x3), (4, .int x4)] := hl
  have hE : Ext S0 S0 := Ext.rf _
  have cx : Cx p s m _ meth c cX12_seam 5 RX12 (some .int) := ⟨hx, hb, hml, hown, hU, hr, hlk⟩
  rw [m_X12_seam] at hm
  refine lv_aload_n hx hb dX12_seam_0 rfl (lv_at hl 0 rfl) ?_
  refine lv_iconst (v := 0) hx hb dX12_seam_1 (by decide) ?_
  refine pp_i (k := 12) (j := 0) (f := 1200) hx hb hown hU iu12 tyX12_ok nmX12 hw Ta0 (by decide) rfl (hU _ tw1471) rfl rfl rfl dX12_seam_2 (fun H locs hw => ?_)
  refine lv_aload_n hx hb dX12_seam_5 rfl (lv_at hl 0 rfl) ?_
  refine lv_iload_n hx hb dX12_seam_6 rfl (lv_at hl 1 rfl) ?_
  refine lv_iconst (v := 1) hx hb dX12_seam_7 (by decide) ?_
  obtain ⟨r3, S_1, hq2, hm⟩ := cb_some hm
  refine pw_cz (va_runV (As := [.int x1, .int 1]) (rest := []) ⟨hx, hb, hml, hown, hU⟩ (c_X12_isMine l C X n (sI S0 1200 a0 0) hw.wf _ a0 x1 1 (Ta0) r3 S_1 hq2) (cwV 2 hU (pq_gV tw1942 tw1944 ts164 tw14 tc_X12_isMine) rfl rfl rfl cd_X12_isMine ⟨Nat.le_of_ble_eq_true rfl, Nat.le_of_ble_eq_true rfl⟩) (pw_preV hw Ta0 (by decide) rfl) rfl rfl hl.1 rfl (lv_room (Nat.le_of_ble_eq_true rfl)) dX12_seam_8 ⟨Nat.zero_le _, Nat.zero_le _⟩) hw (fun H locs hw hx4 hz5 => ?_)
  have Ta0 : TY S_1 a0 12 := ty_ext hx4 Ta0
  have hE : Ext S0 S_1 := Ext.tr hE hx4
  refine lv_if_eq (tgt := 57) hx hb dX12_seam_11 (by decide) (fun h6 => ?_) (fun h6 => ?_)
  · rw [if_pos h6] at hm
    refine lv_iconst (v := 0) hx hb dX12_seam_57 (by decide) ?_
    cases hm
    exact pw_iret hx hb hr rfl hlk hw hE dX12_seam_58
  · rw [if_neg h6] at hm
    refine lv_aload_n hx hb dX12_seam_14 rfl (lv_at hl 0 rfl) ?_
    refine lv_iload_n hx hb dX12_seam_15 rfl (lv_at hl 2 rfl) ?_
    refine lv_iconst (v := 1) hx hb dX12_seam_16 (by decide) ?_
    refine lv_iconst (v := 4) hx hb dX12_seam_17 (by decide) ?_
    obtain ⟨r9, S_7, hq8, hm⟩ := cb_some hm
    refine pw_cz (va_runS (As := [.int x2, .int 1, .int 4]) (rest := [.ref a0]) ⟨hx, hb, hml, hown, hU⟩ (c_X12_within l C X n S_1 hw.wf _ x2 1 4  r9 S_7 hq8) ⟨callB_of 3 hU (pq_g1 tc_X12_within) rfl rfl rfl (hU _ tw14) (hU _ tw1776) cd_X12_within.2 ⟨Nat.le_of_ble_eq_true rfl, Nat.le_of_ble_eq_true rfl⟩, hU _ tw1777⟩ (pw_preS hw) rfl rfl hl.1 rfl (lv_room (Nat.le_of_ble_eq_true rfl)) dX12_seam_18 ⟨Nat.zero_le _, Nat.zero_le _⟩) hw (fun H locs hw hx10 hz11 => ?_)
    have Ta0 : TY S_7 a0 12 := ty_ext hx10 Ta0
    have hE : Ext S0 S_7 := Ext.tr hE hx10
    refine lv_if_eq (tgt := 48) hx hb dX12_seam_21 (by decide) (fun h12 => ?_) (fun h12 => ?_)
    · rw [if_pos h12] at hm
      exact wb_X12_seam_48 cx C X S0 n r S1 a0 x1 x2 x3 x4 a0 S_7 _ _ _ hw hE Ta0 Ta0 (lv_sub hl [0, 1, 2, 3, 4] rfl) hm
    · rw [if_neg h12] at hm
      refine lv_iload_n hx hb dX12_seam_24 rfl (lv_at hl 3 rfl) ?_
      refine lv_iconst (v := 0) hx hb dX12_seam_25 (by decide) ?_
      refine lv_bipush (v := 9) hx hb dX12_seam_26 (by decide) ?_
      obtain ⟨r15, S_13, hq14, hm⟩ := cb_some hm
      refine pw_cz (va_runS (As := [.int x3, .int 0, .int 9]) (rest := [.ref a0]) ⟨hx, hb, hml, hown, hU⟩ (c_X12_within l C X n S_7 hw.wf _ x3 0 9  r15 S_13 hq14) ⟨callB_of 3 hU (pq_g1 tc_X12_within) rfl rfl rfl (hU _ tw14) (hU _ tw1776) cd_X12_within.2 ⟨Nat.le_of_ble_eq_true rfl, Nat.le_of_ble_eq_true rfl⟩, hU _ tw1777⟩ (pw_preS hw) rfl rfl hl.1 rfl (lv_room (Nat.le_of_ble_eq_true rfl)) dX12_seam_28 ⟨Nat.zero_le _, Nat.zero_le _⟩) hw (fun H locs hw hx16 hz17 => ?_)
      have Ta0 : TY S_13 a0 12 := ty_ext hx16 Ta0
      have hE : Ext S0 S_13 := Ext.tr hE hx16
      refine lv_if_eq (tgt := 48) hx hb dX12_seam_31 (by decide) (fun h18 => ?_) (fun h18 => ?_)
      · rw [if_pos h18] at hm
        exact wb_X12_seam_48 cx C X S0 n r S1 a0 x1 x2 x3 x4 a0 S_13 _ _ _ hw hE Ta0 Ta0 (lv_sub hl [0, 1, 2, 3, 4] rfl) hm
      · rw [if_neg h18] at hm
        refine lv_iload hx hb dX12_seam_34 (lv_at hl 4 rfl) ?_
        refine lv_iconst (v := 0) hx hb dX12_seam_36 (by decide) ?_
        refine lv_iconst (v := 1) hx hb dX12_seam_37 (by decide) ?_
        obtain ⟨r21, S_19, hq20, hm⟩ := cb_some hm
        refine pw_cz (va_runS (As := [.int x4, .int 0, .int 1]) (rest := [.ref a0]) ⟨hx, hb, hml, hown, hU⟩ (c_X12_within l C X n S_13 hw.wf _ x4 0 1  r21 S_19 hq20) ⟨callB_of 3 hU (pq_g1 tc_X12_within) rfl rfl rfl (hU _ tw14) (hU _ tw1776) cd_X12_within.2 ⟨Nat.le_of_ble_eq_true rfl, Nat.le_of_ble_eq_true rfl⟩, hU _ tw1777⟩ (pw_preS hw) rfl rfl hl.1 rfl (lv_room (Nat.le_of_ble_eq_true rfl)) dX12_seam_38 ⟨Nat.zero_le _, Nat.zero_le _⟩) hw (fun H locs hw hx22 hz23 => ?_)
        have Ta0 : TY S_19 a0 12 := ty_ext hx22 Ta0
        have hE : Ext S0 S_19 := Ext.tr hE hx22
        refine lv_if_eq (tgt := 48) hx hb dX12_seam_41 (by decide) (fun h24 => ?_) (fun h24 => ?_)
        · rw [if_pos h24] at hm
          exact wb_X12_seam_48 cx C X S0 n r S1 a0 x1 x2 x3 x4 a0 S_19 _ _ _ hw hE Ta0 Ta0 (lv_sub hl [0, 1, 2, 3, 4] rfl) hm
        · rw [if_neg h24] at hm
          refine lv_iconst (v := 1) hx hb dX12_seam_44 (by decide) ?_
          refine lv_goto (tgt := 49) hx hb dX12_seam_45 (by decide) ?_
          exact wb_X12_seam_49 cx C X S0 n r S1 a0 x1 x2 x3 x4 a0 1 S_19 _ _ _ hw hE Ta0 Ta0 (lv_sub hl [0, 1, 2, 3, 4] rfl) hm
abbrev rm_X0_read : Room := { frames := 2, cells := 0, slots := 0, locals := 64 }
def b_X0_read_103 (n : Nat) (k4 : Nat → Nat → Int32 → Int32 → pq_S → Option pq_S) (a0 : Nat) (a1 : Nat) (x2 : Int32) (x3 : Int32) (S : pq_S) : Option pq_S := k4 a0 a1 x2 (x3 + 1) S
set_option maxHeartbeats 4000000 in
set_option maxRecDepth 100000 in
theorem wb_X0_read_103 {p : Program} {l : Launch} {e : Env} {s : State} {m : MethodId} {args : Array Value} {below : List Frame} {meth : Method} {c : Code} (cx : Cx p s m args meth c cX0_read 7 RX0 none) (C : pq_C) (X : va_W) (S0 : pq_S) (n : Nat) (S1 : pq_S) (k4 : Nat → Nat → Int32 → Int32 → pq_S → Option pq_S) (hk4 : ∀ (a0 : Nat) (a1 : Nat) (x2 : Int32) (x3 : Int32) (S : pq_S) (H : Heap) (locs : List Loc) (ls : Array Slot), PW C X S (pq_F C X S0 s.heap.size) H locs s → Ext S0 S → TY S a0 0 → TY S a1 10 → lv_has ls 7 [(0, .ref a0), (1, .ref a1), (2, .int x2), (3, .int x3)] → k4 a0 a1 x2 x3 S = some S1 → W p l e rm_X0_read s m args below meth c H locs 0 0 (MQ below (QcV C X S0 s.heap.size S1) args s 0 0 (pq_F C X S0 s.heap.size)) (F0 m 6 ls [])) : ∀ (a0 : Nat) (a1 : Nat) (x2 : Int32) (x3 : Int32) (S : pq_S) (H : Heap) (locs : List Loc) (ls : Array Slot), PW C X S (pq_F C X S0 s.heap.size) H locs s → Ext S0 S → TY S a0 0 → TY S a1 10 → lv_has ls 7 [(0, .ref a0), (1, .ref a1), (2, .int x2), (3, .int x3)] → b_X0_read_103 n k4 a0 a1 x2 x3 S = some S1 → W p l e rm_X0_read s m args below meth c H locs 0 0 (MQ below (QcV C X S0 s.heap.size S1) args s 0 0 (pq_F C X S0 s.heap.size)) (F0 m 103 ls []) := by
  obtain ⟨hx, hb, hml, hown, hU, hr, hlk⟩ := id cx
  intro a0 a1 x2 x3 S H locs ls hw hE Ta0 Ta1 hl hm
  rw [b_X0_read_103] at hm
  refine lv_iinc (v := (x3 + 1)) (lv' := [(3, .int (x3 + 1)), (0, .ref a0), (1, .ref a1), (2, .int x2)]) hx hb dX0_read_103 hl (k := 3) rfl rfl (by decide) rfl (fun ls hl => ?_)
  refine lv_goto (tgt := 6) hx hb dX0_read_106 (by decide) ?_
  exact hk4 a0 a1 x2 (x3 + 1) S _ _ _ hw hE Ta0 Ta1 (lv_sub hl [1, 2, 3, 0] rfl) hm
def b_X0_read_52 (n : Nat) (k4 : Nat → Nat → Int32 → Int32 → pq_S → Option pq_S) (a0 : Nat) (a1 : Nat) (x2 : Int32) (x3 : Int32) (x5 : Int32) (S : pq_S) : Option pq_S := cb (m_X10_takeNumber n a1 0 99 S) fun r25 S_23 => Option.bind (m_X10_takeSign n a1 59 S_23) fun S_27 => cb (m_X10_isWell n a1 S_27) fun r32 S_30 => if r32 = 0 then b_X0_read_103 n k4 a0 a1 x2 x3 S_30 else Option.bind (pR S_30 0 a0) fun q36 => if (Int32.ofNat (pN S_30 q36)) ≤ x5 then b_X0_read_103 n k4 a0 a1 x2 x3 S_30 else Option.bind (pR S_30 0 a0) fun q38 => ck (ix x5 (pN S_30 q38)) (dix _ _) (lt_ (sI (sA S_30 q38 (Int32.toNatClampNeg x5) r25) 1 a0 ((pI (sA S_30 q38 (Int32.toNatClampNeg x5) r25) 1 a0) + (1 : Int32))) fun S_40 => b_X0_read_103 n k4 a0 a1 x2 x3 S_40)
set_option maxHeartbeats 4000000 in
set_option maxRecDepth 100000 in
theorem wb_X0_read_52 {p : Program} {l : Launch} {e : Env} {s : State} {m : MethodId} {args : Array Value} {below : List Frame} {meth : Method} {c : Code} (cx : Cx p s m args meth c cX0_read 7 RX0 none) (C : pq_C) (X : va_W) (S0 : pq_S) (n : Nat) (S1 : pq_S) (k4 : Nat → Nat → Int32 → Int32 → pq_S → Option pq_S) (hk4 : ∀ (a0 : Nat) (a1 : Nat) (x2 : Int32) (x3 : Int32) (S : pq_S) (H : Heap) (locs : List Loc) (ls : Array Slot), PW C X S (pq_F C X S0 s.heap.size) H locs s → Ext S0 S → TY S a0 0 → TY S a1 10 → lv_has ls 7 [(0, .ref a0), (1, .ref a1), (2, .int x2), (3, .int x3)] → k4 a0 a1 x2 x3 S = some S1 → W p l e rm_X0_read s m args below meth c H locs 0 0 (MQ below (QcV C X S0 s.heap.size S1) args s 0 0 (pq_F C X S0 s.heap.size)) (F0 m 6 ls [])) : ∀ (a0 : Nat) (a1 : Nat) (x2 : Int32) (x3 : Int32) (x5 : Int32) (S : pq_S) (H : Heap) (locs : List Loc) (ls : Array Slot), PW C X S (pq_F C X S0 s.heap.size) H locs s → Ext S0 S → TY S a0 0 → TY S a1 10 → lv_has ls 7 [(0, .ref a0), (1, .ref a1), (2, .int x2), (3, .int x3), (5, .int x5)] → b_X0_read_52 n k4 a0 a1 x2 x3 x5 S = some S1 → W p l e rm_X0_read s m args below meth c H locs 0 0 (MQ below (QcV C X S0 s.heap.size S1) args s 0 0 (pq_F C X S0 s.heap.size)) (F0 m 52 ls []) := by
  obtain ⟨hx, hb, hml, hown, hU, hr, hlk⟩ := id cx
  intro a0 a1 x2 x3 x5 S H locs ls hw hE Ta0 Ta1 hl hm
  rw [b_X0_read_52] at hm
  refine lv_aload_n hx hb dX0_read_52 rfl (lv_at hl 1 rfl) ?_
  refine lv_iconst (v := 0) hx hb dX0_read_53 (by decide) ?_
  refine lv_bipush (v := 99) hx hb dX0_read_54 (by decide) ?_
  obtain ⟨r25, S_23, hq24, hm⟩ := cb_some hm
  refine pw_ci (va_runVN (As := [.int 0, .int 99]) (rest := []) ⟨hx, hb, hml, hown, hU⟩ (c_X10_takeNumber l C X n S hw.wf _ a1 0 99 (Ta1) r25 S_23 hq24) ⟨va_cnB (host := "WickNights") 2 hU (pq_g1 tc_X10_takeNumber) rfl rfl rfl (hw.nw 150 rfl) (hU _ tw2) cd_X10_takeNumber.2 ⟨Nat.le_of_ble_eq_true rfl, Nat.le_of_ble_eq_true rfl⟩, hU _ tw668, hU _ ts22⟩ (pw_preV hw Ta1 (by decide) rfl) rfl rfl hl.1 rfl (lv_room (Nat.le_of_ble_eq_true rfl)) dX0_read_56 ⟨Nat.zero_le _, Nat.zero_le _⟩) hw (fun H locs hw hx26 => ?_)
  have Ta0 : TY S_23 a0 0 := ty_ext hx26 Ta0
  have Ta1 : TY S_23 a1 10 := ty_ext hx26 Ta1
  have hE : Ext S0 S_23 := Ext.tr hE hx26
  refine lv_istore (lv' := [(6, .int r25), (0, .ref a0), (1, .ref a1), (2, .int x2), (3, .int x3), (5, .int x5)]) hx hb dX0_read_59 hl (by decide) rfl (fun ls hl => ?_)
  refine lv_aload_n hx hb dX0_read_61 rfl (lv_at hl 2 rfl) ?_
  refine lv_bipush (v := 59) hx hb dX0_read_62 (by decide) ?_
  obtain ⟨S_27, hq28, hm⟩ := bd_some hm
  refine pw_cv (va_runVN (As := [.int 59]) (rest := []) ⟨hx, hb, hml, hown, hU⟩ (c_X10_takeSign l C X n S_23 hw.wf _ a1 59 (Ta1) S_27 hq28) ⟨va_cnB (host := "WickNights") 1 hU (pq_g1 tc_X10_takeSign) rfl rfl rfl (hw.nw 153 rfl) (hU _ tw2) cd_X10_takeSign.2 ⟨Nat.le_of_ble_eq_true rfl, Nat.le_of_ble_eq_true rfl⟩, hU _ tw697, hU _ ts27⟩ (pw_preV hw Ta1 (by decide) rfl) rfl rfl hl.1 rfl (lv_room (Nat.le_of_ble_eq_true rfl)) dX0_read_64 ⟨Nat.zero_le _, Nat.zero_le _⟩) hw (fun H locs hw hx29 => ?_)
  have Ta0 : TY S_27 a0 0 := ty_ext hx29 Ta0
  have Ta1 : TY S_27 a1 10 := ty_ext hx29 Ta1
  have hE : Ext S0 S_27 := Ext.tr hE hx29
  refine lv_aload_n hx hb dX0_read_67 rfl (lv_at hl 2 rfl) ?_
  obtain ⟨r32, S_30, hq31, hm⟩ := cb_some hm
  refine pw_cz (va_runVN (As := []) (rest := []) ⟨hx, hb, hml, hown, hU⟩ (c_X10_isWell l C X n S_27 hw.wf _ a1 (Ta1) r32 S_30 hq31) ⟨va_cnB (host := "WickNights") 0 hU (pq_g1 tc_X10_isWell) rfl rfl rfl (hw.nw 151 rfl) (hU _ tw2) cd_X10_isWell.2 ⟨Nat.le_of_ble_eq_true rfl, Nat.le_of_ble_eq_true rfl⟩, hU _ tw594, hU _ ts17⟩ (pw_preV hw Ta1 (by decide) rfl) rfl rfl hl.1 rfl (lv_room (Nat.le_of_ble_eq_true rfl)) dX0_read_68 ⟨Nat.zero_le _, Nat.zero_le _⟩) hw (fun H locs hw hx33 hz34 => ?_)
  have Ta0 : TY S_30 a0 0 := ty_ext hx33 Ta0
  have Ta1 : TY S_30 a1 10 := ty_ext hx33 Ta1
  have hE : Ext S0 S_30 := Ext.tr hE hx33
  refine lv_if_eq (tgt := 103) hx hb dX0_read_71 (by decide) (fun h35 => ?_) (fun h35 => ?_)
  · rw [if_pos h35] at hm
    exact wb_X0_read_103 cx C X S0 n S1 _ hk4 a0 a1 x2 x3 S_30 _ _ _ hw hE Ta0 Ta1 (lv_sub hl [1, 2, 3, 4] rfl) hm
  · rw [if_neg h35] at hm
    refine lv_iload hx hb dX0_read_74 (lv_at hl 5 rfl) ?_
    refine lv_aload_n hx hb dX0_read_76 rfl (lv_at hl 1 rfl) ?_
    obtain ⟨q36, hq36, hm⟩ := bd_some hm
    have Tq36 : TY S_30 q36 14 := hw.wf.ref (k := 0) (j := 0) Ta0 (by decide) (by decide) hq36
    refine pg_rb (k := 0) (j := 0) (f := 0) hx hb hown hU iu0 hw Ta0 (by decide) rfl (hU _ tw338) rfl hq36 dX0_read_77 ?_
    refine pw_alenI (v := (Int32.ofNat (pN S_30 q36))) hx hb hw Tq36 rfl dX0_read_80 ?_
    refine lv_icmp_ge (tgt := 103) hx hb dX0_read_81 (by decide) (fun h37 => ?_) (fun h37 => ?_)
    · rw [if_pos h37] at hm
      exact wb_X0_read_103 cx C X S0 n S1 _ hk4 a0 a1 x2 x3 S_30 _ _ _ hw hE Ta0 Ta1 (lv_sub hl [1, 2, 3, 4] rfl) hm
    · rw [if_neg h37] at hm
      refine lv_aload_n hx hb dX0_read_84 rfl (lv_at hl 1 rfl) ?_
      obtain ⟨q38, hq38, hm⟩ := bd_some hm
      have Tq38 : TY S_30 q38 14 := hw.wf.ref (k := 0) (j := 0) Ta0 (by decide) (by decide) hq38
      refine pg_rb (k := 0) (j := 0) (f := 0) hx hb hown hU iu0 hw Ta0 (by decide) rfl (hU _ tw338) rfl hq38 dX0_read_85 ?_
      refine lv_iload hx hb dX0_read_88 (lv_at hl 5 rfl) ?_
      refine lv_iload hx hb dX0_read_90 (lv_at hl 0 rfl) ?_
      obtain ⟨hi39, hm⟩ := ck_some hm
      refine pw_iast hx hb hw Tq38 hi39 dX0_read_92 (fun H locs hw => ?_)
      refine lv_aload_n hx hb dX0_read_93 rfl (lv_at hl 1 rfl) ?_
      refine lv_dup hx hb dX0_read_94 rfl ?_
      refine pg_i (k := 0) (j := 1) (f := 1) hx hb hown hU iu0 hw Ta0 (by decide) rfl (hU _ tw339) rfl dX0_read_95 ?_
      refine lv_iconst (v := 1) hx hb dX0_read_98 (by decide) ?_
      refine lv_iadd hx hb dX0_read_99 ?_
      refine pp_i (k := 0) (j := 1) (f := 1) hx hb hown hU iu0 tyX0_ok nmX0 hw Ta0 (by decide) rfl (hU _ tw339) rfl rfl rfl dX0_read_100 (fun H locs hw => ?_)
      obtain ⟨S_40, eS_40, hm⟩ := lt_some hm
      rw [← eS_40] at hw
      have Ta0 : TY S_40 a0 0 := by rw [eS_40]; exact Ta0
      have Ta1 : TY S_40 a1 10 := by rw [eS_40]; exact Ta1
      have hE : Ext S0 S_40 := by rw [eS_40]; exact hE
      exact wb_X0_read_103 cx C X S0 n S1 _ hk4 a0 a1 x2 x3 S_40 _ _ _ hw hE Ta0 Ta1 (lv_sub hl [1, 2, 3, 4] rfl) hm
def b_X0_read_6 (n : Nat) : Nat → Nat → Nat → Int32 → Int32 → pq_S → Option pq_S
  | 0, _, _, _, _, _ => none
  | f + 1, a0, a1, x2, x3, S => if 100 < x3 then some S else cb (m_X10_next n a1 S) fun r7 S_5 => if r7 = (-1) then some S_5 else cb (m_X10_takeNumber n a1 0 (x2 - (1 : Int32)) S_5) fun r12 S_10 => cb (m_X10_isWell n a1 S_10) fun r16 S_14 => if r16 = 0 then b_X0_read_52 n (b_X0_read_6 n f) a0 a1 x2 x3 r12 S_14 else Option.bind (m_X0_begin n a0 a1 r12 (pI S_5 1003 a1) S_14) fun S_20 => b_X0_read_52 n (b_X0_read_6 n f) a0 a1 x2 x3 r12 S_20
set_option maxHeartbeats 4000000 in
set_option maxRecDepth 100000 in
theorem wb_X0_read_6 {p : Program} {l : Launch} {e : Env} {s : State} {m : MethodId} {args : Array Value} {below : List Frame} {meth : Method} {c : Code} (cx : Cx p s m args meth c cX0_read 7 RX0 none) (C : pq_C) (X : va_W) (S0 : pq_S) (n : Nat) (S1 : pq_S) : ∀ (f : Nat) (a0 : Nat) (a1 : Nat) (x2 : Int32) (x3 : Int32) (S : pq_S) (H : Heap) (locs : List Loc) (ls : Array Slot), PW C X S (pq_F C X S0 s.heap.size) H locs s → Ext S0 S → TY S a0 0 → TY S a1 10 → lv_has ls 7 [(0, .ref a0), (1, .ref a1), (2, .int x2), (3, .int x3)] → b_X0_read_6 n f a0 a1 x2 x3 S = some S1 → W p l e rm_X0_read s m args below meth c H locs 0 0 (MQ below (QcV C X S0 s.heap.size S1) args s 0 0 (pq_F C X S0 s.heap.size)) (F0 m 6 ls []) := by
  obtain ⟨hx, hb, hml, hown, hU, hr, hlk⟩ := id cx
  intro f
  induction f with
  | zero =>
    intro a0 a1 x2 x3 S H locs ls hw hE Ta0 Ta1 hl hm
    cases hm
  | succ f ih =>
    intro a0 a1 x2 x3 S H locs ls hw hE Ta0 Ta1 hl hm
    rw [b_X0_read_6] at hm
    refine lv_iload_n hx hb dX0_read_6 rfl (lv_at hl 3 rfl) ?_
    refine lv_bipush (v := 100) hx hb dX0_read_7 (by decide) ?_
    refine lv_icmp_gt (tgt := 109) hx hb dX0_read_9 (by decide) (fun h4 => ?_) (fun h4 => ?_)
    · rw [if_pos h4] at hm
      cases hm
      exact pw_vret hx hb hr hlk hw hE dX0_read_109
    · rw [if_neg h4] at hm
      refine lv_aload_n hx hb dX0_read_12 rfl (lv_at hl 1 rfl) ?_
      obtain ⟨r7, S_5, hq6, hm⟩ := cb_some hm
      refine pw_ci (va_runVN (As := []) (rest := []) ⟨hx, hb, hml, hown, hU⟩ (c_X10_next l C X n S hw.wf _ a1 (Ta1) r7 S_5 hq6) ⟨va_cnB (host := "WickNights") 0 hU (pq_g1 tc_X10_next) rfl rfl rfl (hw.nw 149 rfl) (hU _ tw2) cd_X10_next.2 ⟨Nat.le_of_ble_eq_true rfl, Nat.le_of_ble_eq_true rfl⟩, hU _ tw572, hU _ ts12⟩ (pw_preV hw Ta1 (by decide) rfl) rfl rfl hl.1 rfl (lv_room (Nat.le_of_ble_eq_true rfl)) dX0_read_13 ⟨Nat.zero_le _, Nat.zero_le _⟩) hw (fun H locs hw hx8 => ?_)
      have Ta0 : TY S_5 a0 0 := ty_ext hx8 Ta0
      have Ta1 : TY S_5 a1 10 := ty_ext hx8 Ta1
      have hE : Ext S0 S_5 := Ext.tr hE hx8
      refine lv_iconst (v := (-1)) hx hb dX0_read_16 (by decide) ?_
      refine lv_icmp_eq (tgt := 109) hx hb dX0_read_17 (by decide) (fun h9 => ?_) (fun h9 => ?_)
      · rw [if_pos h9] at hm
        cases hm
        exact pw_vret hx hb hr hlk hw hE dX0_read_109
      · rw [if_neg h9] at hm
        refine lv_aload_n hx hb dX0_read_20 rfl (lv_at hl 1 rfl) ?_
        refine pgN_i (k := 10) (j := 3) (f := 1003) hx hb hown hU iu10 hw Ta1 (by decide) rfl 4 rfl rfl dX0_read_21 ?_
        refine lv_istore (lv' := [(4, .int (pI S_5 1003 a1)), (0, .ref a0), (1, .ref a1), (2, .int x2), (3, .int x3)]) hx hb dX0_read_24 hl (by decide) rfl (fun ls hl => ?_)
        refine lv_aload_n hx hb dX0_read_26 rfl (lv_at hl 2 rfl) ?_
        refine lv_iconst (v := 0) hx hb dX0_read_27 (by decide) ?_
        refine lv_iload_n hx hb dX0_read_28 rfl (lv_at hl 3 rfl) ?_
        refine lv_iconst (v := 1) hx hb dX0_read_29 (by decide) ?_
        refine lv_isub hx hb dX0_read_30 ?_
        obtain ⟨r12, S_10, hq11, hm⟩ := cb_some hm
        refine pw_ci (va_runVN (As := [.int 0, .int (x2 - (1 : Int32))]) (rest := []) ⟨hx, hb, hml, hown, hU⟩ (c_X10_takeNumber l C X n S_5 hw.wf _ a1 0 (x2 - (1 : Int32)) (Ta1) r12 S_10 hq11) ⟨va_cnB (host := "WickNights") 2 hU (pq_g1 tc_X10_takeNumber) rfl rfl rfl (hw.nw 150 rfl) (hU _ tw2) cd_X10_takeNumber.2 ⟨Nat.le_of_ble_eq_true rfl, Nat.le_of_ble_eq_true rfl⟩, hU _ tw668, hU _ ts22⟩ (pw_preV hw Ta1 (by decide) rfl) rfl rfl hl.1 rfl (lv_room (Nat.le_of_ble_eq_true rfl)) dX0_read_31 ⟨Nat.zero_le _, Nat.zero_le _⟩) hw (fun H locs hw hx13 => ?_)
        have Ta0 : TY S_10 a0 0 := ty_ext hx13 Ta0
        have Ta1 : TY S_10 a1 10 := ty_ext hx13 Ta1
        have hE : Ext S0 S_10 := Ext.tr hE hx13
        refine lv_istore (lv' := [(5, .int r12), (4, .int (pI S_5 1003 a1)), (0, .ref a0), (1, .ref a1), (2, .int x2), (3, .int x3)]) hx hb dX0_read_34 hl (by decide) rfl (fun ls hl => ?_)
        refine lv_aload_n hx hb dX0_read_36 rfl (lv_at hl 3 rfl) ?_
        obtain ⟨r16, S_14, hq15, hm⟩ := cb_some hm
        refine pw_cz (va_runVN (As := []) (rest := []) ⟨hx, hb, hml, hown, hU⟩ (c_X10_isWell l C X n S_10 hw.wf _ a1 (Ta1) r16 S_14 hq15) ⟨va_cnB (host := "WickNights") 0 hU (pq_g1 tc_X10_isWell) rfl rfl rfl (hw.nw 151 rfl) (hU _ tw2) cd_X10_isWell.2 ⟨Nat.le_of_ble_eq_true rfl, Nat.le_of_ble_eq_true rfl⟩, hU _ tw594, hU _ ts17⟩ (pw_preV hw Ta1 (by decide) rfl) rfl rfl hl.1 rfl (lv_room (Nat.le_of_ble_eq_true rfl)) dX0_read_37 ⟨Nat.zero_le _, Nat.zero_le _⟩) hw (fun H locs hw hx17 hz18 => ?_)
        have Ta0 : TY S_14 a0 0 := ty_ext hx17 Ta0
        have Ta1 : TY S_14 a1 10 := ty_ext hx17 Ta1
        have hE : Ext S0 S_14 := Ext.tr hE hx17
        refine lv_if_eq (tgt := 52) hx hb dX0_read_40 (by decide) (fun h19 => ?_) (fun h19 => ?_)
        · rw [if_pos h19] at hm
          exact wb_X0_read_52 cx C X S0 n S1 _ ih a0 a1 x2 x3 r12 S_14 _ _ _ hw hE Ta0 Ta1 (lv_sub hl [2, 3, 4, 5, 0] rfl) hm
        · rw [if_neg h19] at hm
          refine lv_aload_n hx hb dX0_read_43 rfl (lv_at hl 2 rfl) ?_
          refine lv_aload_n hx hb dX0_read_44 rfl (lv_at hl 3 rfl) ?_
          refine lv_iload hx hb dX0_read_45 (lv_at hl 0 rfl) ?_
          refine lv_iload hx hb dX0_read_47 (lv_at hl 1 rfl) ?_
          obtain ⟨S_20, hq21, hm⟩ := bd_some hm
          refine pw_cv (va_runV (As := [.ref a1, .int r12, .int (pI S_5 1003 a1)]) (rest := []) ⟨hx, hb, hml, hown, hU⟩ (c_X0_begin l C X n S_14 hw.wf _ a0 a1 r12 (pI S_5 1003 a1) (Ta0) (Ta1) S_20 hq21) (cwV 3 hU (pq_gV tw965 tw967 ts73 tw11 tc_X0_begin) rfl rfl rfl cd_X0_begin ⟨Nat.le_of_ble_eq_true rfl, Nat.le_of_ble_eq_true rfl⟩) (pw_preV hw Ta0 (by decide) rfl) rfl rfl hl.1 rfl (lv_room (Nat.le_of_ble_eq_true rfl)) dX0_read_49 ⟨Nat.zero_le _, Nat.zero_le _⟩) hw (fun H locs hw hx22 => ?_)
          have Ta0 : TY S_20 a0 0 := ty_ext hx22 Ta0
          have Ta1 : TY S_20 a1 10 := ty_ext hx22 Ta1
          have hE : Ext S0 S_20 := Ext.tr hE hx22
          exact wb_X0_read_52 cx C X S0 n S1 _ ih a0 a1 x2 x3 r12 S_20 _ _ _ hw hE Ta0 Ta1 (lv_sub hl [2, 3, 4, 5, 0] rfl) hm
def m_X0_read (n : Nat) (a0 : Nat) (a1 : Nat) (x2 : Int32) (S0 : pq_S) : Option pq_S := Option.bind (m_X0_clear n a0 S0) fun S_1 => b_X0_read_6 n n a0 a1 x2 0 S_1
theorem tc_X0_read : Cond.code yX0_read cX0_read 7 none ∈ pq_U := tw960
theorem cd_X0_read : yX0_read.cls = RX0 ∧ yX0_read.cls ≠ "java/lang/invoke/MethodHandle" ∧ yX0_read.cls ≠ "java/lang/invoke/VarHandle" ∧ (parseMethodDescriptor yX0_read.desc).map (fun d => d.parameters.length) = some 2 := by decide +kernel
set_option maxHeartbeats 4000000 in
set_option maxRecDepth 100000 in
theorem c_X0_read (l : Launch) (C : pq_C) (X : va_W) (n : Nat) (S0 : pq_S) (hF : WF S0) (sz : Nat) (a0 : Nat) (a1 : Nat) (x2 : Int32) (Ta0 : TY S0 a0 0) (Ta1 : TY S0 a1 10) (S1 : pq_S) (hm : m_X0_read n a0 a1 x2 S0 = some S1) : MV l yX0_read (.code yX0_read cX0_read 7 none :: pq_U) rm_X0_read C X S0 sz [.ref a0, .ref a1, .int x2] S1 0 0 := by
  refine Met.ofW (cc := cX0_read) (maxL := 7) (ret := none) (by decide) rfl ?_
  intro p e s m args below meth c s₁ B hml hv
  obtain ⟨rfl, hv⟩ := hv
  have hsz := hv.1
  subst hsz
  have hw := pw_entry hF hv
  have hts := atoms_spec (ws := .code yX0_read cX0_read 7 none :: pq_U) B.pre
  have hU : ∀ w ∈ pq_U, w.before _ s = true := fun w h => hts w (List.mem_cons_of_mem _ h)
  have hx := B.exec
  have hb := B.bytes
  have hr := B.returns
  have hown : s.vm.findClass RX0 = some m.cls := findClass_of_methodNamed B.named
  have hlk := B.notSynchronized
  have hl := lv_entry ([.ref a0, .ref a1, .int x2]) (n := 7) (Nat.le_of_ble_eq_true rfl)
  rw [lg_entry_eq]
  generalize (lg_sl ([.ref a0, .ref a1, .int x2]) ++ List.replicate (7 - (lg_sl ([.ref a0, .ref a1, .int x2])).length) Slot.unset).toArray = ls at hl ⊢
  have hl : lv_has ls 7 [(0, .ref a0), (1, .ref a1), (2, .int x2)] := hl
  have hE : Ext S0 S0 := Ext.rf _
  have cx : Cx p s m _ meth c cX0_read 7 RX0 none := ⟨hx, hb, hml, hown, hU, hr, hlk⟩
  rw [m_X0_read] at hm
  refine lv_aload_n hx hb dX0_read_0 rfl (lv_at hl 0 rfl) ?_
  obtain ⟨S_1, hq2, hm⟩ := bd_some hm
  refine pw_cv (va_runV (As := []) (rest := []) ⟨hx, hb, hml, hown, hU⟩ (c_X0_clear l C X n S0 hw.wf _ a0 (Ta0) S_1 hq2) (cwV 0 hU (pq_gV tw961 tw728 ts34 tw11 tc_X0_clear) rfl rfl rfl cd_X0_clear ⟨Nat.le_of_ble_eq_true rfl, Nat.le_of_ble_eq_true rfl⟩) (pw_preV hw Ta0 (by decide) rfl) rfl rfl hl.1 rfl (lv_room (Nat.le_of_ble_eq_true rfl)) dX0_read_1 ⟨Nat.zero_le _, Nat.zero_le _⟩) hw (fun H locs hw hx3 => ?_)
  have Ta0 : TY S_1 a0 0 := ty_ext hx3 Ta0
  have Ta1 : TY S_1 a1 10 := ty_ext hx3 Ta1
  have hE : Ext S0 S_1 := Ext.tr hE hx3
  refine lv_iconst (v := 0) hx hb dX0_read_4 (by decide) ?_
  refine lv_istore_n (lv' := [(3, .int 0), (0, .ref a0), (1, .ref a1), (2, .int x2)]) hx hb dX0_read_5 rfl hl (by decide) rfl (fun ls hl => ?_)
  exact wb_X0_read_6 cx C X S0 n S1 n a0 a1 x2 0 S_1 _ _ _ hw hE Ta0 Ta1 (lv_sub hl [1, 2, 3, 0] rfl) hm
abbrev rm_X0_isRight : Room := { frames := 4, cells := 0, slots := 0, locals := 93 }
def b_X0_isRight_49 (n : Nat) (k2 : Nat → Nat → Int32 → Int32 → pq_S → Option (Int32 × pq_S)) (a0 : Nat) (a1 : Nat) (x2 : Int32) (x3 : Int32) (S : pq_S) : Option (Int32 × pq_S) := k2 a0 a1 x2 (x3 + 1) S
set_option maxHeartbeats 4000000 in
set_option maxRecDepth 100000 in
theorem wb_X0_isRight_49 {p : Program} {l : Launch} {e : Env} {s : State} {m : MethodId} {args : Array Value} {below : List Frame} {meth : Method} {c : Code} (cx : Cx p s m args meth c cX0_isRight 4 RX0 (some .boolean)) (C : pq_C) (X : va_W) (S0 : pq_S) (n : Nat) (r : Int32) (S1 : pq_S) (k2 : Nat → Nat → Int32 → Int32 → pq_S → Option (Int32 × pq_S)) (hk2 : ∀ (a0 : Nat) (a1 : Nat) (x2 : Int32) (x3 : Int32) (S : pq_S) (H : Heap) (locs : List Loc) (ls : Array Slot), PW C X S (pq_F C X S0 s.heap.size) H locs s → Ext S0 S → TY S a0 0 → TY S a1 1 → lv_has ls 4 [(0, .ref a0), (1, .ref a1), (2, .int x2), (3, .int x3)] → k2 a0 a1 x2 x3 S = some (r, S1) → W p l e rm_X0_isRight s m args below meth c H locs 0 0 (MQ below (QcZ C X S0 s.heap.size r S1) args s 0 0 (pq_F C X S0 s.heap.size)) (F0 m 2 ls [])) : ∀ (a0 : Nat) (a1 : Nat) (x2 : Int32) (x3 : Int32) (S : pq_S) (H : Heap) (locs : List Loc) (ls : Array Slot), PW C X S (pq_F C X S0 s.heap.size) H locs s → Ext S0 S → TY S a0 0 → TY S a1 1 → lv_has ls 4 [(0, .ref a0), (1, .ref a1), (2, .int x2), (3, .int x3)] → b_X0_isRight_49 n k2 a0 a1 x2 x3 S = some (r, S1) → W p l e rm_X0_isRight s m args below meth c H locs 0 0 (MQ below (QcZ C X S0 s.heap.size r S1) args s 0 0 (pq_F C X S0 s.heap.size)) (F0 m 49 ls []) := by
  obtain ⟨hx, hb, hml, hown, hU, hr, hlk⟩ := id cx
  intro a0 a1 x2 x3 S H locs ls hw hE Ta0 Ta1 hl hm
  rw [b_X0_isRight_49] at hm
  refine lv_iinc (v := (x3 + 1)) (lv' := [(3, .int (x3 + 1)), (0, .ref a0), (1, .ref a1), (2, .int x2)]) hx hb dX0_isRight_49 hl (k := 3) rfl rfl (by decide) rfl (fun ls hl => ?_)
  refine lv_goto (tgt := 2) hx hb dX0_isRight_52 (by decide) ?_
  exact hk2 a0 a1 x2 (x3 + 1) S _ _ _ hw hE Ta0 Ta1 (lv_sub hl [1, 2, 3, 0] rfl) hm
def b_X0_isRight_2 (n : Nat) : Nat → Nat → Nat → Int32 → Int32 → pq_S → Option (Int32 × pq_S)
  | 0, _, _, _, _, _ => none
  | f + 1, a0, a1, x2, x3, S => Option.bind (pR S 100 a1) fun q1 => if (pI S 902 q1) ≤ x3 then some (1, S) else Option.bind (pR S 0 a0) fun q3 => if (Int32.ofNat (pN S q3)) ≤ x3 then some (1, S) else Option.bind (pR S 0 a0) fun q5 => ck (ix x3 (pN S q5)) (dix _ _) (if (pA S q5 (Int32.toNatClampNeg x3)) = (-1) then b_X0_isRight_49 n (b_X0_isRight_2 n f) a0 a1 x2 x3 S else Option.bind (pR S 0 a0) fun q8 => ck (ix x3 (pN S q8)) (dix _ _) (cb (m_X1_missing n a1 x3 x2 S) fun r12 S_10 => if (pA S q8 (Int32.toNatClampNeg x3)) = r12 then b_X0_isRight_49 n (b_X0_isRight_2 n f) a0 a1 x2 x3 S_10 else some (0, S_10)))
set_option maxHeartbeats 4000000 in
set_option maxRecDepth 100000 in
theorem wb_X0_isRight_2 {p : Program} {l : Launch} {e : Env} {s : State} {m : MethodId} {args : Array Value} {below : List Frame} {meth : Method} {c : Code} (cx : Cx p s m args meth c cX0_isRight 4 RX0 (some .boolean)) (C : pq_C) (X : va_W) (S0 : pq_S) (n : Nat) (r : Int32) (S1 : pq_S) : ∀ (f : Nat) (a0 : Nat) (a1 : Nat) (x2 : Int32) (x3 : Int32) (S : pq_S) (H : Heap) (locs : List Loc) (ls : Array Slot), PW C X S (pq_F C X S0 s.heap.size) H locs s → Ext S0 S → TY S a0 0 → TY S a1 1 → lv_has ls 4 [(0, .ref a0), (1, .ref a1), (2, .int x2), (3, .int x3)] → b_X0_isRight_2 n f a0 a1 x2 x3 S = some (r, S1) → W p l e rm_X0_isRight s m args below meth c H locs 0 0 (MQ below (QcZ C X S0 s.heap.size r S1) args s 0 0 (pq_F C X S0 s.heap.size)) (F0 m 2 ls []) := by
  obtain ⟨hx, hb, hml, hown, hU, hr, hlk⟩ := id cx
  intro f
  induction f with
  | zero =>
    intro a0 a1 x2 x3 S H locs ls hw hE Ta0 Ta1 hl hm
    cases hm
  | succ f ih =>
    intro a0 a1 x2 x3 S H locs ls hw hE Ta0 Ta1 hl hm
    rw [b_X0_isRight_2] at hm
    refine lv_iload_n hx hb dX0_isRight_2 rfl (lv_at hl 3 rfl) ?_
    refine lv_aload_n hx hb dX0_isRight_3 rfl (lv_at hl 1 rfl) ?_
    obtain ⟨q1, hq1, hm⟩ := bd_some hm
    have Tq1 : TY S q1 9 := hw.wf.ref (k := 1) (j := 0) Ta1 (by decide) (by decide) hq1
    refine pgN_rb (k := 1) (j := 0) (f := 100) hx hb hown hU iu1 hw Ta1 (by decide) rfl 24 rfl rfl hq1 dX0_isRight_4 ?_
    refine pgN_i (k := 9) (j := 2) (f := 902) hx hb hown hU iu9 hw Tq1 (by decide) rfl 19 rfl rfl dX0_isRight_7 ?_
    refine lv_icmp_ge (tgt := 55) hx hb dX0_isRight_10 (by decide) (fun h2 => ?_) (fun h2 => ?_)
    · rw [if_pos h2] at hm
      refine lv_iconst (v := 1) hx hb dX0_isRight_55 (by decide) ?_
      cases hm
      exact pw_zret hx hb hr bz_1 hlk hw hE dX0_isRight_56
    · rw [if_neg h2] at hm
      refine lv_iload_n hx hb dX0_isRight_13 rfl (lv_at hl 3 rfl) ?_
      refine lv_aload_n hx hb dX0_isRight_14 rfl (lv_at hl 0 rfl) ?_
      obtain ⟨q3, hq3, hm⟩ := bd_some hm
      have Tq3 : TY S q3 14 := hw.wf.ref (k := 0) (j := 0) Ta0 (by decide) (by decide) hq3
      refine pg_rb (k := 0) (j := 0) (f := 0) hx hb hown hU iu0 hw Ta0 (by decide) rfl (hU _ tw338) rfl hq3 dX0_isRight_15 ?_
      refine pw_alenI (v := (Int32.ofNat (pN S q3))) hx hb hw Tq3 rfl dX0_isRight_18 ?_
      refine lv_icmp_ge (tgt := 55) hx hb dX0_isRight_19 (by decide) (fun h4 => ?_) (fun h4 => ?_)
      · rw [if_pos h4] at hm
        refine lv_iconst (v := 1) hx hb dX0_isRight_55 (by decide) ?_
        cases hm
        exact pw_zret hx hb hr bz_1 hlk hw hE dX0_isRight_56
      · rw [if_neg h4] at hm
        refine lv_aload_n hx hb dX0_isRight_22 rfl (lv_at hl 0 rfl) ?_
        obtain ⟨q5, hq5, hm⟩ := bd_some hm
        have Tq5 : TY S q5 14 := hw.wf.ref (k := 0) (j := 0) Ta0 (by decide) (by decide) hq5
        refine pg_rb (k := 0) (j := 0) (f := 0) hx hb hown hU iu0 hw Ta0 (by decide) rfl (hU _ tw338) rfl hq5 dX0_isRight_23 ?_
        refine lv_iload_n hx hb dX0_isRight_26 rfl (lv_at hl 3 rfl) ?_
        obtain ⟨hi6, hm⟩ := ck_some hm
        refine pw_iald hx hb hw Tq5 hi6 dX0_isRight_27 ?_
        refine lv_iconst (v := (-1)) hx hb dX0_isRight_28 (by decide) ?_
        refine lv_icmp_eq (tgt := 49) hx hb dX0_isRight_29 (by decide) (fun h7 => ?_) (fun h7 => ?_)
        · rw [if_pos h7] at hm
          exact wb_X0_isRight_49 cx C X S0 n r S1 _ ih a0 a1 x2 x3 S _ _ _ hw hE Ta0 Ta1 (lv_sub hl [0, 1, 2, 3] rfl) hm
        · rw [if_neg h7] at hm
          refine lv_aload_n hx hb dX0_isRight_32 rfl (lv_at hl 0 rfl) ?_
          obtain ⟨q8, hq8, hm⟩ := bd_some hm
          have Tq8 : TY S q8 14 := hw.wf.ref (k := 0) (j := 0) Ta0 (by decide) (by decide) hq8
          refine pg_rb (k := 0) (j := 0) (f := 0) hx hb hown hU iu0 hw Ta0 (by decide) rfl (hU _ tw338) rfl hq8 dX0_isRight_33 ?_
          refine lv_iload_n hx hb dX0_isRight_36 rfl (lv_at hl 3 rfl) ?_
          obtain ⟨hi9, hm⟩ := ck_some hm
          refine pw_iald hx hb hw Tq8 hi9 dX0_isRight_37 ?_
          refine lv_aload_n hx hb dX0_isRight_38 rfl (lv_at hl 1 rfl) ?_
          refine lv_iload_n hx hb dX0_isRight_39 rfl (lv_at hl 3 rfl) ?_
          refine lv_iload_n hx hb dX0_isRight_40 rfl (lv_at hl 2 rfl) ?_
          obtain ⟨r12, S_10, hq11, hm⟩ := cb_some hm
          refine pw_ci (va_runVN (As := [.int x3, .int x2]) (rest := [.int (pA S q8 (Int32.toNatClampNeg x3))]) ⟨hx, hb, hml, hown, hU⟩ (c_X1_missing l C X n S hw.wf _ a1 x3 x2 (Ta1) r12 S_10 hq11) ⟨va_cnB (host := "WickNights") 2 hU (pq_g1 tc_X1_missing) rfl rfl rfl (hw.nw 177 rfl) (hU _ tw4) cd_X1_missing.2 ⟨Nat.le_of_ble_eq_true rfl, Nat.le_of_ble_eq_true rfl⟩, hU _ tw1287, hU _ ts104⟩ (pw_preV hw Ta1 (by decide) rfl) rfl rfl hl.1 rfl (lv_room (Nat.le_of_ble_eq_true rfl)) dX0_isRight_41 ⟨Nat.zero_le _, Nat.zero_le _⟩) hw (fun H locs hw hx13 => ?_)
          have Ta0 : TY S_10 a0 0 := ty_ext hx13 Ta0
          have Ta1 : TY S_10 a1 1 := ty_ext hx13 Ta1
          have hE : Ext S0 S_10 := Ext.tr hE hx13
          refine lv_icmp_eq (tgt := 49) hx hb dX0_isRight_44 (by decide) (fun h14 => ?_) (fun h14 => ?_)
          · rw [if_pos h14] at hm
            exact wb_X0_isRight_49 cx C X S0 n r S1 _ ih a0 a1 x2 x3 S_10 _ _ _ hw hE Ta0 Ta1 (lv_sub hl [0, 1, 2, 3] rfl) hm
          · rw [if_neg h14] at hm
            refine lv_iconst (v := 0) hx hb dX0_isRight_47 (by decide) ?_
            cases hm
            exact pw_zret hx hb hr bz_0 hlk hw hE dX0_isRight_48
def m_X0_isRight (n : Nat) (a0 : Nat) (a1 : Nat) (x2 : Int32) (S0 : pq_S) : Option (Int32 × pq_S) := b_X0_isRight_2 n n a0 a1 x2 0 S0
theorem tc_X0_isRight : Cond.code yX0_isRight cX0_isRight 4 (some .boolean) ∈ pq_U := tw1284
theorem cd_X0_isRight : yX0_isRight.cls = RX0 ∧ yX0_isRight.cls ≠ "java/lang/invoke/MethodHandle" ∧ yX0_isRight.cls ≠ "java/lang/invoke/VarHandle" ∧ (parseMethodDescriptor yX0_isRight.desc).map (fun d => d.parameters.length) = some 2 := by decide +kernel
set_option maxHeartbeats 4000000 in
set_option maxRecDepth 100000 in
theorem c_X0_isRight (l : Launch) (C : pq_C) (X : va_W) (n : Nat) (S0 : pq_S) (hF : WF S0) (sz : Nat) (a0 : Nat) (a1 : Nat) (x2 : Int32) (Ta0 : TY S0 a0 0) (Ta1 : TY S0 a1 1) (r : Int32) (S1 : pq_S) (hm : m_X0_isRight n a0 a1 x2 S0 = some (r, S1)) : MZ l yX0_isRight (.code yX0_isRight cX0_isRight 4 (some .boolean) :: pq_U) rm_X0_isRight C X S0 sz [.ref a0, .ref a1, .int x2] r S1 0 0 := by
  refine Met.ofW (cc := cX0_isRight) (maxL := 4) (ret := (some .boolean)) (by decide) rfl ?_
  intro p e s m args below meth c s₁ B hml hv
  obtain ⟨rfl, hv⟩ := hv
  have hsz := hv.1
  subst hsz
  have hw := pw_entry hF hv
  have hts := atoms_spec (ws := .code yX0_isRight cX0_isRight 4 (some .boolean) :: pq_U) B.pre
  have hU : ∀ w ∈ pq_U, w.before _ s = true := fun w h => hts w (List.mem_cons_of_mem _ h)
  have hx := B.exec
  have hb := B.bytes
  have hr := B.returns
  have hown : s.vm.findClass RX0 = some m.cls := findClass_of_methodNamed B.named
  have hlk := B.notSynchronized
  have hl := lv_entry ([.ref a0, .ref a1, .int x2]) (n := 4) (Nat.le_of_ble_eq_true rfl)
  rw [lg_entry_eq]
  generalize (lg_sl ([.ref a0, .ref a1, .int x2]) ++ List.replicate (4 - (lg_sl ([.ref a0, .ref a1, .int x2])).length) Slot.unset).toArray = ls at hl ⊢
  have hl : lv_has ls 4 [(0, .ref a0), (1, .ref a1), (2, .int x2)] := hl
  have hE : Ext S0 S0 := Ext.rf _
  have cx : Cx p s m _ meth c cX0_isRight 4 RX0 (some .boolean) := ⟨hx, hb, hml, hown, hU, hr, hlk⟩
  rw [m_X0_isRight] at hm
  refine lv_iconst (v := 0) hx hb dX0_isRight_0 (by decide) ?_
  refine lv_istore_n (lv' := [(3, .int 0), (0, .ref a0), (1, .ref a1), (2, .int x2)]) hx hb dX0_isRight_1 rfl hl (by decide) rfl (fun ls hl => ?_)
  exact wb_X0_isRight_2 cx C X S0 n r S1 n a0 a1 x2 0 S0 _ _ _ hw hE Ta0 Ta1 (lv_sub hl [1, 2, 3, 0] rfl) hm
abbrev rm_X0_leakySets : Room := { frames := 5, cells := 0, slots := 0, locals := 116 }
def b_X0_leakySets_74 (n : Nat) (k18 : Nat → Nat → Int32 → Int32 → Int32 → Int32 → Int32 → Int32 → Int32 → pq_S → Option (Int32 × pq_S)) (a0 : Nat) (a1 : Nat) (x2 : Int32) (x3 : Int32) (x4 : Int32) (x5 : Int32) (x6 : Int32) (x7 : Int32) (x8 : Int32) (S : pq_S) : Option (Int32 × pq_S) := k18 a0 a1 x2 x3 x4 x5 x6 x7 (x8 + 1) S
set_option maxHeartbeats 4000000 in
set_option maxRecDepth 100000 in
theorem wb_X0_leakySets_74 {p : Program} {l : Launch} {e : Env} {s : State} {m : MethodId} {args : Array Value} {below : List Frame} {meth : Method} {c : Code} (cx : Cx p s m args meth c cX0_leakySets 9 RX0 (some .int)) (C : pq_C) (X : va_W) (S0 : pq_S) (n : Nat) (r : Int32) (S1 : pq_S) (k18 : Nat → Nat → Int32 → Int32 → Int32 → Int32 → Int32 → Int32 → Int32 → pq_S → Option (Int32 × pq_S)) (hk18 : ∀ (a0 : Nat) (a1 : Nat) (x2 : Int32) (x3 : Int32) (x4 : Int32) (x5 : Int32) (x6 : Int32) (x7 : Int32) (x8 : Int32) (S : pq_S) (H : Heap) (locs : List Loc) (ls : Array Slot), PW C X S (pq_F C X S0 s.heap.size) H locs s → Ext S0 S → TY S a0 0 → TY S a1 1 → lv_has ls 9 [(0, .ref a0), (1, .ref a1), (2, .int x2), (3, .int x3), (4, .int x4), (5, .int x5), (6, .int x6), (7, .int x7), (8, .int x8)] → k18 a0 a1 x2 x3 x4 x5 x6 x7 x8 S = some (r, S1) → W p l e rm_X0_leakySets s m args below meth c H locs 0 0 (MQ below (QcI C X S0 s.heap.size r S1) args s 0 0 (pq_F C X S0 s.heap.size)) (F0 m 27 ls [])) : ∀ (a0 : Nat) (a1 : Nat) (x2 : Int32) (x3 : Int32) (x4 : Int32) (x5 : Int32) (x6 : Int32) (x7 : Int32) (x8 : Int32) (S : pq_S) (H : Heap) (locs : List Loc) (ls : Array Slot), PW C X S (pq_F C X S0 s.heap.size) H locs s → Ext S0 S → TY S a0 0 → TY S a1 1 → lv_has ls 9 [(0, .ref a0), (1, .ref a1), (2, .int x2), (3, .int x3), (4, .int x4), (5, .int x5), (6, .int x6), (7, .int x7), (8, .int x8)] → b_X0_leakySets_74 n k18 a0 a1 x2 x3 x4 x5 x6 x7 x8 S = some (r, S1) → W p l e rm_X0_leakySets s m args below meth c H locs 0 0 (MQ below (QcI C X S0 s.heap.size r S1) args s 0 0 (pq_F C X S0 s.heap.size)) (F0 m 74 ls []) := by
  obtain ⟨hx, hb, hml, hown, hU, hr, hlk⟩ := id cx
  intro a0 a1 x2 x3 x4 x5 x6 x7 x8 S H locs ls hw hE Ta0 Ta1 hl hm
  rw [b_X0_leakySets_74] at hm
  refine lv_iinc (v := (x8 + 1)) (lv' := [(8, .int (x8 + 1)), (0, .ref a0), (1, .ref a1), (2, .int x2), (3, .int x3), (4, .int x4), (5, .int x5), (6, .int x6), (7, .int x7)]) hx hb dX0_leakySets_74 hl (k := 8) rfl rfl (by decide) rfl (fun ls hl => ?_)
  refine lv_goto (tgt := 27) hx hb dX0_leakySets_77 (by decide) ?_
  exact hk18 a0 a1 x2 x3 x4 x5 x6 x7 (x8 + 1) S _ _ _ hw hE Ta0 Ta1 (lv_sub hl [1, 2, 3, 4, 5, 6, 7, 8, 0] rfl) hm
def b_X0_leakySets_80 (n : Nat) (x2 : Int32) (x3 : Int32) (x4 : Int32) (x5 : Int32) (x6 : Int32) (x7 : Int32) (S : pq_S) : Option (Int32 × pq_S) := if x2 = 0 then some (x4, S) else if x2 = 1 then some (x5, S) else if x4 = 0 then some (0, S) else if x2 = 2 then some (x6, S) else some ((x3 &&& (x7 ^^^ (-1 : Int32))), S)
set_option maxHeartbeats 4000000 in
set_option maxRecDepth 100000 in
theorem wb_X0_leakySets_80 {p : Program} {l : Launch} {e : Env} {s : State} {m : MethodId} {args : Array Value} {below : List Frame} {meth : Method} {c : Code} (cx : Cx p s m args meth c cX0_leakySets 9 RX0 (some .int)) (C : pq_C) (X : va_W) (S0 : pq_S) (n : Nat) (r : Int32) (S1 : pq_S) : ∀ (x2 : Int32) (x3 : Int32) (x4 : Int32) (x5 : Int32) (x6 : Int32) (x7 : Int32) (S : pq_S) (H : Heap) (locs : List Loc) (ls : Array Slot), PW C X S (pq_F C X S0 s.heap.size) H locs s → Ext S0 S → lv_has ls 9 [(2, .int x2), (3, .int x3), (4, .int x4), (5, .int x5), (6, .int x6), (7, .int x7)] → b_X0_leakySets_80 n x2 x3 x4 x5 x6 x7 S = some (r, S1) → W p l e rm_X0_leakySets s m args below meth c H locs 0 0 (MQ below (QcI C X S0 s.heap.size r S1) args s 0 0 (pq_F C X S0 s.heap.size)) (F0 m 80 ls []) := by
  obtain ⟨hx, hb, hml, hown, hU, hr, hlk⟩ := id cx
  intro x2 x3 x4 x5 x6 x7 S H locs ls hw hE hl hm
  rw [b_X0_leakySets_80] at hm
  refine lv_iload_n hx hb dX0_leakySets_80 rfl (lv_at hl 0 rfl) ?_
  refine lv_if_ne (tgt := 87) hx hb dX0_leakySets_81 (by decide) (fun h11 => ?_) (fun h11 => ?_)
  · rw [if_neg h11] at hm
    refine lv_iload_n hx hb dX0_leakySets_87 rfl (lv_at hl 0 rfl) ?_
    refine lv_iconst (v := 1) hx hb dX0_leakySets_88 (by decide) ?_
    refine lv_icmp_ne (tgt := 95) hx hb dX0_leakySets_89 (by decide) (fun h12 => ?_) (fun h12 => ?_)
    · rw [if_neg h12] at hm
      refine lv_iload hx hb dX0_leakySets_95 (lv_at hl 2 rfl) ?_
      refine lv_if_ne (tgt := 102) hx hb dX0_leakySets_97 (by decide) (fun h13 => ?_) (fun h13 => ?_)
      · rw [if_neg h13] at hm
        refine lv_iload_n hx hb dX0_leakySets_102 rfl (lv_at hl 0 rfl) ?_
        refine lv_iconst (v := 2) hx hb dX0_leakySets_103 (by decide) ?_
        refine lv_icmp_ne (tgt := 112) hx hb dX0_leakySets_104 (by decide) (fun h14 => ?_) (fun h14 => ?_)
        · rw [if_neg h14] at hm
          refine lv_iload_n hx hb dX0_leakySets_112 rfl (lv_at hl 1 rfl) ?_
          refine lv_iload hx hb dX0_leakySets_113 (lv_at hl 5 rfl) ?_
          refine lv_iconst (v := (-1)) hx hb dX0_leakySets_115 (by decide) ?_
          refine lv_ixor hx hb dX0_leakySets_116 ?_
          refine lv_iand hx hb dX0_leakySets_117 ?_
          cases hm
          exact pw_iret hx hb hr rfl hlk hw hE dX0_leakySets_118
        · rw [if_pos h14] at hm
          refine lv_iload hx hb dX0_leakySets_107 (lv_at hl 4 rfl) ?_
          refine lv_goto (tgt := 118) hx hb dX0_leakySets_109 (by decide) ?_
          cases hm
          exact pw_iret hx hb hr rfl hlk hw hE dX0_leakySets_118
      · rw [if_pos h13] at hm
        refine lv_iconst (v := 0) hx hb dX0_leakySets_100 (by decide) ?_
        cases hm
        exact pw_iret hx hb hr rfl hlk hw hE dX0_leakySets_101
    · rw [if_pos h12] at hm
      refine lv_iload hx hb dX0_leakySets_92 (lv_at hl 3 rfl) ?_
      cases hm
      exact pw_iret hx hb hr rfl hlk hw hE dX0_leakySets_94
  · rw [if_pos h11] at hm
    refine lv_iload hx hb dX0_leakySets_84 (lv_at hl 2 rfl) ?_
    cases hm
    exact pw_iret hx hb hr rfl hlk hw hE dX0_leakySets_86
def b_X0_leakySets_55 (n : Nat) (k18 : Nat → Nat → Int32 → Int32 → Int32 → Int32 → Int32 → Int32 → Int32 → pq_S → Option (Int32 × pq_S)) (a0 : Nat) (a1 : Nat) (x2 : Int32) (x3 : Int32) (x4 : Int32) (x6 : Int32) (x7 : Int32) (x8 : Int32) (z0 : Int32) (S : pq_S) : Option (Int32 × pq_S) := b_X0_leakySets_74 n k18 a0 a1 x2 x3 (x4 + 1) z0 (x6 &&& x8) (x7 ||| x8) x8 S
set_option maxHeartbeats 4000000 in
set_option maxRecDepth 100000 in
theorem wb_X0_leakySets_55 {p : Program} {l : Launch} {e : Env} {s : State} {m : MethodId} {args : Array Value} {below : List Frame} {meth : Method} {c : Code} (cx : Cx p s m args meth c cX0_leakySets 9 RX0 (some .int)) (C : pq_C) (X : va_W) (S0 : pq_S) (n : Nat) (r : Int32) (S1 : pq_S) (k18 : Nat → Nat → Int32 → Int32 → Int32 → Int32 → Int32 → Int32 → Int32 → pq_S → Option (Int32 × pq_S)) (hk18 : ∀ (a0 : Nat) (a1 : Nat) (x2 : Int32) (x3 : Int32) (x4 : Int32) (x5 : Int32) (x6 : Int32) (x7 : Int32) (x8 : Int32) (S : pq_S) (H : Heap) (locs : List Loc) (ls : Array Slot), PW C X S (pq_F C X S0 s.heap.size) H locs s → Ext S0 S → TY S a0 0 → TY S a1 1 → lv_has ls 9 [(0, .ref a0), (1, .ref a1), (2, .int x2), (3, .int x3), (4, .int x4), (5, .int x5), (6, .int x6), (7, .int x7), (8, .int x8)] → k18 a0 a1 x2 x3 x4 x5 x6 x7 x8 S = some (r, S1) → W p l e rm_X0_leakySets s m args below meth c H locs 0 0 (MQ below (QcI C X S0 s.heap.size r S1) args s 0 0 (pq_F C X S0 s.heap.size)) (F0 m 27 ls [])) : ∀ (a0 : Nat) (a1 : Nat) (x2 : Int32) (x3 : Int32) (x4 : Int32) (x6 : Int32) (x7 : Int32) (x8 : Int32) (z0 : Int32) (S : pq_S) (H : Heap) (locs : List Loc) (ls : Array Slot), PW C X S (pq_F C X S0 s.heap.size) H locs s → Ext S0 S → TY S a0 0 → TY S a1 1 → lv_has ls 9 [(0, .ref a0), (1, .ref a1), (2, .int x2), (3, .int x3), (4, .int x4), (6, .int x6), (7, .int x7), (8, .int x8)] → b_X0_leakySets_55 n k18 a0 a1 x2 x3 x4 x6 x7 x8 z0 S = some (r, S1) → W p l e rm_X0_leakySets s m args below meth c H locs 0 0 (MQ below (QcI C X S0 s.heap.size r S1) args s 0 0 (pq_F C X S0 s.heap.size)) (F0 m 55 ls [.int z0]) := by
  obtain ⟨hx, hb, hml, hown, hU, hr, hlk⟩ := id cx
  intro a0 a1 x2 x3 x4 x6 x7 x8 z0 S H locs ls hw hE Ta0 Ta1 hl hm
  rw [b_X0_leakySets_55] at hm
  refine lv_istore (lv' := [(5, .int z0), (0, .ref a0), (1, .ref a1), (2, .int x2), (3, .int x3), (4, .int x4), (6, .int x6), (7, .int x7), (8, .int x8)]) hx hb dX0_leakySets_55 hl (by decide) rfl (fun ls hl => ?_)
  refine lv_iload hx hb dX0_leakySets_57 (lv_at hl 6 rfl) ?_
  refine lv_iload hx hb dX0_leakySets_59 (lv_at hl 8 rfl) ?_
  refine lv_iand hx hb dX0_leakySets_61 ?_
  refine lv_istore (lv' := [(6, .int (x6 &&& x8)), (5, .int z0), (0, .ref a0), (1, .ref a1), (2, .int x2), (3, .int x3), (4, .int x4), (7, .int x7), (8, .int x8)]) hx hb dX0_leakySets_62 hl (by decide) rfl (fun ls hl => ?_)
  refine lv_iload hx hb dX0_leakySets_64 (lv_at hl 7 rfl) ?_
  refine lv_iload hx hb dX0_leakySets_66 (lv_at hl 8 rfl) ?_
  refine lv_ior hx hb dX0_leakySets_68 ?_
  refine lv_istore (lv' := [(7, .int (x7 ||| x8)), (6, .int (x6 &&& x8)), (5, .int z0), (0, .ref a0), (1, .ref a1), (2, .int x2), (3, .int x3), (4, .int x4), (8, .int x8)]) hx hb dX0_leakySets_69 hl (by decide) rfl (fun ls hl => ?_)
  refine lv_iinc (v := (x4 + 1)) (lv' := [(4, .int (x4 + 1)), (7, .int (x7 ||| x8)), (6, .int (x6 &&& x8)), (5, .int z0), (0, .ref a0), (1, .ref a1), (2, .int x2), (3, .int x3), (8, .int x8)]) hx hb dX0_leakySets_71 hl (k := 7) rfl rfl (by decide) rfl (fun ls hl => ?_)
  exact wb_X0_leakySets_74 cx C X S0 n r S1 _ hk18 a0 a1 x2 x3 (x4 + 1) z0 (x6 &&& x8) (x7 ||| x8) x8 S _ _ _ hw hE Ta0 Ta1 (lv_sub hl [4, 5, 6, 7, 0, 3, 2, 1, 8] rfl) hm
def b_X0_leakySets_27 (n : Nat) : Nat → Nat → Nat → Int32 → Int32 → Int32 → Int32 → Int32 → Int32 → Int32 → pq_S → Option (Int32 × pq_S)
  | 0, _, _, _, _, _, _, _, _, _, _ => none
  | f + 1, a0, a1, x2, x3, x4, x5, x6, x7, x8, S => if x3 < x8 then b_X0_leakySets_80 n x2 x3 x4 x5 x6 x7 S else cb (m_X0_isRight n a0 a1 x8 S) fun r6 S_4 => if r6 = 0 then b_X0_leakySets_74 n (b_X0_leakySets_27 n f) a0 a1 x2 x3 x4 x5 x6 x7 x8 S_4 else if x4 = 0 then b_X0_leakySets_55 n (b_X0_leakySets_27 n f) a0 a1 x2 x3 x4 x6 x7 x8 x8 S_4 else b_X0_leakySets_55 n (b_X0_leakySets_27 n f) a0 a1 x2 x3 x4 x6 x7 x8 x5 S_4
set_option maxHeartbeats 4000000 in
set_option maxRecDepth 100000 in
theorem wb_X0_leakySets_27 {p : Program} {l : Launch} {e : Env} {s : State} {m : MethodId} {args : Array Value} {below : List Frame} {meth : Method} {c : Code} (cx : Cx p s m args meth c cX0_leakySets 9 RX0 (some .int)) (C : pq_C) (X : va_W) (S0 : pq_S) (n : Nat) (r : Int32) (S1 : pq_S) : ∀ (f : Nat) (a0 : Nat) (a1 : Nat) (x2 : Int32) (x3 : Int32) (x4 : Int32) (x5 : Int32) (x6 : Int32) (x7 : Int32) (x8 : Int32) (S : pq_S) (H : Heap) (locs : List Loc) (ls : Array Slot), PW C X S (pq_F C X S0 s.heap.size) H locs s → Ext S0 S → TY S a0 0 → TY S a1 1 → lv_has ls 9 [(0, .ref a0), (1, .ref a1), (2, .int x2), (3, .int x3), (4, .int x4), (5, .int x5), (6, .int x6), (7, .int x7), (8, .int x8)] → b_X0_leakySets_27 n f a0 a1 x2 x3 x4 x5 x6 x7 x8 S = some (r, S1) → W p l e rm_X0_leakySets s m args below meth c H locs 0 0 (MQ below (QcI C X S0 s.heap.size r S1) args s 0 0 (pq_F C X S0 s.heap.size)) (F0 m 27 ls []) := by
  obtain ⟨hx, hb, hml, hown, hU, hr, hlk⟩ := id cx
  intro f
  induction f with
  | zero =>
    intro a0 a1 x2 x3 x4 x5 x6 x7 x8 S H locs ls hw hE Ta0 Ta1 hl hm
    cases hm
  | succ f ih =>
    intro a0 a1 x2 x3 x4 x5 x6 x7 x8 S H locs ls hw hE Ta0 Ta1 hl hm
    rw [b_X0_leakySets_27] at hm
    refine lv_iload hx hb dX0_leakySets_27 (lv_at hl 8 rfl) ?_
    refine lv_iload_n hx hb dX0_leakySets_29 rfl (lv_at hl 3 rfl) ?_
    refine lv_icmp_gt (tgt := 80) hx hb dX0_leakySets_30 (by decide) (fun h3 => ?_) (fun h3 => ?_)
    · rw [if_pos h3] at hm
      exact wb_X0_leakySets_80 cx C X S0 n r S1 x2 x3 x4 x5 x6 x7 S _ _ _ hw hE  (lv_sub hl [2, 3, 4, 5, 6, 7] rfl) hm
    · rw [if_neg h3] at hm
      refine lv_aload_n hx hb dX0_leakySets_33 rfl (lv_at hl 0 rfl) ?_
      refine lv_aload_n hx hb dX0_leakySets_34 rfl (lv_at hl 1 rfl) ?_
      refine lv_iload hx hb dX0_leakySets_35 (lv_at hl 8 rfl) ?_
      obtain ⟨r6, S_4, hq5, hm⟩ := cb_some hm
      refine pw_cz (va_runV (As := [.ref a1, .int x8]) (rest := []) ⟨hx, hb, hml, hown, hU⟩ (c_X0_isRight l C X n S hw.wf _ a0 a1 x8 (Ta0) (Ta1) r6 S_4 hq5) (cwV 2 hU (pq_gV tw1281 tw1283 ts103 tw11 tc_X0_isRight) rfl rfl rfl cd_X0_isRight ⟨Nat.le_of_ble_eq_true rfl, Nat.le_of_ble_eq_true rfl⟩) (pw_preV hw Ta0 (by decide) rfl) rfl rfl hl.1 rfl (lv_room (Nat.le_of_ble_eq_true rfl)) dX0_leakySets_37 ⟨Nat.zero_le _, Nat.zero_le _⟩) hw (fun H locs hw hx7 hz8 => ?_)
      have Ta0 : TY S_4 a0 0 := ty_ext hx7 Ta0
      have Ta1 : TY S_4 a1 1 := ty_ext hx7 Ta1
      have hE : Ext S0 S_4 := Ext.tr hE hx7
      refine lv_if_eq (tgt := 74) hx hb dX0_leakySets_40 (by decide) (fun h9 => ?_) (fun h9 => ?_)
      · rw [if_pos h9] at hm
        exact wb_X0_leakySets_74 cx C X S0 n r S1 _ ih a0 a1 x2 x3 x4 x5 x6 x7 x8 S_4 _ _ _ hw hE Ta0 Ta1 (lv_sub hl [0, 1, 2, 3, 4, 5, 6, 7, 8] rfl) hm
      · rw [if_neg h9] at hm
        refine lv_iload hx hb dX0_leakySets_43 (lv_at hl 4 rfl) ?_
        refine lv_if_ne (tgt := 53) hx hb dX0_leakySets_45 (by decide) (fun h10 => ?_) (fun h10 => ?_)
        · rw [if_neg h10] at hm
          refine lv_iload hx hb dX0_leakySets_53 (lv_at hl 5 rfl) ?_
          exact wb_X0_leakySets_55 cx C X S0 n r S1 _ ih a0 a1 x2 x3 x4 x6 x7 x8 x5 S_4 _ _ _ hw hE Ta0 Ta1 (lv_sub hl [0, 1, 2, 3, 4, 6, 7, 8] rfl) hm
        · rw [if_pos h10] at hm
          refine lv_iload hx hb dX0_leakySets_48 (lv_at hl 8 rfl) ?_
          refine lv_goto (tgt := 55) hx hb dX0_leakySets_50 (by decide) ?_
          exact wb_X0_leakySets_55 cx C X S0 n r S1 _ ih a0 a1 x2 x3 x4 x6 x7 x8 x8 S_4 _ _ _ hw hE Ta0 Ta1 (lv_sub hl [0, 1, 2, 3, 4, 6, 7, 8] rfl) hm
def m_X0_leakySets (n : Nat) (a0 : Nat) (a1 : Nat) (x2 : Int32) (S0 : pq_S) : Option (Int32 × pq_S) := Option.bind (pR S0 100 a1) fun q1 => lt_ (((1 : Int32) <<< ((pI S0 902 q1) &&& (31 : Int32))) - (1 : Int32)) fun v2 => b_X0_leakySets_27 n n a0 a1 x2 v2 0 (-1) v2 0 0 S0
theorem tc_X0_leakySets : Cond.code yX0_leakySets cX0_leakySets 9 (some .int) ∈ pq_U := tw1280
theorem cd_X0_leakySets : yX0_leakySets.cls = RX0 ∧ yX0_leakySets.cls ≠ "java/lang/invoke/MethodHandle" ∧ yX0_leakySets.cls ≠ "java/lang/invoke/VarHandle" ∧ (parseMethodDescriptor yX0_leakySets.desc).map (fun d => d.parameters.length) = some 2 := by decide +kernel
set_option maxHeartbeats 4000000 in
set_option maxRecDepth 100000 in
theorem c_X0_leakySets (l : Launch) (C : pq_C) (X : va_W) (n : Nat) (S0 : pq_S) (hF : WF S0) (sz : Nat) (a0 : Nat) (a1 : Nat) (x2 : Int32) (Ta0 : TY S0 a0 0) (Ta1 : TY S0 a1 1) (r : Int32) (S1 : pq_S) (hm : m_X0_leakySets n a0 a1 x2 S0 = some (r, S1)) : MI l yX0_leakySets (.code yX0_leakySets cX0_leakySets 9 (some .int) :: pq_U) rm_X0_leakySets C X S0 sz [.ref a0, .ref a1, .int x2] r S1 0 0 := by
  refine Met.ofW (cc := cX0_leakySets) (maxL := 9) (ret := (some .int)) (by decide) rfl ?_
  intro p e s m args below meth c s₁ B hml hv
  obtain ⟨rfl, hv⟩ := hv
  have hsz := hv.1
  subst hsz
  have hw := pw_entry hF hv
  have hts := atoms_spec (ws := .code yX0_leakySets cX0_leakySets 9 (some .int) :: pq_U) B.pre
  have hU : ∀ w ∈ pq_U, w.before _ s = true := fun w h => hts w (List.mem_cons_of_mem _ h)
  have hx := B.exec
  have hb := B.bytes
  have hr := B.returns
  have hown : s.vm.findClass RX0 = some m.cls := findClass_of_methodNamed B.named
  have hlk := B.notSynchronized
  have hl := lv_entry ([.ref a0, .ref a1, .int x2]) (n := 9) (Nat.le_of_ble_eq_true rfl)
  rw [lg_entry_eq]
  generalize (lg_sl ([.ref a0, .ref a1, .int x2]) ++ List.replicate (9 - (lg_sl ([.ref a0, .ref a1, .int x2])).length) Slot.unset).toArray = ls at hl ⊢
  have hl : lv_has ls 9 [(0, .ref a0), (1, .ref a1), (2, .int x2)] := hl
  have hE : Ext S0 S0 := Ext.rf _
  have cx : Cx p s m _ meth c cX0_leakySets 9 RX0 (some .int) := ⟨hx, hb, hml, hown, hU, hr, hlk⟩
  rw [m_X0_leakySets] at hm
  refine lv_iconst (v := 1) hx hb dX0_leakySets_0 (by decide) ?_
  refine lv_aload_n hx hb dX0_leakySets_1 rfl (lv_at hl 1 rfl) ?_
  obtain ⟨q1, hq1, hm⟩ := bd_some hm
  have Tq1 : TY S0 q1 9 := hw.wf.ref (k := 1) (j := 0) Ta1 (by decide) (by decide) hq1
  refine pgN_rb (k := 1) (j := 0) (f := 100) hx hb hown hU iu1 hw Ta1 (by decide) rfl 24 rfl rfl hq1 dX0_leakySets_2 ?_
  refine pgN_i (k := 9) (j := 2) (f := 902) hx hb hown hU iu9 hw Tq1 (by decide) rfl 19 rfl rfl dX0_leakySets_5 ?_
  refine lv_ishl hx hb dX0_leakySets_8 ?_
  refine lv_iconst (v := 1) hx hb dX0_leakySets_9 (by decide) ?_
  refine lv_isub hx hb dX0_leakySets_10 ?_
  obtain ⟨v2, ev2, hm⟩ := lt_some hm
  refine lv_nmI ev2 ?_
  refine lv_istore_n (lv' := [(3, .int v2), (0, .ref a0), (1, .ref a1), (2, .int x2)]) hx hb dX0_leakySets_11 rfl hl (by decide) rfl (fun ls hl => ?_)
  refine lv_iconst (v := 0) hx hb dX0_leakySets_12 (by decide) ?_
  refine lv_istore (lv' := [(4, .int 0), (3, .int v2), (0, .ref a0), (1, .ref a1), (2, .int x2)]) hx hb dX0_leakySets_13 hl (by decide) rfl (fun ls hl => ?_)
  refine lv_iconst (v := (-1)) hx hb dX0_leakySets_15 (by decide) ?_
  refine lv_istore (lv' := [(5, .int (-1)), (4, .int 0), (3, .int v2), (0, .ref a0), (1, .ref a1), (2, .int x2)]) hx hb dX0_leakySets_16 hl (by decide) rfl (fun ls hl => ?_)
  refine lv_iload_n hx hb dX0_leakySets_18 rfl (lv_at hl 2 rfl) ?_
  refine lv_istore (lv' := [(6, .int v2), (5, .int (-1)), (4, .int 0), (3, .int v2), (0, .ref a0), (1, .ref a1), (2, .int x2)]) hx hb dX0_leakySets_19 hl (by decide) rfl (fun ls hl => ?_)
  refine lv_iconst (v := 0) hx hb dX0_leakySets_21 (by decide) ?_
  refine lv_istore (lv' := [(7, .int 0), (6, .int v2), (5, .int (-1)), (4, .int 0), (3, .int v2), (0, .ref a0), (1, .ref a1), (2, .int x2)]) hx hb dX0_leakySets_22 hl (by decide) rfl (fun ls hl => ?_)
  refine lv_iconst (v := 0) hx hb dX0_leakySets_24 (by decide) ?_
  refine lv_istore (lv' := [(8, .int 0), (7, .int 0), (6, .int v2), (5, .int (-1)), (4, .int 0), (3, .int v2), (0, .ref a0), (1, .ref a1), (2, .int x2)]) hx hb dX0_leakySets_25 hl (by decide) rfl (fun ls hl => ?_)
  exact wb_X0_leakySets_27 cx C X S0 n r S1 n a0 a1 x2 v2 0 (-1) v2 0 0 S0 _ _ _ hw hE Ta0 Ta1 (lv_sub hl [6, 7, 8, 5, 4, 3, 2, 1, 0] rfl) hm
abbrev rm_X1_readPlace : Room := { frames := 3, cells := 0, slots := 0, locals := 64 }
def m_X1_readPlace (n : Nat) (a0 : Nat) (a1 : Nat) (x2 : Int32) (S0 : pq_S) : Option pq_S := Option.bind (pR S0 100 a0) fun q1 => cb (m_X1_beginRow n a1 q1 x2 S0) fun r4 S_2 => Option.bind (pR S_2 100 a0) fun q6 => cb (m_X10_takeNumber n a1 0 40 S_2) fun r9 S_7 => Option.bind (m_X9_put n q6 r4 0 r9 S_7) fun S_11 => Option.bind (pR S_11 100 a0) fun q14 => cb (m_X10_takeNumber n a1 0 99 S_11) fun r17 S_15 => Option.bind (m_X9_put n q14 r4 1 r17 S_15) fun S_19 => Option.bind (pR S_19 100 a0) fun q22 => cb (m_X10_takeNumber n a1 0 99 S_19) fun r25 S_23 => Option.bind (m_X9_put n q22 r4 2 r25 S_23) fun S_27 => Option.bind (pR S_27 100 a0) fun q30 => cb (m_X10_takeNumber n a1 0 99 S_27) fun r33 S_31 => Option.bind (m_X9_put n q30 r4 3 r33 S_31) fun S_35 => some S_35
theorem tc_X1_readPlace : Cond.code yX1_readPlace cX1_readPlace 4 none ∈ pq_U := tw652
theorem cd_X1_readPlace : yX1_readPlace.cls = RX1 ∧ yX1_readPlace.cls ≠ "java/lang/invoke/MethodHandle" ∧ yX1_readPlace.cls ≠ "java/lang/invoke/VarHandle" ∧ (parseMethodDescriptor yX1_readPlace.desc).map (fun d => d.parameters.length) = some 2 := by decide +kernel
set_option maxHeartbeats 4000000 in
set_option maxRecDepth 100000 in
theorem c_X1_readPlace (l : Launch) (C : pq_C) (X : va_W) (n : Nat) (S0 : pq_S) (hF : WF S0) (sz : Nat) (a0 : Nat) (a1 : Nat) (x2 : Int32) (Ta0 : TY S0 a0 1) (Ta1 : TY S0 a1 10) (S1 : pq_S) (hm : m_X1_readPlace n a0 a1 x2 S0 = some S1) : MV l yX1_readPlace (.code yX1_readPlace cX1_readPlace 4 none :: pq_U) rm_X1_readPlace C X S0 sz [.ref a0, .ref a1, .int x2] S1 0 0 := by
  refine Met.ofW (cc := cX1_readPlace) (maxL := 4) (ret := none) (by decide) rfl ?_
  intro p e s m args below meth c s₁ B hml hv
  obtain ⟨rfl, hv⟩ := hv
  have hsz := hv.1
  subst hsz
  have hw := pw_entry hF hv
  have hts := atoms_spec (ws := .code yX1_readPlace cX1_readPlace 4 none :: pq_U) B.pre
  have hU : ∀ w ∈ pq_U, w.before _ s = true := fun w h => hts w (List.mem_cons_of_mem _ h)
  have hx := B.exec
  have hb := B.bytes
  have hr := B.returns
  have hown : s.vm.findClass RX1 = some m.cls := findClass_of_methodNamed B.named
  have hlk := B.notSynchronized
  have hl := lv_entry ([.ref a0, .ref a1, .int x2]) (n := 4) (Nat.le_of_ble_eq_true rfl)
  rw [lg_entry_eq]
  generalize (lg_sl ([.ref a0, .ref a1, .int x2]) ++ List.replicate (4 - (lg_sl ([.ref a0, .ref a1, .int x2])).length) Slot.unset).toArray = ls at hl ⊢
  have hl : lv_has ls 4 [(0, .ref a0), (1, .ref a1), (2, .int x2)] := hl
  have hE : Ext S0 S0 := Ext.rf _
  have cx : Cx p s m _ meth c cX1_readPlace 4 RX1 none := ⟨hx, hb, hml, hown, hU, hr, hlk⟩
  rw [m_X1_readPlace] at hm
  refine lv_aload_n hx hb dX1_readPlace_0 rfl (lv_at hl 1 rfl) ?_
  refine lv_aload_n hx hb dX1_readPlace_1 rfl (lv_at hl 0 rfl) ?_
  obtain ⟨q1, hq1, hm⟩ := bd_some hm
  have Tq1 : TY S0 q1 9 := hw.wf.ref (k := 1) (j := 0) Ta0 (by decide) (by decide) hq1
  refine pg_rb (k := 1) (j := 0) (f := 100) hx hb hown hU iu1 hw Ta0 (by decide) rfl (hU _ tw109) rfl hq1 dX1_readPlace_2 ?_
  refine lv_iload_n hx hb dX1_readPlace_5 rfl (lv_at hl 2 rfl) ?_
  obtain ⟨r4, S_2, hq3, hm⟩ := cb_some hm
  refine pw_ci (va_runS (As := [.ref a1, .ref q1, .int x2]) (rest := []) ⟨hx, hb, hml, hown, hU⟩ (c_X1_beginRow l C X n S0 hw.wf _ a1 q1 x2 (Ta1) (Tq1) r4 S_2 hq3) ⟨callB_of 3 hU (pq_g1 tc_X1_beginRow) rfl rfl rfl (hU _ tw4) (hU _ tw653) cd_X1_beginRow.2 ⟨Nat.le_of_ble_eq_true rfl, Nat.le_of_ble_eq_true rfl⟩, hU _ tw654⟩ (pw_preS hw) rfl rfl hl.1 rfl (lv_room (Nat.le_of_ble_eq_true rfl)) dX1_readPlace_6 ⟨Nat.zero_le _, Nat.zero_le _⟩) hw (fun H locs hw hx5 => ?_)
  have Ta0 : TY S_2 a0 1 := ty_ext hx5 Ta0
  have Ta1 : TY S_2 a1 10 := ty_ext hx5 Ta1
  have hE : Ext S0 S_2 := Ext.tr hE hx5
  refine lv_istore_n (lv' := [(3, .int r4), (0, .ref a0), (1, .ref a1), (2, .int x2)]) hx hb dX1_readPlace_9 rfl hl (by decide) rfl (fun ls hl => ?_)
  refine lv_aload_n hx hb dX1_readPlace_10 rfl (lv_at hl 1 rfl) ?_
  obtain ⟨q6, hq6, hm⟩ := bd_some hm
  have Tq6 : TY S_2 q6 9 := hw.wf.ref (k := 1) (j := 0) Ta0 (by decide) (by decide) hq6
  refine pg_rb (k := 1) (j := 0) (f := 100) hx hb hown hU iu1 hw Ta0 (by decide) rfl (hU _ tw109) rfl hq6 dX1_readPlace_11 ?_
  refine lv_iload_n hx hb dX1_readPlace_14 rfl (lv_at hl 0 rfl) ?_
  refine lv_iconst (v := 0) hx hb dX1_readPlace_15 (by decide) ?_
  refine lv_aload_n hx hb dX1_readPlace_16 rfl (lv_at hl 2 rfl) ?_
  refine lv_iconst (v := 0) hx hb dX1_readPlace_17 (by decide) ?_
  refine lv_bipush (v := 40) hx hb dX1_readPlace_18 (by decide) ?_
  obtain ⟨r9, S_7, hq8, hm⟩ := cb_some hm
  refine pw_ci (va_runVN (As := [.int 0, .int 40]) (rest := [.int 0, .int r4, .ref q6]) ⟨hx, hb, hml, hown, hU⟩ (c_X10_takeNumber l C X n S_2 hw.wf _ a1 0 40 (Ta1) r9 S_7 hq8) ⟨va_cnB (host := "WickNights") 2 hU (pq_g1 tc_X10_takeNumber) rfl rfl rfl (hw.nw 101 rfl) (hU _ tw2) cd_X10_takeNumber.2 ⟨Nat.le_of_ble_eq_true rfl, Nat.le_of_ble_eq_true rfl⟩, hU _ tw668, hU _ ts22⟩ (pw_preV hw Ta1 (by decide) rfl) rfl rfl hl.1 rfl (lv_room (Nat.le_of_ble_eq_true rfl)) dX1_readPlace_20 ⟨Nat.zero_le _, Nat.zero_le _⟩) hw (fun H locs hw hx10 => ?_)
  have Tq6 : TY S_7 q6 9 := ty_ext hx10 Tq6
  have Ta0 : TY S_7 a0 1 := ty_ext hx10 Ta0
  have Ta1 : TY S_7 a1 10 := ty_ext hx10 Ta1
  have hE : Ext S0 S_7 := Ext.tr hE hx10
  obtain ⟨S_11, hq12, hm⟩ := bd_some hm
  refine pw_cv (va_runVN (As := [.int r4, .int 0, .int r9]) (rest := []) ⟨hx, hb, hml, hown, hU⟩ (c_X9_put l C X n S_7 hw.wf _ q6 r4 0 r9 (Tq6) S_11 hq12) ⟨va_cnB (host := "WickNights") 3 hU (pq_g1 tc_X9_put) rfl rfl rfl (hw.nw 102 rfl) (hU _ tw5) cd_X9_put.2 ⟨Nat.le_of_ble_eq_true rfl, Nat.le_of_ble_eq_true rfl⟩, hU _ tw673, hU _ ts23⟩ (pw_preV hw Tq6 (by decide) rfl) rfl rfl hl.1 rfl (lv_room (Nat.le_of_ble_eq_true rfl)) dX1_readPlace_23 ⟨Nat.zero_le _, Nat.zero_le _⟩) hw (fun H locs hw hx13 => ?_)
  have Ta0 : TY S_11 a0 1 := ty_ext hx13 Ta0
  have Ta1 : TY S_11 a1 10 := ty_ext hx13 Ta1
  have hE : Ext S0 S_11 := Ext.tr hE hx13
  refine lv_aload_n hx hb dX1_readPlace_26 rfl (lv_at hl 1 rfl) ?_
  obtain ⟨q14, hq14, hm⟩ := bd_some hm
  have Tq14 : TY S_11 q14 9 := hw.wf.ref (k := 1) (j := 0) Ta0 (by decide) (by decide) hq14
  refine pg_rb (k := 1) (j := 0) (f := 100) hx hb hown hU iu1 hw Ta0 (by decide) rfl (hU _ tw109) rfl hq14 dX1_readPlace_27 ?_
  refine lv_iload_n hx hb dX1_readPlace_30 rfl (lv_at hl 0 rfl) ?_
  refine lv_iconst (v := 1) hx hb dX1_readPlace_31 (by decide) ?_
  refine lv_aload_n hx hb dX1_readPlace_32 rfl (lv_at hl 2 rfl) ?_
  refine lv_iconst (v := 0) hx hb dX1_readPlace_33 (by decide) ?_
  refine lv_bipush (v := 99) hx hb dX1_readPlace_34 (by decide) ?_
  obtain ⟨r17, S_15, hq16, hm⟩ := cb_some hm
  refine pw_ci (va_runVN (As := [.int 0, .int 99]) (rest := [.int 1, .int r4, .ref q14]) ⟨hx, hb, hml, hown, hU⟩ (c_X10_takeNumber l C X n S_11 hw.wf _ a1 0 99 (Ta1) r17 S_15 hq16) ⟨va_cnB (host := "WickNights") 2 hU (pq_g1 tc_X10_takeNumber) rfl rfl rfl (hw.nw 101 rfl) (hU _ tw2) cd_X10_takeNumber.2 ⟨Nat.le_of_ble_eq_true rfl, Nat.le_of_ble_eq_true rfl⟩, hU _ tw668, hU _ ts22⟩ (pw_preV hw Ta1 (by decide) rfl) rfl rfl hl.1 rfl (lv_room (Nat.le_of_ble_eq_true rfl)) dX1_readPlace_36 ⟨Nat.zero_le _, Nat.zero_le _⟩) hw (fun H locs hw hx18 => ?_)
  have Tq14 : TY S_15 q14 9 := ty_ext hx18 Tq14
  have Ta0 : TY S_15 a0 1 := ty_ext hx18 Ta0
  have Ta1 : TY S_15 a1 10 := ty_ext hx18 Ta1
  have hE : Ext S0 S_15 := Ext.tr hE hx18
  obtain ⟨S_19, hq20, hm⟩ := bd_some hm
  refine pw_cv (va_runVN (As := [.int r4, .int 1, .int r17]) (rest := []) ⟨hx, hb, hml, hown, hU⟩ (c_X9_put l C X n S_15 hw.wf _ q14 r4 1 r17 (Tq14) S_19 hq20) ⟨va_cnB (host := "WickNights") 3 hU (pq_g1 tc_X9_put) rfl rfl rfl (hw.nw 102 rfl) (hU _ tw5) cd_X9_put.2 ⟨Nat.le_of_ble_eq_true rfl, Nat.le_of_ble_eq_true rfl⟩, hU _ tw673, hU _ ts23⟩ (pw_preV hw Tq14 (by decide) rfl) rfl rfl hl.1 rfl (lv_room (Nat.le_of_ble_eq_true rfl)) dX1_readPlace_39 ⟨Nat.zero_le _, Nat.zero_le _⟩) hw (fun H locs hw hx21 => ?_)
  have Ta0 : TY S_19 a0 1 := ty_ext hx21 Ta0
  have Ta1 : TY S_19 a1 10 := ty_ext hx21 Ta1
  have hE : Ext S0 S_19 := Ext.tr hE hx21
  refine lv_aload_n hx hb dX1_readPlace_42 rfl (lv_at hl 1 rfl) ?_
  obtain ⟨q22, hq22, hm⟩ := bd_some hm
  have Tq22 : TY S_19 q22 9 := hw.wf.ref (k := 1) (j := 0) Ta0 (by decide) (by decide) hq22
  refine pg_rb (k := 1) (j := 0) (f := 100) hx hb hown hU iu1 hw Ta0 (by decide) rfl (hU _ tw109) rfl hq22 dX1_readPlace_43 ?_
  refine lv_iload_n hx hb dX1_readPlace_46 rfl (lv_at hl 0 rfl) ?_
  refine lv_iconst (v := 2) hx hb dX1_readPlace_47 (by decide) ?_
  refine lv_aload_n hx hb dX1_readPlace_48 rfl (lv_at hl 2 rfl) ?_
  refine lv_iconst (v := 0) hx hb dX1_readPlace_49 (by decide) ?_
  refine lv_bipush (v := 99) hx hb dX1_readPlace_50 (by decide) ?_
  obtain ⟨r25, S_23, hq24, hm⟩ := cb_some hm
  refine pw_ci (va_runVN (As := [.int 0, .int 99]) (rest := [.int 2, .int r4, .ref q22]) ⟨hx, hb, hml, hown, hU⟩ (c_X10_takeNumber l C X n S_19 hw.wf _ a1 0 99 (Ta1) r25 S_23 hq24) ⟨va_cnB (host := "WickNights") 2 hU (pq_g1 tc_X10_takeNumber) rfl rfl rfl (hw.nw 101 rfl) (hU _ tw2) cd_X10_takeNumber.2 ⟨Nat.le_of_ble_eq_true rfl, Nat.le_of_ble_eq_true rfl⟩, hU _ tw668, hU _ ts22⟩ (pw_preV hw Ta1 (by decide) rfl) rfl rfl hl.1 rfl (lv_room (Nat.le_of_ble_eq_true rfl)) dX1_readPlace_52 ⟨Nat.zero_le _, Nat.zero_le _⟩) hw (fun H locs hw hx26 => ?_)
  have Tq22 : TY S_23 q22 9 := ty_ext hx26 Tq22
  have Ta0 : TY S_23 a0 1 := ty_ext hx26 Ta0
  have Ta1 : TY S_23 a1 10 := ty_ext hx26 Ta1
  have hE : Ext S0 S_23 := Ext.tr hE hx26
  obtain ⟨S_27, hq28, hm⟩ := bd_some hm
  refine pw_cv (va_runVN (As := [.int r4, .int 2, .int r25]) (rest := []) ⟨hx, hb, hml, hown, hU⟩ (c_X9_put l C X n S_23 hw.wf _ q22 r4 2 r25 (Tq22) S_27 hq28) ⟨va_cnB (host := "WickNights") 3 hU (pq_g1 tc_X9_put) rfl rfl rfl (hw.nw 102 rfl) (hU _ tw5) cd_X9_put.2 ⟨Nat.le_of_ble_eq_true rfl, Nat.le_of_ble_eq_true rfl⟩, hU _ tw673, hU _ ts23⟩ (pw_preV hw Tq22 (by decide) rfl) rfl rfl hl.1 rfl (lv_room (Nat.le_of_ble_eq_true rfl)) dX1_readPlace_55 ⟨Nat.zero_le _, Nat.zero_le _⟩) hw (fun H locs hw hx29 => ?_)
  have Ta0 : TY S_27 a0 1 := ty_ext hx29 Ta0
  have Ta1 : TY S_27 a1 10 := ty_ext hx29 Ta1
  have hE : Ext S0 S_27 := Ext.tr hE hx29
  refine lv_aload_n hx hb dX1_readPlace_58 rfl (lv_at hl 1 rfl) ?_
  obtain ⟨q30, hq30, hm⟩ := bd_some hm
  have Tq30 : TY S_27 q30 9 := hw.wf.ref (k := 1) (j := 0) Ta0 (by decide) (by decide) hq30
  refine pg_rb (k := 1) (j := 0) (f := 100) hx hb hown hU iu1 hw Ta0 (by decide) rfl (hU _ tw109) rfl hq30 dX1_readPlace_59 ?_
  refine lv_iload_n hx hb dX1_readPlace_62 rfl (lv_at hl 0 rfl) ?_
  refine lv_iconst (v := 3) hx hb dX1_readPlace_63 (by decide) ?_
  refine lv_aload_n hx hb dX1_readPlace_64 rfl (lv_at hl 2 rfl) ?_
  refine lv_iconst (v := 0) hx hb dX1_readPlace_65 (by decide) ?_
  refine lv_bipush (v := 99) hx hb dX1_readPlace_66 (by decide) ?_
  obtain ⟨r33, S_31, hq32, hm⟩ := cb_some hm
  refine pw_ci (va_runVN (As := [.int 0, .int 99]) (rest := [.int 3, .int r4, .ref q30]) ⟨hx, hb, hml, hown, hU⟩ (c_X10_takeNumber l C X n S_27 hw.wf _ a1 0 99 (Ta1) r33 S_31 hq32) ⟨va_cnB (host := "WickNights") 2 hU (pq_g1 tc_X10_takeNumber) rfl rfl rfl (hw.nw 101 rfl) (hU _ tw2) cd_X10_takeNumber.2 ⟨Nat.le_of_ble_eq_true rfl, Nat.le_of_ble_eq_true rfl⟩, hU _ tw668, hU _ ts22⟩ (pw_preV hw Ta1 (by decide) rfl) rfl rfl hl.1 rfl (lv_room (Nat.le_of_ble_eq_true rfl)) dX1_readPlace_68 ⟨Nat.zero_le _, Nat.zero_le _⟩) hw (fun H locs hw hx34 => ?_)
  have Tq30 : TY S_31 q30 9 := ty_ext hx34 Tq30
  have Ta0 : TY S_31 a0 1 := ty_ext hx34 Ta0
  have Ta1 : TY S_31 a1 10 := ty_ext hx34 Ta1
  have hE : Ext S0 S_31 := Ext.tr hE hx34
  obtain ⟨S_35, hq36, hm⟩ := bd_some hm
  refine pw_cv (va_runVN (As := [.int r4, .int 3, .int r33]) (rest := []) ⟨hx, hb, hml, hown, hU⟩ (c_X9_put l C X n S_31 hw.wf _ q30 r4 3 r33 (Tq30) S_35 hq36) ⟨va_cnB (host := "WickNights") 3 hU (pq_g1 tc_X9_put) rfl rfl rfl (hw.nw 102 rfl) (hU _ tw5) cd_X9_put.2 ⟨Nat.le_of_ble_eq_true rfl, Nat.le_of_ble_eq_true rfl⟩, hU _ tw673, hU _ ts23⟩ (pw_preV hw Tq30 (by decide) rfl) rfl rfl hl.1 rfl (lv_room (Nat.le_of_ble_eq_true rfl)) dX1_readPlace_71 ⟨Nat.zero_le _, Nat.zero_le _⟩) hw (fun H locs hw hx37 => ?_)
  have Ta0 : TY S_35 a0 1 := ty_ext hx37 Ta0
  have Ta1 : TY S_35 a1 10 := ty_ext hx37 Ta1
  have hE : Ext S0 S_35 := Ext.tr hE hx37
  cases hm
  exact pw_vret hx hb hr hlk hw hE dX1_readPlace_74
abbrev rm_X1_readWant : Room := { frames := 3, cells := 0, slots := 0, locals := 64 }
def m_X1_readWant (n : Nat) (a0 : Nat) (a1 : Nat) (x2 : Int32) (S0 : pq_S) : Option pq_S := Option.bind (pR S0 101 a0) fun q1 => cb (m_X1_beginRow n a1 q1 x2 S0) fun r4 S_2 => Option.bind (pR S_2 101 a0) fun q6 => Option.bind (pR S_2 100 a0) fun q7 => cb (m_X10_takeNumber n a1 0 ((pI S_2 902 q7) - (1 : Int32)) S_2) fun r10 S_8 => Option.bind (m_X9_put n q6 r4 0 r10 S_8) fun S_12 => Option.bind (pR S_12 101 a0) fun q15 => cb (m_X10_takeNumber n a1 1 12 S_12) fun r18 S_16 => Option.bind (m_X9_put n q15 r4 1 r18 S_16) fun S_20 => Option.bind (pR S_20 101 a0) fun q23 => cb (m_X10_takeNumber n a1 0 1 S_20) fun r26 S_24 => Option.bind (m_X9_put n q23 r4 2 r26 S_24) fun S_28 => Option.bind (pR S_28 101 a0) fun q31 => cb (m_X10_takeNumber n a1 0 99 S_28) fun r34 S_32 => Option.bind (m_X9_put n q31 r4 3 r34 S_32) fun S_36 => some S_36
theorem tc_X1_readWant : Cond.code yX1_readWant cX1_readWant 4 none ∈ pq_U := tw679
theorem cd_X1_readWant : yX1_readWant.cls = RX1 ∧ yX1_readWant.cls ≠ "java/lang/invoke/MethodHandle" ∧ yX1_readWant.cls ≠ "java/lang/invoke/VarHandle" ∧ (parseMethodDescriptor yX1_readWant.desc).map (fun d => d.parameters.length) = some 2 := by decide +kernel
set_option maxHeartbeats 4000000 in
set_option maxRecDepth 100000 in
theorem c_X1_readWant (l : Launch) (C : pq_C) (X : va_W) (n : Nat) (S0 : pq_S) (hF : WF S0) (sz : Nat) (a0 : Nat) (a1 : Nat) (x2 : Int32) (Ta0 : TY S0 a0 1) (Ta1 : TY S0 a1 10) (S1 : pq_S) (hm : m_X1_readWant n a0 a1 x2 S0 = some S1) : MV l yX1_readWant (.code yX1_readWant cX1_readWant 4 none :: pq_U) rm_X1_readWant C X S0 sz [.ref a0, .ref a1, .int x2] S1 0 0 := by
  refine Met.ofW (cc := cX1_readWant) (maxL := 4) (ret := none) (by decide) rfl ?_
  intro p e s m args below meth c s₁ B hml hv
  obtain ⟨rfl, hv⟩ := hv
  have hsz := hv.1
  subst hsz
  have hw := pw_entry hF hv
  have hts := atoms_spec (ws := .code yX1_readWant cX1_readWant 4 none :: pq_U) B.pre
  have hU : ∀ w ∈ pq_U, w.before _ s = true := fun w h => hts w (List.mem_cons_of_mem _ h)
  have hx := B.exec
  have hb := B.bytes
  have hr := B.returns
  have hown : s.vm.findClass RX1 = some m.cls := findClass_of_methodNamed B.named
  have hlk := B.notSynchronized
  have hl := lv_entry ([.ref a0, .ref a1, .int x2]) (n := 4) (Nat.le_of_ble_eq_true rfl)
  rw [lg_entry_eq]
  generalize (lg_sl ([.ref a0, .ref a1, .int x2]) ++ List.replicate (4 - (lg_sl ([.ref a0, .ref a1, .int x2])).length) Slot.unset).toArray = ls at hl ⊢
  have hl : lv_has ls 4 [(0, .ref a0), (1, .ref a1), (2, .int x2)] := hl
  have hE : Ext S0 S0 := Ext.rf _
  have cx : Cx p s m _ meth c cX1_readWant 4 RX1 none := ⟨hx, hb, hml, hown, hU, hr, hlk⟩
  rw [m_X1_readWant] at hm
  refine lv_aload_n hx hb dX1_readWant_0 rfl (lv_at hl 1 rfl) ?_
  refine lv_aload_n hx hb dX1_readWant_1 rfl (lv_at hl 0 rfl) ?_
  obtain ⟨q1, hq1, hm⟩ := bd_some hm
  have Tq1 : TY S0 q1 9 := hw.wf.ref (k := 1) (j := 1) Ta0 (by decide) (by decide) hq1
  refine pg_rb (k := 1) (j := 1) (f := 101) hx hb hown hU iu1 hw Ta0 (by decide) rfl (hU _ tw116) rfl hq1 dX1_readWant_2 ?_
  refine lv_iload_n hx hb dX1_readWant_5 rfl (lv_at hl 2 rfl) ?_
  obtain ⟨r4, S_2, hq3, hm⟩ := cb_some hm
  refine pw_ci (va_runS (As := [.ref a1, .ref q1, .int x2]) (rest := []) ⟨hx, hb, hml, hown, hU⟩ (c_X1_beginRow l C X n S0 hw.wf _ a1 q1 x2 (Ta1) (Tq1) r4 S_2 hq3) ⟨callB_of 3 hU (pq_g1 tc_X1_beginRow) rfl rfl rfl (hU _ tw4) (hU _ tw653) cd_X1_beginRow.2 ⟨Nat.le_of_ble_eq_true rfl, Nat.le_of_ble_eq_true rfl⟩, hU _ tw654⟩ (pw_preS hw) rfl rfl hl.1 rfl (lv_room (Nat.le_of_ble_eq_true rfl)) dX1_readWant_6 ⟨Nat.zero_le _, Nat.zero_le _⟩) hw (fun H locs hw hx5 => ?_)
  have Ta0 : TY S_2 a0 1 := ty_ext hx5 Ta0
  have Ta1 : TY S_2 a1 10 := ty_ext hx5 Ta1
  have hE : Ext S0 S_2 := Ext.tr hE hx5
  refine lv_istore_n (lv' := [(3, .int r4), (0, .ref a0), (1, .ref a1), (2, .int x2)]) hx hb dX1_readWant_9 rfl hl (by decide) rfl (fun ls hl => ?_)
  refine lv_aload_n hx hb dX1_readWant_10 rfl (lv_at hl 1 rfl) ?_
  obtain ⟨q6, hq6, hm⟩ := bd_some hm
  have Tq6 : TY S_2 q6 9 := hw.wf.ref (k := 1) (j := 1) Ta0 (by decide) (by decide) hq6
  refine pg_rb (k := 1) (j := 1) (f := 101) hx hb hown hU iu1 hw Ta0 (by decide) rfl (hU _ tw116) rfl hq6 dX1_readWant_11 ?_
  refine lv_iload_n hx hb dX1_readWant_14 rfl (lv_at hl 0 rfl) ?_
  refine lv_iconst (v := 0) hx hb dX1_readWant_15 (by decide) ?_
  refine lv_aload_n hx hb dX1_readWant_16 rfl (lv_at hl 2 rfl) ?_
  refine lv_iconst (v := 0) hx hb dX1_readWant_17 (by decide) ?_
  refine lv_aload_n hx hb dX1_readWant_18 rfl (lv_at hl 1 rfl) ?_
  obtain ⟨q7, hq7, hm⟩ := bd_some hm
  have Tq7 : TY S_2 q7 9 := hw.wf.ref (k := 1) (j := 0) Ta0 (by decide) (by decide) hq7
  refine pg_rb (k := 1) (j := 0) (f := 100) hx hb hown hU iu1 hw Ta0 (by decide) rfl (hU _ tw109) rfl hq7 dX1_readWant_19 ?_
  refine pgN_i (k := 9) (j := 2) (f := 902) hx hb hown hU iu9 hw Tq7 (by decide) rfl 18 rfl rfl dX1_readWant_22 ?_
  refine lv_iconst (v := 1) hx hb dX1_readWant_25 (by decide) ?_
  refine lv_isub hx hb dX1_readWant_26 ?_
  obtain ⟨r10, S_8, hq9, hm⟩ := cb_some hm
  refine pw_ci (va_runVN (As := [.int 0, .int ((pI S_2 902 q7) - (1 : Int32))]) (rest := [.int 0, .int r4, .ref q6]) ⟨hx, hb, hml, hown, hU⟩ (c_X10_takeNumber l C X n S_2 hw.wf _ a1 0 ((pI S_2 902 q7) - (1 : Int32)) (Ta1) r10 S_8 hq9) ⟨va_cnB (host := "WickNights") 2 hU (pq_g1 tc_X10_takeNumber) rfl rfl rfl (hw.nw 101 rfl) (hU _ tw2) cd_X10_takeNumber.2 ⟨Nat.le_of_ble_eq_true rfl, Nat.le_of_ble_eq_true rfl⟩, hU _ tw668, hU _ ts22⟩ (pw_preV hw Ta1 (by decide) rfl) rfl rfl hl.1 rfl (lv_room (Nat.le_of_ble_eq_true rfl)) dX1_readWant_27 ⟨Nat.zero_le _, Nat.zero_le _⟩) hw (fun H locs hw hx11 => ?_)
  have Tq6 : TY S_8 q6 9 := ty_ext hx11 Tq6
  have Ta0 : TY S_8 a0 1 := ty_ext hx11 Ta0
  have Ta1 : TY S_8 a1 10 := ty_ext hx11 Ta1
  have hE : Ext S0 S_8 := Ext.tr hE hx11
  obtain ⟨S_12, hq13, hm⟩ := bd_some hm
  refine pw_cv (va_runVN (As := [.int r4, .int 0, .int r10]) (rest := []) ⟨hx, hb, hml, hown, hU⟩ (c_X9_put l C X n S_8 hw.wf _ q6 r4 0 r10 (Tq6) S_12 hq13) ⟨va_cnB (host := "WickNights") 3 hU (pq_g1 tc_X9_put) rfl rfl rfl (hw.nw 102 rfl) (hU _ tw5) cd_X9_put.2 ⟨Nat.le_of_ble_eq_true rfl, Nat.le_of_ble_eq_true rfl⟩, hU _ tw673, hU _ ts23⟩ (pw_preV hw Tq6 (by decide) rfl) rfl rfl hl.1 rfl (lv_room (Nat.le_of_ble_eq_true rfl)) dX1_readWant_30 ⟨Nat.zero_le _, Nat.zero_le _⟩) hw (fun H locs hw hx14 => ?_)
  have Ta0 : TY S_12 a0 1 := ty_ext hx14 Ta0
  have Ta1 : TY S_12 a1 10 := ty_ext hx14 Ta1
  have hE : Ext S0 S_12 := Ext.tr hE hx14
  refine lv_aload_n hx hb dX1_readWant_33 rfl (lv_at hl 1 rfl) ?_
  obtain ⟨q15, hq15, hm⟩ := bd_some hm
  have Tq15 : TY S_12 q15 9 := hw.wf.ref (k := 1) (j := 1) Ta0 (by decide) (by decide) hq15
  refine pg_rb (k := 1) (j := 1) (f := 101) hx hb hown hU iu1 hw Ta0 (by decide) rfl (hU _ tw116) rfl hq15 dX1_readWant_34 ?_
  refine lv_iload_n hx hb dX1_readWant_37 rfl (lv_at hl 0 rfl) ?_
  refine lv_iconst (v := 1) hx hb dX1_readWant_38 (by decide) ?_
  refine lv_aload_n hx hb dX1_readWant_39 rfl (lv_at hl 2 rfl) ?_
  refine lv_iconst (v := 1) hx hb dX1_readWant_40 (by decide) ?_
  refine lv_bipush (v := 12) hx hb dX1_readWant_41 (by decide) ?_
  obtain ⟨r18, S_16, hq17, hm⟩ := cb_some hm
  refine pw_ci (va_runVN (As := [.int 1, .int 12]) (rest := [.int 1, .int r4, .ref q15]) ⟨hx, hb, hml, hown, hU⟩ (c_X10_takeNumber l C X n S_12 hw.wf _ a1 1 12 (Ta1) r18 S_16 hq17) ⟨va_cnB (host := "WickNights") 2 hU (pq_g1 tc_X10_takeNumber) rfl rfl rfl (hw.nw 101 rfl) (hU _ tw2) cd_X10_takeNumber.2 ⟨Nat.le_of_ble_eq_true rfl, Nat.le_of_ble_eq_true rfl⟩, hU _ tw668, hU _ ts22⟩ (pw_preV hw Ta1 (by decide) rfl) rfl rfl hl.1 rfl (lv_room (Nat.le_of_ble_eq_true rfl)) dX1_readWant_43 ⟨Nat.zero_le _, Nat.zero_le _⟩) hw (fun H locs hw hx19 => ?_)
  have Tq15 : TY S_16 q15 9 := ty_ext hx19 Tq15
  have Ta0 : TY S_16 a0 1 := ty_ext hx19 Ta0
  have Ta1 : TY S_16 a1 10 := ty_ext hx19 Ta1
  have hE : Ext S0 S_16 := Ext.tr hE hx19
  obtain ⟨S_20, hq21, hm⟩ := bd_some hm
  refine pw_cv (va_runVN (As := [.int r4, .int 1, .int r18]) (rest := []) ⟨hx, hb, hml, hown, hU⟩ (c_X9_put l C X n S_16 hw.wf _ q15 r4 1 r18 (Tq15) S_20 hq21) ⟨va_cnB (host := "WickNights") 3 hU (pq_g1 tc_X9_put) rfl rfl rfl (hw.nw 102 rfl) (hU _ tw5) cd_X9_put.2 ⟨Nat.le_of_ble_eq_true rfl, Nat.le_of_ble_eq_true rfl⟩, hU _ tw673, hU _ ts23⟩ (pw_preV hw Tq15 (by decide) rfl) rfl rfl hl.1 rfl (lv_room (Nat.le_of_ble_eq_true rfl)) dX1_readWant_46 ⟨Nat.zero_le _, Nat.zero_le _⟩) hw (fun H locs hw hx22 => ?_)
  have Ta0 : TY S_20 a0 1 := ty_ext hx22 Ta0
  have Ta1 : TY S_20 a1 10 := ty_ext hx22 Ta1
  have hE : Ext S0 S_20 := Ext.tr hE hx22
  refine lv_aload_n hx hb dX1_readWant_49 rfl (lv_at hl 1 rfl) ?_
  obtain ⟨q23, hq23, hm⟩ := bd_some hm
  have Tq23 : TY S_20 q23 9 := hw.wf.ref (k := 1) (j := 1) Ta0 (by decide) (by decide) hq23
  refine pg_rb (k := 1) (j := 1) (f := 101) hx hb hown hU iu1 hw Ta0 (by decide) rfl (hU _ tw116) rfl hq23 dX1_readWant_50 ?_
  refine lv_iload_n hx hb dX1_readWant_53 rfl (lv_at hl 0 rfl) ?_
  refine lv_iconst (v := 2) hx hb dX1_readWant_54 (by decide) ?_
  refine lv_aload_n hx hb dX1_readWant_55 rfl (lv_at hl 2 rfl) ?_
  refine lv_iconst (v := 0) hx hb dX1_readWant_56 (by decide) ?_
  refine lv_iconst (v := 1) hx hb dX1_readWant_57 (by decide) ?_
  obtain ⟨r26, S_24, hq25, hm⟩ := cb_some hm
  refine pw_ci (va_runVN (As := [.int 0, .int 1]) (rest := [.int 2, .int r4, .ref q23]) ⟨hx, hb, hml, hown, hU⟩ (c_X10_takeNumber l C X n S_20 hw.wf _ a1 0 1 (Ta1) r26 S_24 hq25) ⟨va_cnB (host := "WickNights") 2 hU (pq_g1 tc_X10_takeNumber) rfl rfl rfl (hw.nw 101 rfl) (hU _ tw2) cd_X10_takeNumber.2 ⟨Nat.le_of_ble_eq_true rfl, Nat.le_of_ble_eq_true rfl⟩, hU _ tw668, hU _ ts22⟩ (pw_preV hw Ta1 (by decide) rfl) rfl rfl hl.1 rfl (lv_room (Nat.le_of_ble_eq_true rfl)) dX1_readWant_58 ⟨Nat.zero_le _, Nat.zero_le _⟩) hw (fun H locs hw hx27 => ?_)
  have Tq23 : TY S_24 q23 9 := ty_ext hx27 Tq23
  have Ta0 : TY S_24 a0 1 := ty_ext hx27 Ta0
  have Ta1 : TY S_24 a1 10 := ty_ext hx27 Ta1
  have hE : Ext S0 S_24 := Ext.tr hE hx27
  obtain ⟨S_28, hq29, hm⟩ := bd_some hm
  refine pw_cv (va_runVN (As := [.int r4, .int 2, .int r26]) (rest := []) ⟨hx, hb, hml, hown, hU⟩ (c_X9_put l C X n S_24 hw.wf _ q23 r4 2 r26 (Tq23) S_28 hq29) ⟨va_cnB (host := "WickNights") 3 hU (pq_g1 tc_X9_put) rfl rfl rfl (hw.nw 102 rfl) (hU _ tw5) cd_X9_put.2 ⟨Nat.le_of_ble_eq_true rfl, Nat.le_of_ble_eq_true rfl⟩, hU _ tw673, hU _ ts23⟩ (pw_preV hw Tq23 (by decide) rfl) rfl rfl hl.1 rfl (lv_room (Nat.le_of_ble_eq_true rfl)) dX1_readWant_61 ⟨Nat.zero_le _, Nat.zero_le _⟩) hw (fun H locs hw hx30 => ?_)
  have Ta0 : TY S_28 a0 1 := ty_ext hx30 Ta0
  have Ta1 : TY S_28 a1 10 := ty_ext hx30 Ta1
  have hE : Ext S0 S_28 := Ext.tr hE hx30
  refine lv_aload_n hx hb dX1_readWant_64 rfl (lv_at hl 1 rfl) ?_
  obtain ⟨q31, hq31, hm⟩ := bd_some hm
  have Tq31 : TY S_28 q31 9 := hw.wf.ref (k := 1) (j := 1) Ta0 (by decide) (by decide) hq31
  refine pg_rb (k := 1) (j := 1) (f := 101) hx hb hown hU iu1 hw Ta0 (by decide) rfl (hU _ tw116) rfl hq31 dX1_readWant_65 ?_
  refine lv_iload_n hx hb dX1_readWant_68 rfl (lv_at hl 0 rfl) ?_
  refine lv_iconst (v := 3) hx hb dX1_readWant_69 (by decide) ?_
  refine lv_aload_n hx hb dX1_readWant_70 rfl (lv_at hl 2 rfl) ?_
  refine lv_iconst (v := 0) hx hb dX1_readWant_71 (by decide) ?_
  refine lv_bipush (v := 99) hx hb dX1_readWant_72 (by decide) ?_
  obtain ⟨r34, S_32, hq33, hm⟩ := cb_some hm
  refine pw_ci (va_runVN (As := [.int 0, .int 99]) (rest := [.int 3, .int r4, .ref q31]) ⟨hx, hb, hml, hown, hU⟩ (c_X10_takeNumber l C X n S_28 hw.wf _ a1 0 99 (Ta1) r34 S_32 hq33) ⟨va_cnB (host := "WickNights") 2 hU (pq_g1 tc_X10_takeNumber) rfl rfl rfl (hw.nw 101 rfl) (hU _ tw2) cd_X10_takeNumber.2 ⟨Nat.le_of_ble_eq_true rfl, Nat.le_of_ble_eq_true rfl⟩, hU _ tw668, hU _ ts22⟩ (pw_preV hw Ta1 (by decide) rfl) rfl rfl hl.1 rfl (lv_room (Nat.le_of_ble_eq_true rfl)) dX1_readWant_74 ⟨Nat.zero_le _, Nat.zero_le _⟩) hw (fun H locs hw hx35 => ?_)
  have Tq31 : TY S_32 q31 9 := ty_ext hx35 Tq31
  have Ta0 : TY S_32 a0 1 := ty_ext hx35 Ta0
  have Ta1 : TY S_32 a1 10 := ty_ext hx35 Ta1
  have hE : Ext S0 S_32 := Ext.tr hE hx35
  obtain ⟨S_36, hq37, hm⟩ := bd_some hm
  refine pw_cv (va_runVN (As := [.int r4, .int 3, .int r34]) (rest := []) ⟨hx, hb, hml, hown, hU⟩ (c_X9_put l C X n S_32 hw.wf _ q31 r4 3 r34 (Tq31) S_36 hq37) ⟨va_cnB (host := "WickNights") 3 hU (pq_g1 tc_X9_put) rfl rfl rfl (hw.nw 102 rfl) (hU _ tw5) cd_X9_put.2 ⟨Nat.le_of_ble_eq_true rfl, Nat.le_of_ble_eq_true rfl⟩, hU _ tw673, hU _ ts23⟩ (pw_preV hw Tq31 (by decide) rfl) rfl rfl hl.1 rfl (lv_room (Nat.le_of_ble_eq_true rfl)) dX1_readWant_77 ⟨Nat.zero_le _, Nat.zero_le _⟩) hw (fun H locs hw hx38 => ?_)
  have Ta0 : TY S_36 a0 1 := ty_ext hx38 Ta0
  have Ta1 : TY S_36 a1 10 := ty_ext hx38 Ta1
  have hE : Ext S0 S_36 := Ext.tr hE hx38
  cases hm
  exact pw_vret hx hb hr hlk hw hE dX1_readWant_80
abbrev rm_X1_readMine : Room := { frames := 3, cells := 0, slots := 0, locals := 64 }
def m_X1_readMine (n : Nat) (a0 : Nat) (a1 : Nat) (x2 : Int32) (S0 : pq_S) : Option pq_S := Option.bind (pR S0 102 a0) fun q1 => cb (m_X1_beginRow n a1 q1 x2 S0) fun r4 S_2 => Option.bind (pR S_2 102 a0) fun q6 => Option.bind (pR S_2 100 a0) fun q7 => cb (m_X10_takeNumber n a1 0 ((pI S_2 902 q7) - (1 : Int32)) S_2) fun r10 S_8 => Option.bind (m_X9_put n q6 r4 0 r10 S_8) fun S_12 => Option.bind (pR S_12 102 a0) fun q15 => cb (m_X10_takeNumber n a1 0 400 S_12) fun r18 S_16 => Option.bind (m_X9_put n q15 r4 1 r18 S_16) fun S_20 => Option.bind (pR S_20 102 a0) fun q23 => cb (m_X10_takeNumber n a1 0 11 S_20) fun r26 S_24 => Option.bind (m_X9_put n q23 r4 2 r26 S_24) fun S_28 => some S_28
theorem tc_X1_readMine : Cond.code yX1_readMine cX1_readMine 4 none ∈ pq_U := tw684
theorem cd_X1_readMine : yX1_readMine.cls = RX1 ∧ yX1_readMine.cls ≠ "java/lang/invoke/MethodHandle" ∧ yX1_readMine.cls ≠ "java/lang/invoke/VarHandle" ∧ (parseMethodDescriptor yX1_readMine.desc).map (fun d => d.parameters.length) = some 2 := by decide +kernel
set_option maxHeartbeats 4000000 in
set_option maxRecDepth 100000 in
theorem c_X1_readMine (l : Launch) (C : pq_C) (X : va_W) (n : Nat) (S0 : pq_S) (hF : WF S0) (sz : Nat) (a0 : Nat) (a1 : Nat) (x2 : Int32) (Ta0 : TY S0 a0 1) (Ta1 : TY S0 a1 10) (S1 : pq_S) (hm : m_X1_readMine n a0 a1 x2 S0 = some S1) : MV l yX1_readMine (.code yX1_readMine cX1_readMine 4 none :: pq_U) rm_X1_readMine C X S0 sz [.ref a0, .ref a1, .int x2] S1 0 0 := by
  refine Met.ofW (cc := cX1_readMine) (maxL := 4) (ret := none) (by decide) rfl ?_
  intro p e s m args below meth c s₁ B hml hv
  obtain ⟨rfl, hv⟩ := hv
  have hsz := hv.1
  subst hsz
  have hw := pw_entry hF hv
  have hts := atoms_spec (ws := .code yX1_readMine cX1_readMine 4 none :: pq_U) B.pre
  have hU : ∀ w ∈ pq_U, w.before _ s = true := fun w h => hts w (List.mem_cons_of_mem _ h)
  have hx := B.exec
  have hb := B.bytes
  have hr := B.returns
  have hown : s.vm.findClass RX1 = some m.cls := findClass_of_methodNamed B.named
  have hlk := B.notSynchronized
  have hl := lv_entry ([.ref a0, .ref a1, .int x2]) (n := 4) (Nat.le_of_ble_eq_true rfl)
  rw [lg_entry_eq]
  generalize (lg_sl ([.ref a0, .ref a1, .int x2]) ++ List.replicate (4 - (lg_sl ([.ref a0, .ref a1, .int x2])).length) Slot.unset).toArray = ls at hl ⊢
  have hl : lv_has ls 4 [(0, .ref a0), (1, .ref a1), (2, .int x2)] := hl
  have hE : Ext S0 S0 := Ext.rf _
  have cx : Cx p s m _ meth c cX1_readMine 4 RX1 none := ⟨hx, hb, hml, hown, hU, hr, hlk⟩
  rw [m_X1_readMine] at hm
  refine lv_aload_n hx hb dX1_readMine_0 rfl (lv_at hl 1 rfl) ?_
  refine lv_aload_n hx hb dX1_readMine_1 rfl (lv_at hl 0 rfl) ?_
  obtain ⟨q1, hq1, hm⟩ := bd_some hm
  have Tq1 : TY S0 q1 9 := hw.wf.ref (k := 1) (j := 2) Ta0 (by decide) (by decide) hq1
  refine pg_rb (k := 1) (j := 2) (f := 102) hx hb hown hU iu1 hw Ta0 (by decide) rfl (hU _ tw123) rfl hq1 dX1_readMine_2 ?_
  refine lv_iload_n hx hb dX1_readMine_5 rfl (lv_at hl 2 rfl) ?_
  obtain ⟨r4, S_2, hq3, hm⟩ := cb_some hm
  refine pw_ci (va_runS (As := [.ref a1, .ref q1, .int x2]) (rest := []) ⟨hx, hb, hml, hown, hU⟩ (c_X1_beginRow l C X n S0 hw.wf _ a1 q1 x2 (Ta1) (Tq1) r4 S_2 hq3) ⟨callB_of 3 hU (pq_g1 tc_X1_beginRow) rfl rfl rfl (hU _ tw4) (hU _ tw653) cd_X1_beginRow.2 ⟨Nat.le_of_ble_eq_true rfl, Nat.le_of_ble_eq_true rfl⟩, hU _ tw654⟩ (pw_preS hw) rfl rfl hl.1 rfl (lv_room (Nat.le_of_ble_eq_true rfl)) dX1_readMine_6 ⟨Nat.zero_le _, Nat.zero_le _⟩) hw (fun H locs hw hx5 => ?_)
  have Ta0 : TY S_2 a0 1 := ty_ext hx5 Ta0
  have Ta1 : TY S_2 a1 10 := ty_ext hx5 Ta1
  have hE : Ext S0 S_2 := Ext.tr hE hx5
  refine lv_istore_n (lv' := [(3, .int r4), (0, .ref a0), (1, .ref a1), (2, .int x2)]) hx hb dX1_readMine_9 rfl hl (by decide) rfl (fun ls hl => ?_)
  refine lv_aload_n hx hb dX1_readMine_10 rfl (lv_at hl 1 rfl) ?_
  obtain ⟨q6, hq6, hm⟩ := bd_some hm
  have Tq6 : TY S_2 q6 9 := hw.wf.ref (k := 1) (j := 2) Ta0 (by decide) (by decide) hq6
  refine pg_rb (k := 1) (j := 2) (f := 102) hx hb hown hU iu1 hw Ta0 (by decide) rfl (hU _ tw123) rfl hq6 dX1_readMine_11 ?_
  refine lv_iload_n hx hb dX1_readMine_14 rfl (lv_at hl 0 rfl) ?_
  refine lv_iconst (v := 0) hx hb dX1_readMine_15 (by decide) ?_
  refine lv_aload_n hx hb dX1_readMine_16 rfl (lv_at hl 2 rfl) ?_
  refine lv_iconst (v := 0) hx hb dX1_readMine_17 (by decide) ?_
  refine lv_aload_n hx hb dX1_readMine_18 rfl (lv_at hl 1 rfl) ?_
  obtain ⟨q7, hq7, hm⟩ := bd_some hm
  have Tq7 : TY S_2 q7 9 := hw.wf.ref (k := 1) (j := 0) Ta0 (by decide) (by decide) hq7
  refine pg_rb (k := 1) (j := 0) (f := 100) hx hb hown hU iu1 hw Ta0 (by decide) rfl (hU _ tw109) rfl hq7 dX1_readMine_19 ?_
  refine pgN_i (k := 9) (j := 2) (f := 902) hx hb hown hU iu9 hw Tq7 (by decide) rfl 18 rfl rfl dX1_readMine_22 ?_
  refine lv_iconst (v := 1) hx hb dX1_readMine_25 (by decide) ?_
  refine lv_isub hx hb dX1_readMine_26 ?_
  obtain ⟨r10, S_8, hq9, hm⟩ := cb_some hm
  refine pw_ci (va_runVN (As := [.int 0, .int ((pI S_2 902 q7) - (1 : Int32))]) (rest := [.int 0, .int r4, .ref q6]) ⟨hx, hb, hml, hown, hU⟩ (c_X10_takeNumber l C X n S_2 hw.wf _ a1 0 ((pI S_2 902 q7) - (1 : Int32)) (Ta1) r10 S_8 hq9) ⟨va_cnB (host := "WickNights") 2 hU (pq_g1 tc_X10_takeNumber) rfl rfl rfl (hw.nw 101 rfl) (hU _ tw2) cd_X10_takeNumber.2 ⟨Nat.le_of_ble_eq_true rfl, Nat.le_of_ble_eq_true rfl⟩, hU _ tw668, hU _ ts22⟩ (pw_preV hw Ta1 (by decide) rfl) rfl rfl hl.1 rfl (lv_room (Nat.le_of_ble_eq_true rfl)) dX1_readMine_27 ⟨Nat.zero_le _, Nat.zero_le _⟩) hw (fun H locs hw hx11 => ?_)
  have Tq6 : TY S_8 q6 9 := ty_ext hx11 Tq6
  have Ta0 : TY S_8 a0 1 := ty_ext hx11 Ta0
  have Ta1 : TY S_8 a1 10 := ty_ext hx11 Ta1
  have hE : Ext S0 S_8 := Ext.tr hE hx11
  obtain ⟨S_12, hq13, hm⟩ := bd_some hm
  refine pw_cv (va_runVN (As := [.int r4, .int 0, .int r10]) (rest := []) ⟨hx, hb, hml, hown, hU⟩ (c_X9_put l C X n S_8 hw.wf _ q6 r4 0 r10 (Tq6) S_12 hq13) ⟨va_cnB (host := "WickNights") 3 hU (pq_g1 tc_X9_put) rfl rfl rfl (hw.nw 102 rfl) (hU _ tw5) cd_X9_put.2 ⟨Nat.le_of_ble_eq_true rfl, Nat.le_of_ble_eq_true rfl⟩, hU _ tw673, hU _ ts23⟩ (pw_preV hw Tq6 (by decide) rfl) rfl rfl hl.1 rfl (lv_room (Nat.le_of_ble_eq_true rfl)) dX1_readMine_30 ⟨Nat.zero_le _, Nat.zero_le _⟩) hw (fun H locs hw hx14 => ?_)
  have Ta0 : TY S_12 a0 1 := ty_ext hx14 Ta0
  have Ta1 : TY S_12 a1 10 := ty_ext hx14 Ta1
  have hE : Ext S0 S_12 := Ext.tr hE hx14
  refine lv_aload_n hx hb dX1_readMine_33 rfl (lv_at hl 1 rfl) ?_
  obtain ⟨q15, hq15, hm⟩ := bd_some hm
  have Tq15 : TY S_12 q15 9 := hw.wf.ref (k := 1) (j := 2) Ta0 (by decide) (by decide) hq15
  refine pg_rb (k := 1) (j := 2) (f := 102) hx hb hown hU iu1 hw Ta0 (by decide) rfl (hU _ tw123) rfl hq15 dX1_readMine_34 ?_
  refine lv_iload_n hx hb dX1_readMine_37 rfl (lv_at hl 0 rfl) ?_
  refine lv_iconst (v := 1) hx hb dX1_readMine_38 (by decide) ?_
  refine lv_aload_n hx hb dX1_readMine_39 rfl (lv_at hl 2 rfl) ?_
  refine lv_iconst (v := 0) hx hb dX1_readMine_40 (by decide) ?_
  refine lv_sipush (v := 400) hx hb dX1_readMine_41 (by decide) ?_
  obtain ⟨r18, S_16, hq17, hm⟩ := cb_some hm
  refine pw_ci (va_runVN (As := [.int 0, .int 400]) (rest := [.int 1, .int r4, .ref q15]) ⟨hx, hb, hml, hown, hU⟩ (c_X10_takeNumber l C X n S_12 hw.wf _ a1 0 400 (Ta1) r18 S_16 hq17) ⟨va_cnB (host := "WickNights") 2 hU (pq_g1 tc_X10_takeNumber) rfl rfl rfl (hw.nw 101 rfl) (hU _ tw2) cd_X10_takeNumber.2 ⟨Nat.le_of_ble_eq_true rfl, Nat.le_of_ble_eq_true rfl⟩, hU _ tw668, hU _ ts22⟩ (pw_preV hw Ta1 (by decide) rfl) rfl rfl hl.1 rfl (lv_room (Nat.le_of_ble_eq_true rfl)) dX1_readMine_44 ⟨Nat.zero_le _, Nat.zero_le _⟩) hw (fun H locs hw hx19 => ?_)
  have Tq15 : TY S_16 q15 9 := ty_ext hx19 Tq15
  have Ta0 : TY S_16 a0 1 := ty_ext hx19 Ta0
  have Ta1 : TY S_16 a1 10 := ty_ext hx19 Ta1
  have hE : Ext S0 S_16 := Ext.tr hE hx19
  obtain ⟨S_20, hq21, hm⟩ := bd_some hm
  refine pw_cv (va_runVN (As := [.int r4, .int 1, .int r18]) (rest := []) ⟨hx, hb, hml, hown, hU⟩ (c_X9_put l C X n S_16 hw.wf _ q15 r4 1 r18 (Tq15) S_20 hq21) ⟨va_cnB (host := "WickNights") 3 hU (pq_g1 tc_X9_put) rfl rfl rfl (hw.nw 102 rfl) (hU _ tw5) cd_X9_put.2 ⟨Nat.le_of_ble_eq_true rfl, Nat.le_of_ble_eq_true rfl⟩, hU _ tw673, hU _ ts23⟩ (pw_preV hw Tq15 (by decide) rfl) rfl rfl hl.1 rfl (lv_room (Nat.le_of_ble_eq_true rfl)) dX1_readMine_47 ⟨Nat.zero_le _, Nat.zero_le _⟩) hw (fun H locs hw hx22 => ?_)
  have Ta0 : TY S_20 a0 1 := ty_ext hx22 Ta0
  have Ta1 : TY S_20 a1 10 := ty_ext hx22 Ta1
  have hE : Ext S0 S_20 := Ext.tr hE hx22
  refine lv_aload_n hx hb dX1_readMine_50 rfl (lv_at hl 1 rfl) ?_
  obtain ⟨q23, hq23, hm⟩ := bd_some hm
  have Tq23 : TY S_20 q23 9 := hw.wf.ref (k := 1) (j := 2) Ta0 (by decide) (by decide) hq23
  refine pg_rb (k := 1) (j := 2) (f := 102) hx hb hown hU iu1 hw Ta0 (by decide) rfl (hU _ tw123) rfl hq23 dX1_readMine_51 ?_
  refine lv_iload_n hx hb dX1_readMine_54 rfl (lv_at hl 0 rfl) ?_
  refine lv_iconst (v := 2) hx hb dX1_readMine_55 (by decide) ?_
  refine lv_aload_n hx hb dX1_readMine_56 rfl (lv_at hl 2 rfl) ?_
  refine lv_iconst (v := 0) hx hb dX1_readMine_57 (by decide) ?_
  refine lv_bipush (v := 11) hx hb dX1_readMine_58 (by decide) ?_
  obtain ⟨r26, S_24, hq25, hm⟩ := cb_some hm
  refine pw_ci (va_runVN (As := [.int 0, .int 11]) (rest := [.int 2, .int r4, .ref q23]) ⟨hx, hb, hml, hown, hU⟩ (c_X10_takeNumber l C X n S_20 hw.wf _ a1 0 11 (Ta1) r26 S_24 hq25) ⟨va_cnB (host := "WickNights") 2 hU (pq_g1 tc_X10_takeNumber) rfl rfl rfl (hw.nw 101 rfl) (hU _ tw2) cd_X10_takeNumber.2 ⟨Nat.le_of_ble_eq_true rfl, Nat.le_of_ble_eq_true rfl⟩, hU _ tw668, hU _ ts22⟩ (pw_preV hw Ta1 (by decide) rfl) rfl rfl hl.1 rfl (lv_room (Nat.le_of_ble_eq_true rfl)) dX1_readMine_60 ⟨Nat.zero_le _, Nat.zero_le _⟩) hw (fun H locs hw hx27 => ?_)
  have Tq23 : TY S_24 q23 9 := ty_ext hx27 Tq23
  have Ta0 : TY S_24 a0 1 := ty_ext hx27 Ta0
  have Ta1 : TY S_24 a1 10 := ty_ext hx27 Ta1
  have hE : Ext S0 S_24 := Ext.tr hE hx27
  obtain ⟨S_28, hq29, hm⟩ := bd_some hm
  refine pw_cv (va_runVN (As := [.int r4, .int 2, .int r26]) (rest := []) ⟨hx, hb, hml, hown, hU⟩ (c_X9_put l C X n S_24 hw.wf _ q23 r4 2 r26 (Tq23) S_28 hq29) ⟨va_cnB (host := "WickNights") 3 hU (pq_g1 tc_X9_put) rfl rfl rfl (hw.nw 102 rfl) (hU _ tw5) cd_X9_put.2 ⟨Nat.le_of_ble_eq_true rfl, Nat.le_of_ble_eq_true rfl⟩, hU _ tw673, hU _ ts23⟩ (pw_preV hw Tq23 (by decide) rfl) rfl rfl hl.1 rfl (lv_room (Nat.le_of_ble_eq_true rfl)) dX1_readMine_63 ⟨Nat.zero_le _, Nat.zero_le _⟩) hw (fun H locs hw hx30 => ?_)
  have Ta0 : TY S_28 a0 1 := ty_ext hx30 Ta0
  have Ta1 : TY S_28 a1 10 := ty_ext hx30 Ta1
  have hE : Ext S0 S_28 := Ext.tr hE hx30
  cases hm
  exact pw_vret hx hb hr hlk hw hE dX1_readMine_66
abbrev rm_X1_readMoon : Room := { frames := 3, cells := 0, slots := 0, locals := 64 }
def m_X1_readMoon (n : Nat) (a0 : Nat) (a1 : Nat) (x2 : Int32) (S0 : pq_S) : Option pq_S := Option.bind (pR S0 103 a0) fun q1 => cb (m_X1_beginRow n a1 q1 x2 S0) fun r4 S_2 => cb (m_X10_takeNumber n a1 1 30 S_2) fun r8 S_6 => Option.bind (pR S_6 103 a0) fun q10 => Option.bind (m_X9_put n q10 r4 0 r8 S_6) fun S_11 => Option.bind (pR S_11 103 a0) fun q14 => cb (m_X10_takeNumber n a1 0 (r8 - (1 : Int32)) S_11) fun r17 S_15 => Option.bind (m_X9_put n q14 r4 1 r17 S_15) fun S_19 => some S_19
theorem tc_X1_readMoon : Cond.code yX1_readMoon cX1_readMoon 5 none ∈ pq_U := tw689
theorem cd_X1_readMoon : yX1_readMoon.cls = RX1 ∧ yX1_readMoon.cls ≠ "java/lang/invoke/MethodHandle" ∧ yX1_readMoon.cls ≠ "java/lang/invoke/VarHandle" ∧ (parseMethodDescriptor yX1_readMoon.desc).map (fun d => d.parameters.length) = some 2 := by decide +kernel
set_option maxHeartbeats 4000000 in
set_option maxRecDepth 100000 in
theorem c_X1_readMoon (l : Launch) (C : pq_C) (X : va_W) (n : Nat) (S0 : pq_S) (hF : WF S0) (sz : Nat) (a0 : Nat) (a1 : Nat) (x2 : Int32) (Ta0 : TY S0 a0 1) (Ta1 : TY S0 a1 10) (S1 : pq_S) (hm : m_X1_readMoon n a0 a1 x2 S0 = some S1) : MV l yX1_readMoon (.code yX1_readMoon cX1_readMoon 5 none :: pq_U) rm_X1_readMoon C X S0 sz [.ref a0, .ref a1, .int x2] S1 0 0 := by
  refine Met.ofW (cc := cX1_readMoon) (maxL := 5) (ret := none) (by decide) rfl ?_
  intro p e s m args below meth c s₁ B hml hv
  obtain ⟨rfl, hv⟩ := hv
  have hsz := hv.1
  subst hsz
  have hw := pw_entry hF hv
  have hts := atoms_spec (ws := .code yX1_readMoon cX1_readMoon 5 none :: pq_U) B.pre
  have hU : ∀ w ∈ pq_U, w.before _ s = true := fun w h => hts w (List.mem_cons_of_mem _ h)
  have hx := B.exec
  have hb := B.bytes
  have hr := B.returns
  have hown : s.vm.findClass RX1 = some m.cls := findClass_of_methodNamed B.named
  have hlk := B.notSynchronized
  have hl := lv_entry ([.ref a0, .ref a1, .int x2]) (n := 5) (Nat.le_of_ble_eq_true rfl)
  rw [lg_entry_eq]
  generalize (lg_sl ([.ref a0, .ref a1, .int x2]) ++ List.replicate (5 - (lg_sl ([.ref a0, .ref a1, .int x2])).length) Slot.unset).toArray = ls at hl ⊢
  have hl : lv_has ls 5 [(0, .ref a0), (1, .ref a1), (2, .int x2)] := hl
  have hE : Ext S0 S0 := Ext.rf _
  have cx : Cx p s m _ meth c cX1_readMoon 5 RX1 none := ⟨hx, hb, hml, hown, hU, hr, hlk⟩
  rw [m_X1_readMoon] at hm
  refine lv_aload_n hx hb dX1_readMoon_0 rfl (lv_at hl 1 rfl) ?_
  refine lv_aload_n hx hb dX1_readMoon_1 rfl (lv_at hl 0 rfl) ?_
  obtain ⟨q1, hq1, hm⟩ := bd_some hm
  have Tq1 : TY S0 q1 9 := hw.wf.ref (k := 1) (j := 3) Ta0 (by decide) (by decide) hq1
  refine pg_rb (k := 1) (j := 3) (f := 103) hx hb hown hU iu1 hw Ta0 (by decide) rfl (hU _ tw128) rfl hq1 dX1_readMoon_2 ?_
  refine lv_iload_n hx hb dX1_readMoon_5 rfl (lv_at hl 2 rfl) ?_
  obtain ⟨r4, S_2, hq3, hm⟩ := cb_some hm
  refine pw_ci (va_runS (As := [.ref a1, .ref q1, .int x2]) (rest := []) ⟨hx, hb, hml, hown, hU⟩ (c_X1_beginRow l C X n S0 hw.wf _ a1 q1 x2 (Ta1) (Tq1) r4 S_2 hq3) ⟨callB_of 3 hU (pq_g1 tc_X1_beginRow) rfl rfl rfl (hU _ tw4) (hU _ tw653) cd_X1_beginRow.2 ⟨Nat.le_of_ble_eq_true rfl, Nat.le_of_ble_eq_true rfl⟩, hU _ tw654⟩ (pw_preS hw) rfl rfl hl.1 rfl (lv_room (Nat.le_of_ble_eq_true rfl)) dX1_readMoon_6 ⟨Nat.zero_le _, Nat.zero_le _⟩) hw (fun H locs hw hx5 => ?_)
  have Ta0 : TY S_2 a0 1 := ty_ext hx5 Ta0
  have Ta1 : TY S_2 a1 10 := ty_ext hx5 Ta1
  have hE : Ext S0 S_2 := Ext.tr hE hx5
  refine lv_istore_n (lv' := [(3, .int r4), (0, .ref a0), (1, .ref a1), (2, .int x2)]) hx hb dX1_readMoon_9 rfl hl (by decide) rfl (fun ls hl => ?_)
  refine lv_aload_n hx hb dX1_readMoon_10 rfl (lv_at hl 2 rfl) ?_
  refine lv_iconst (v := 1) hx hb dX1_readMoon_11 (by decide) ?_
  refine lv_bipush (v := 30) hx hb dX1_readMoon_12 (by decide) ?_
  obtain ⟨r8, S_6, hq7, hm⟩ := cb_some hm
  refine pw_ci (va_runVN (As := [.int 1, .int 30]) (rest := []) ⟨hx, hb, hml, hown, hU⟩ (c_X10_takeNumber l C X n S_2 hw.wf _ a1 1 30 (Ta1) r8 S_6 hq7) ⟨va_cnB (host := "WickNights") 2 hU (pq_g1 tc_X10_takeNumber) rfl rfl rfl (hw.nw 101 rfl) (hU _ tw2) cd_X10_takeNumber.2 ⟨Nat.le_of_ble_eq_true rfl, Nat.le_of_ble_eq_true rfl⟩, hU _ tw668, hU _ ts22⟩ (pw_preV hw Ta1 (by decide) rfl) rfl rfl hl.1 rfl (lv_room (Nat.le_of_ble_eq_true rfl)) dX1_readMoon_14 ⟨Nat.zero_le _, Nat.zero_le _⟩) hw (fun H locs hw hx9 => ?_)
  have Ta0 : TY S_6 a0 1 := ty_ext hx9 Ta0
  have Ta1 : TY S_6 a1 10 := ty_ext hx9 Ta1
  have hE : Ext S0 S_6 := Ext.tr hE hx9
  refine lv_istore (lv' := [(4, .int r8), (3, .int r4), (0, .ref a0), (1, .ref a1), (2, .int x2)]) hx hb dX1_readMoon_17 hl (by decide) rfl (fun ls hl => ?_)
  refine lv_aload_n hx hb dX1_readMoon_19 rfl (lv_at hl 2 rfl) ?_
  obtain ⟨q10, hq10, hm⟩ := bd_some hm
  have Tq10 : TY S_6 q10 9 := hw.wf.ref (k := 1) (j := 3) Ta0 (by decide) (by decide) hq10
  refine pg_rb (k := 1) (j := 3) (f := 103) hx hb hown hU iu1 hw Ta0 (by decide) rfl (hU _ tw128) rfl hq10 dX1_readMoon_20 ?_
  refine lv_iload_n hx hb dX1_readMoon_23 rfl (lv_at hl 1 rfl) ?_
  refine lv_iconst (v := 0) hx hb dX1_readMoon_24 (by decide) ?_
  refine lv_iload hx hb dX1_readMoon_25 (lv_at hl 0 rfl) ?_
  obtain ⟨S_11, hq12, hm⟩ := bd_some hm
  refine pw_cv (va_runVN (As := [.int r4, .int 0, .int r8]) (rest := []) ⟨hx, hb, hml, hown, hU⟩ (c_X9_put l C X n S_6 hw.wf _ q10 r4 0 r8 (Tq10) S_11 hq12) ⟨va_cnB (host := "WickNights") 3 hU (pq_g1 tc_X9_put) rfl rfl rfl (hw.nw 102 rfl) (hU _ tw5) cd_X9_put.2 ⟨Nat.le_of_ble_eq_true rfl, Nat.le_of_ble_eq_true rfl⟩, hU _ tw673, hU _ ts23⟩ (pw_preV hw Tq10 (by decide) rfl) rfl rfl hl.1 rfl (lv_room (Nat.le_of_ble_eq_true rfl)) dX1_readMoon_27 ⟨Nat.zero_le _, Nat.zero_le _⟩) hw (fun H locs hw hx13 => ?_)
  have Ta0 : TY S_11 a0 1 := ty_ext hx13 Ta0
  have Ta1 : TY S_11 a1 10 := ty_ext hx13 Ta1
  have hE : Ext S0 S_11 := Ext.tr hE hx13
  refine lv_aload_n hx hb dX1_readMoon_30 rfl (lv_at hl 2 rfl) ?_
  obtain ⟨q14, hq14, hm⟩ := bd_some hm
  have Tq14 : TY S_11 q14 9 := hw.wf.ref (k := 1) (j := 3) Ta0 (by decide) (by decide) hq14
  refine pg_rb (k := 1) (j := 3) (f := 103) hx hb hown hU iu1 hw Ta0 (by decide) rfl (hU _ tw128) rfl hq14 dX1_readMoon_31 ?_
  refine lv_iload_n hx hb dX1_readMoon_34 rfl (lv_at hl 1 rfl) ?_
  refine lv_iconst (v := 1) hx hb dX1_readMoon_35 (by decide) ?_
  refine lv_aload_n hx hb dX1_readMoon_36 rfl (lv_at hl 3 rfl) ?_
  refine lv_iconst (v := 0) hx hb dX1_readMoon_37 (by decide) ?_
  refine lv_iload hx hb dX1_readMoon_38 (lv_at hl 0 rfl) ?_
  refine lv_iconst (v := 1) hx hb dX1_readMoon_40 (by decide) ?_
  refine lv_isub hx hb dX1_readMoon_41 ?_
  obtain ⟨r17, S_15, hq16, hm⟩ := cb_some hm
  refine pw_ci (va_runVN (As := [.int 0, .int (r8 - (1 : Int32))]) (rest := [.int 1, .int r4, .ref q14]) ⟨hx, hb, hml, hown, hU⟩ (c_X10_takeNumber l C X n S_11 hw.wf _ a1 0 (r8 - (1 : Int32)) (Ta1) r17 S_15 hq16) ⟨va_cnB (host := "WickNights") 2 hU (pq_g1 tc_X10_takeNumber) rfl rfl rfl (hw.nw 101 rfl) (hU _ tw2) cd_X10_takeNumber.2 ⟨Nat.le_of_ble_eq_true rfl, Nat.le_of_ble_eq_true rfl⟩, hU _ tw668, hU _ ts22⟩ (pw_preV hw Ta1 (by decide) rfl) rfl rfl hl.1 rfl (lv_room (Nat.le_of_ble_eq_true rfl)) dX1_readMoon_42 ⟨Nat.zero_le _, Nat.zero_le _⟩) hw (fun H locs hw hx18 => ?_)
  have Tq14 : TY S_15 q14 9 := ty_ext hx18 Tq14
  have Ta0 : TY S_15 a0 1 := ty_ext hx18 Ta0
  have Ta1 : TY S_15 a1 10 := ty_ext hx18 Ta1
  have hE : Ext S0 S_15 := Ext.tr hE hx18
  obtain ⟨S_19, hq20, hm⟩ := bd_some hm
  refine pw_cv (va_runVN (As := [.int r4, .int 1, .int r17]) (rest := []) ⟨hx, hb, hml, hown, hU⟩ (c_X9_put l C X n S_15 hw.wf _ q14 r4 1 r17 (Tq14) S_19 hq20) ⟨va_cnB (host := "WickNights") 3 hU (pq_g1 tc_X9_put) rfl rfl rfl (hw.nw 102 rfl) (hU _ tw5) cd_X9_put.2 ⟨Nat.le_of_ble_eq_true rfl, Nat.le_of_ble_eq_true rfl⟩, hU _ tw673, hU _ ts23⟩ (pw_preV hw Tq14 (by decide) rfl) rfl rfl hl.1 rfl (lv_room (Nat.le_of_ble_eq_true rfl)) dX1_readMoon_45 ⟨Nat.zero_le _, Nat.zero_le _⟩) hw (fun H locs hw hx21 => ?_)
  have Ta0 : TY S_19 a0 1 := ty_ext hx21 Ta0
  have Ta1 : TY S_19 a1 10 := ty_ext hx21 Ta1
  have hE : Ext S0 S_19 := Ext.tr hE hx21
  cases hm
  exact pw_vret hx hb hr hlk hw hE dX1_readMoon_48
abbrev rm_X2_read : Room := { frames := 71, cells := 0, slots := 0, locals := 1687 }
def m_X2_read (n : Nat) (a0 : Nat) (a1 : Nat) (S0 : pq_S) : Option pq_S := Option.bind (m_X2_readSum n a0 a1 0 (sI S0 203 a0 0)) fun S_1 => cb (m_X10_next n a1 S_1) fun r6 S_4 => if r6 = (-1) then some S_4 else Option.bind (m_X10_refuse n a1 1 (pI S_4 1003 a1) S_4) fun S_9 => some S_9
theorem tc_X2_read : Cond.code yX2_read cX2_read 2 none ∈ pq_U := tw740
theorem cd_X2_read : yX2_read.cls = RX2 ∧ yX2_read.cls ≠ "java/lang/invoke/MethodHandle" ∧ yX2_read.cls ≠ "java/lang/invoke/VarHandle" ∧ (parseMethodDescriptor yX2_read.desc).map (fun d => d.parameters.length) = some 1 := by decide +kernel
set_option maxHeartbeats 4000000 in
set_option maxRecDepth 100000 in
theorem c_X2_read (l : Launch) (C : pq_C) (X : va_W) (n : Nat) (S0 : pq_S) (hF : WF S0) (sz : Nat) (a0 : Nat) (a1 : Nat) (Ta0 : TY S0 a0 2) (Ta1 : TY S0 a1 10) (S1 : pq_S) (hm : m_X2_read n a0 a1 S0 = some S1) : MV l yX2_read (.code yX2_read cX2_read 2 none :: pq_U) rm_X2_read C X S0 sz [.ref a0, .ref a1] S1 0 0 := by
  refine Met.ofW (cc := cX2_read) (maxL := 2) (ret := none) (by decide) rfl ?_
  intro p e s m args below meth c s₁ B hml hv
  obtain ⟨rfl, hv⟩ := hv
  have hsz := hv.1
  subst hsz
  have hw := pw_entry hF hv
  have hts := atoms_spec (ws := .code yX2_read cX2_read 2 none :: pq_U) B.pre
  have hU : ∀ w ∈ pq_U, w.before _ s = true := fun w h => hts w (List.mem_cons_of_mem _ h)
  have hx := B.exec
  have hb := B.bytes
  have hr := B.returns
  have hown : s.vm.findClass RX2 = some m.cls := findClass_of_methodNamed B.named
  have hlk := B.notSynchronized
  have hl := lv_entry ([.ref a0, .ref a1]) (n := 2) (Nat.le_of_ble_eq_true rfl)
  rw [lg_entry_eq]
  generalize (lg_sl ([.ref a0, .ref a1]) ++ List.replicate (2 - (lg_sl ([.ref a0, .ref a1])).length) Slot.unset).toArray = ls at hl ⊢
  have hl : lv_has ls 2 [(0, .ref a0), (1, .ref a1)] := hl
  have hE : Ext S0 S0 := Ext.rf _
  have cx : Cx p s m _ meth c cX2_read 2 RX2 none := ⟨hx, hb, hml, hown, hU, hr, hlk⟩
  rw [m_X2_read] at hm
  refine lv_aload_n hx hb dX2_read_0 rfl (lv_at hl 0 rfl) ?_
  refine lv_iconst (v := 0) hx hb dX2_read_1 (by decide) ?_
  refine pp_i (k := 2) (j := 3) (f := 203) hx hb hown hU iu2 tyX2_ok nmX2 hw Ta0 (by decide) rfl (hU _ tw191) rfl rfl rfl dX2_read_2 (fun H locs hw => ?_)
  refine lv_aload_n hx hb dX2_read_5 rfl (lv_at hl 0 rfl) ?_
  refine lv_aload_n hx hb dX2_read_6 rfl (lv_at hl 1 rfl) ?_
  refine lv_iconst (v := 0) hx hb dX2_read_7 (by decide) ?_
  obtain ⟨S_1, hq2, hm⟩ := bd_some hm
  refine pw_cv (va_runV (As := [.ref a1, .int 0]) (rest := []) ⟨hx, hb, hml, hown, hU⟩ (c_X2_readSum l C X n (sI S0 203 a0 0) hw.wf _ a0 a1 0 (Ta0) (Ta1) S_1 hq2) (cwV 2 hU (pq_gV tw741 tw743 ts36 tw7 tc_X2_readSum) rfl rfl rfl cd_X2_readSum ⟨Nat.le_of_ble_eq_true rfl, Nat.le_of_ble_eq_true rfl⟩) (pw_preV hw Ta0 (by decide) rfl) rfl rfl hl.1 rfl (lv_room (Nat.le_of_ble_eq_true rfl)) dX2_read_8 ⟨Nat.zero_le _, Nat.zero_le _⟩) hw (fun H locs hw hx3 => ?_)
  have Ta0 : TY S_1 a0 2 := ty_ext hx3 Ta0
  have Ta1 : TY S_1 a1 10 := ty_ext hx3 Ta1
  have hE : Ext S0 S_1 := Ext.tr hE hx3
  refine lv_aload_n hx hb dX2_read_11 rfl (lv_at hl 1 rfl) ?_
  obtain ⟨r6, S_4, hq5, hm⟩ := cb_some hm
  refine pw_ci (va_runVN (As := []) (rest := []) ⟨hx, hb, hml, hown, hU⟩ (c_X10_next l C X n S_1 hw.wf _ a1 (Ta1) r6 S_4 hq5) ⟨va_cnB (host := "WickNights") 0 hU (pq_g1 tc_X10_next) rfl rfl rfl (hw.nw 113 rfl) (hU _ tw2) cd_X10_next.2 ⟨Nat.le_of_ble_eq_true rfl, Nat.le_of_ble_eq_true rfl⟩, hU _ tw572, hU _ ts12⟩ (pw_preV hw Ta1 (by decide) rfl) rfl rfl hl.1 rfl (lv_room (Nat.le_of_ble_eq_true rfl)) dX2_read_12 ⟨Nat.zero_le _, Nat.zero_le _⟩) hw (fun H locs hw hx7 => ?_)
  have Ta0 : TY S_4 a0 2 := ty_ext hx7 Ta0
  have Ta1 : TY S_4 a1 10 := ty_ext hx7 Ta1
  have hE : Ext S0 S_4 := Ext.tr hE hx7
  refine lv_iconst (v := (-1)) hx hb dX2_read_15 (by decide) ?_
  refine lv_icmp_eq (tgt := 28) hx hb dX2_read_16 (by decide) (fun h8 => ?_) (fun h8 => ?_)
  · rw [if_pos h8] at hm
    cases hm
    exact pw_vret hx hb hr hlk hw hE dX2_read_28
  · rw [if_neg h8] at hm
    refine lv_aload_n hx hb dX2_read_19 rfl (lv_at hl 1 rfl) ?_
    refine lv_iconst (v := 1) hx hb dX2_read_20 (by decide) ?_
    refine lv_aload_n hx hb dX2_read_21 rfl (lv_at hl 1 rfl) ?_
    refine pgN_i (k := 10) (j := 3) (f := 1003) hx hb hown hU iu10 hw Ta1 (by decide) rfl 2 rfl rfl dX2_read_22 ?_
    obtain ⟨S_9, hq10, hm⟩ := bd_some hm
    refine pw_cv (va_runVN (As := [.int 1, .int (pI S_4 1003 a1)]) (rest := []) ⟨hx, hb, hml, hown, hU⟩ (c_X10_refuse l C X n S_4 hw.wf _ a1 1 (pI S_4 1003 a1) (Ta1) S_9 hq10) ⟨va_cnB (host := "WickNights") 2 hU (pq_g1 tc_X10_refuse) rfl rfl rfl (hw.nw 118 rfl) (hU _ tw2) cd_X10_refuse.2 ⟨Nat.le_of_ble_eq_true rfl, Nat.le_of_ble_eq_true rfl⟩, hU _ tw586, hU _ ts15⟩ (pw_preV hw Ta1 (by decide) rfl) rfl rfl hl.1 rfl (lv_room (Nat.le_of_ble_eq_true rfl)) dX2_read_25 ⟨Nat.zero_le _, Nat.zero_le _⟩) hw (fun H locs hw hx11 => ?_)
    have Ta0 : TY S_9 a0 2 := ty_ext hx11 Ta0
    have Ta1 : TY S_9 a1 10 := ty_ext hx11 Ta1
    have hE : Ext S0 S_9 := Ext.tr hE hx11
    cases hm
    exact pw_vret hx hb hr hlk hw hE dX2_read_28
abbrev rm_X3_weigh : Room := { frames := 67, cells := 0, slots := 0, locals := 1865 }
def b_X3_weigh_36 (n : Nat) : Nat → Nat → Int32 → pq_S → Option pq_S
  | 0, _, _, _ => none
  | f + 1, a2, x3, S => if (Int32.ofNat (pN S a2)) ≤ x3 then some S else ck (ix x3 (pN S a2)) (dix _ _) (ck (ix (x3 - (1 : Int32)) (pN S a2)) (dix _ _) (ck (ix x3 (pN S a2)) (dix _ _) (lt_ (sA S a2 (Int32.toNatClampNeg x3) (if (pA S a2 (Int32.toNatClampNeg x3)) < (pA S a2 (Int32.toNatClampNeg (x3 - (1 : Int32)))) then (pA S a2 (Int32.toNatClampNeg (x3 - (1 : Int32)))) else (pA S a2 (Int32.toNatClampNeg x3)))) fun S_18 => b_X3_weigh_36 n f a2 (x3 + 1) S_18)))
set_option maxHeartbeats 4000000 in
set_option maxRecDepth 100000 in
theorem wb_X3_weigh_36 {p : Program} {l : Launch} {e : Env} {s : State} {m : MethodId} {args : Array Value} {below : List Frame} {meth : Method} {c : Code} (cx : Cx p s m args meth c cX3_weigh 4 RX3 none) (C : pq_C) (X : va_W) (S0 : pq_S) (n : Nat) (S1 : pq_S) : ∀ (f : Nat) (a2 : Nat) (x3 : Int32) (S : pq_S) (H : Heap) (locs : List Loc) (ls : Array Slot), PW C X S (pq_F C X S0 s.heap.size) H locs s → Ext S0 S → TY S a2 14 → lv_has ls 4 [(2, .ref a2), (3, .int x3)] → b_X3_weigh_36 n f a2 x3 S = some S1 → W p l e rm_X3_weigh s m args below meth c H locs 0 0 (MQ below (QcV C X S0 s.heap.size S1) args s 0 0 (pq_F C X S0 s.heap.size)) (F0 m 36 ls []) := by
  obtain ⟨hx, hb, hml, hown, hU, hr, hlk⟩ := id cx
  intro f
  induction f with
  | zero =>
    intro a2 x3 S H locs ls hw hE Ta2 hl hm
    cases hm
  | succ f ih =>
    intro a2 x3 S H locs ls hw hE Ta2 hl hm
    rw [b_X3_weigh_36] at hm
    refine lv_iload_n hx hb dX3_weigh_36 rfl (lv_at hl 1 rfl) ?_
    refine lv_aload_n hx hb dX3_weigh_37 rfl (lv_at hl 0 rfl) ?_
    refine pw_alenI (v := (Int32.ofNat (pN S a2))) hx hb hw Ta2 rfl dX3_weigh_38 ?_
    refine lv_icmp_ge (tgt := 62) hx hb dX3_weigh_39 (by decide) (fun h14 => ?_) (fun h14 => ?_)
    · rw [if_pos h14] at hm
      cases hm
      exact pw_vret hx hb hr hlk hw hE dX3_weigh_62
    · rw [if_neg h14] at hm
      refine lv_aload_n hx hb dX3_weigh_42 rfl (lv_at hl 0 rfl) ?_
      refine lv_iload_n hx hb dX3_weigh_43 rfl (lv_at hl 1 rfl) ?_
      refine lv_aload_n hx hb dX3_weigh_44 rfl (lv_at hl 0 rfl) ?_
      refine lv_iload_n hx hb dX3_weigh_45 rfl (lv_at hl 1 rfl) ?_
      obtain ⟨hi15, hm⟩ := ck_some hm
      refine pw_iald hx hb hw Ta2 hi15 dX3_weigh_46 ?_
      refine lv_aload_n hx hb dX3_weigh_47 rfl (lv_at hl 0 rfl) ?_
      refine lv_iload_n hx hb dX3_weigh_48 rfl (lv_at hl 1 rfl) ?_
      refine lv_iconst (v := 1) hx hb dX3_weigh_49 (by decide) ?_
      refine lv_isub hx hb dX3_weigh_50 ?_
      obtain ⟨hi16, hm⟩ := ck_some hm
      refine pw_iald hx hb hw Ta2 hi16 dX3_weigh_51 ?_
      refine va_mmax hx hb (by rw [hml]; exact hl.1.symm) hown (hU _ tw1100) (hU _ twm_max_s) (hU _ twm_i) (hU _ twm_max_c) (Nat.le_of_ble_eq_true rfl) (Nat.le_of_ble_eq_true rfl) (Nat.zero_le _) (Nat.zero_le _) dX3_weigh_52 ?_
      obtain ⟨hi17, hm⟩ := ck_some hm
      refine pw_iast hx hb hw Ta2 hi17 dX3_weigh_55 (fun H locs hw => ?_)
      obtain ⟨S_18, eS_18, hm⟩ := lt_some hm
      rw [← eS_18] at hw
      have Ta2 : TY S_18 a2 14 := by rw [eS_18]; exact Ta2
      have hE : Ext S0 S_18 := by rw [eS_18]; exact hE
      refine lv_iinc (v := (x3 + 1)) (lv' := [(3, .int (x3 + 1)), (2, .ref a2)]) hx hb dX3_weigh_56 hl (k := 1) rfl rfl (by decide) rfl (fun ls hl => ?_)
      refine lv_goto (tgt := 36) hx hb dX3_weigh_59 (by decide) ?_
      exact ih a2 (x3 + 1) S_18 _ _ _ hw hE Ta2 (lv_sub hl [1, 0] rfl) hm
def m_X3_weigh (n : Nat) (a0 : Nat) (x1 : Int32) (a2 : Nat) (S0 : pq_S) : Option pq_S := Option.bind (m_J7_fill_53178 n a2 4095 S0) fun S_1 => Option.bind (pR S_1 300 a0) fun q4 => Option.bind (pR S_1 701 q4) fun q5 => Option.bind (pR S_1 800 q5) fun q6 => cb (m_X9_at n q6 x1 1 S_1) fun r9 S_7 => Option.bind (m_X3_tryWants n a0 x1 0 a2 0 (-r9) 4095 S_7) fun S_11 => b_X3_weigh_36 n n a2 1 S_11
theorem tc_X3_weigh : Cond.code yX3_weigh cX3_weigh 4 none ∈ pq_U := tw1093
theorem cd_X3_weigh : yX3_weigh.cls = RX3 ∧ yX3_weigh.cls ≠ "java/lang/invoke/MethodHandle" ∧ yX3_weigh.cls ≠ "java/lang/invoke/VarHandle" ∧ (parseMethodDescriptor yX3_weigh.desc).map (fun d => d.parameters.length) = some 2 := by decide +kernel
set_option maxHeartbeats 4000000 in
set_option maxRecDepth 100000 in
theorem c_X3_weigh (l : Launch) (C : pq_C) (X : va_W) (n : Nat) (S0 : pq_S) (hF : WF S0) (sz : Nat) (a0 : Nat) (x1 : Int32) (a2 : Nat) (Ta0 : TY S0 a0 3) (Ta2 : TY S0 a2 14) (S1 : pq_S) (hm : m_X3_weigh n a0 x1 a2 S0 = some S1) : MV l yX3_weigh (.code yX3_weigh cX3_weigh 4 none :: pq_U) rm_X3_weigh C X S0 sz [.ref a0, .int x1, .ref a2] S1 0 0 := by
  refine Met.ofW (cc := cX3_weigh) (maxL := 4) (ret := none) (by decide) rfl ?_
  intro p e s m args below meth c s₁ B hml hv
  obtain ⟨rfl, hv⟩ := hv
  have hsz := hv.1
  subst hsz
  have hw := pw_entry hF hv
  have hts := atoms_spec (ws := .code yX3_weigh cX3_weigh 4 none :: pq_U) B.pre
  have hU : ∀ w ∈ pq_U, w.before _ s = true := fun w h => hts w (List.mem_cons_of_mem _ h)
  have hx := B.exec
  have hb := B.bytes
  have hr := B.returns
  have hown : s.vm.findClass RX3 = some m.cls := findClass_of_methodNamed B.named
  have hlk := B.notSynchronized
  have hl := lv_entry ([.ref a0, .int x1, .ref a2]) (n := 4) (Nat.le_of_ble_eq_true rfl)
  rw [lg_entry_eq]
  generalize (lg_sl ([.ref a0, .int x1, .ref a2]) ++ List.replicate (4 - (lg_sl ([.ref a0, .int x1, .ref a2])).length) Slot.unset).toArray = ls at hl ⊢
  have hl : lv_has ls 4 [(0, .ref a0), (1, .int x1), (2, .ref a2)] := hl
  have hE : Ext S0 S0 := Ext.rf _
  have cx : Cx p s m _ meth c cX3_weigh 4 RX3 none := ⟨hx, hb, hml, hown, hU, hr, hlk⟩
  rw [m_X3_weigh] at hm
  refine lv_aload_n hx hb dX3_weigh_0 rfl (lv_at hl 2 rfl) ?_
  refine lv_sipush (v := 4095) hx hb dX3_weigh_1 (by decide) ?_
  obtain ⟨S_1, hq2, hm⟩ := bd_some hm
  refine pw_cv (va_runS (As := [.ref a2, .int 4095]) (rest := []) ⟨hx, hb, hml, hown, hU⟩ (c_J7_fill_53178 l C X n S0 hw.wf _ a2 4095 (Ta2) S_1 hq2) ⟨callB_of 2 hU (pq_g1 tc_J7_fill_53178) rfl rfl rfl (hU _ tw12) (hU _ tw1094) cd_J7_fill_53178.2 ⟨Nat.le_of_ble_eq_true rfl, Nat.le_of_ble_eq_true rfl⟩, hU _ tw336⟩ (pw_preS hw) rfl rfl hl.1 rfl (lv_room (Nat.le_of_ble_eq_true rfl)) dX3_weigh_4 ⟨Nat.zero_le _, Nat.zero_le _⟩) hw (fun H locs hw hx3 => ?_)
  have Ta0 : TY S_1 a0 3 := ty_ext hx3 Ta0
  have Ta2 : TY S_1 a2 14 := ty_ext hx3 Ta2
  have hE : Ext S0 S_1 := Ext.tr hE hx3
  refine lv_aload_n hx hb dX3_weigh_7 rfl (lv_at hl 0 rfl) ?_
  refine lv_iload_n hx hb dX3_weigh_8 rfl (lv_at hl 1 rfl) ?_
  refine lv_iconst (v := 0) hx hb dX3_weigh_9 (by decide) ?_
  refine lv_aload_n hx hb dX3_weigh_10 rfl (lv_at hl 2 rfl) ?_
  refine lv_iconst (v := 0) hx hb dX3_weigh_11 (by decide) ?_
  refine lv_aload_n hx hb dX3_weigh_12 rfl (lv_at hl 0 rfl) ?_
  obtain ⟨q4, hq4, hm⟩ := bd_some hm
  have Tq4 : TY S_1 q4 7 := hw.wf.ref (k := 3) (j := 0) Ta0 (by decide) (by decide) hq4
  refine pg_rb (k := 3) (j := 0) (f := 300) hx hb hown hU iu3 hw Ta0 (by decide) rfl (hU _ tw239) rfl hq4 dX3_weigh_13 ?_
  obtain ⟨q5, hq5, hm⟩ := bd_some hm
  have Tq5 : TY S_1 q5 8 := hw.wf.ref (k := 7) (j := 1) Tq4 (by decide) (by decide) hq5
  refine pgN_rb (k := 7) (j := 1) (f := 701) hx hb hown hU iu7 hw Tq4 (by decide) rfl 58 rfl rfl hq5 dX3_weigh_16 ?_
  obtain ⟨q6, hq6, hm⟩ := bd_some hm
  have Tq6 : TY S_1 q6 9 := hw.wf.ref (k := 8) (j := 0) Tq5 (by decide) (by decide) hq6
  refine pgN_rb (k := 8) (j := 0) (f := 800) hx hb hown hU iu8 hw Tq5 (by decide) rfl 42 rfl rfl hq6 dX3_weigh_19 ?_
  refine lv_iload_n hx hb dX3_weigh_22 rfl (lv_at hl 1 rfl) ?_
  refine lv_iconst (v := 1) hx hb dX3_weigh_23 (by decide) ?_
  obtain ⟨r9, S_7, hq8, hm⟩ := cb_some hm
  refine pw_ci (va_runVN (As := [.int x1, .int 1]) (rest := [.int 0, .ref a2, .int 0, .int x1, .ref a0]) ⟨hx, hb, hml, hown, hU⟩ (c_X9_at l C X n S_1 hw.wf _ q6 x1 1 (Tq6) r9 S_7 hq8) ⟨va_cnB (host := "WickNights") 2 hU (pq_g1 tc_X9_at) rfl rfl rfl (hw.nw 164 rfl) (hU _ tw5) cd_X9_at.2 ⟨Nat.le_of_ble_eq_true rfl, Nat.le_of_ble_eq_true rfl⟩, hU _ tw719, hU _ ts32⟩ (pw_preV hw Tq6 (by decide) rfl) rfl rfl hl.1 rfl (lv_room (Nat.le_of_ble_eq_true rfl)) dX3_weigh_24 ⟨Nat.zero_le _, Nat.zero_le _⟩) hw (fun H locs hw hx10 => ?_)
  have Ta0 : TY S_7 a0 3 := ty_ext hx10 Ta0
  have Ta2 : TY S_7 a2 14 := ty_ext hx10 Ta2
  have hE : Ext S0 S_7 := Ext.tr hE hx10
  refine lv_ineg hx hb dX3_weigh_27 ?_
  refine lv_sipush (v := 4095) hx hb dX3_weigh_28 (by decide) ?_
  obtain ⟨S_11, hq12, hm⟩ := bd_some hm
  refine pw_cv (va_runV (As := [.int x1, .int 0, .ref a2, .int 0, .int (-r9), .int 4095]) (rest := []) ⟨hx, hb, hml, hown, hU⟩ (c_X3_tryWants l C X n S_7 hw.wf _ a0 x1 0 a2 0 (-r9) 4095 (Ta0) (Ta2) S_11 hq12) (cwV 6 hU (pq_gV tw1096 tw1098 ts85 tw8 tc_X3_tryWants) rfl rfl rfl cd_X3_tryWants ⟨Nat.le_of_ble_eq_true rfl, Nat.le_of_ble_eq_true rfl⟩) (pw_preV hw Ta0 (by decide) rfl) rfl rfl hl.1 rfl (lv_room (Nat.le_of_ble_eq_true rfl)) dX3_weigh_31 ⟨Nat.zero_le _, Nat.zero_le _⟩) hw (fun H locs hw hx13 => ?_)
  have Ta0 : TY S_11 a0 3 := ty_ext hx13 Ta0
  have Ta2 : TY S_11 a2 14 := ty_ext hx13 Ta2
  have hE : Ext S0 S_11 := Ext.tr hE hx13
  refine lv_iconst (v := 1) hx hb dX3_weigh_34 (by decide) ?_
  refine lv_istore_n (lv' := [(3, .int 1), (0, .ref a0), (1, .int x1), (2, .ref a2)]) hx hb dX3_weigh_35 rfl hl (by decide) rfl (fun ls hl => ?_)
  exact wb_X3_weigh_36 cx C X S0 n S1 n a2 1 S_11 _ _ _ hw hE Ta2 (lv_sub hl [3, 0] rfl) hm
abbrev rm_X3_bestWorth : Room := { frames := 68, cells := 0, slots := 0, locals := 1888 }
def b_X3_bestWorth_60 (n : Nat) (k4 : Nat → Int32 → Int32 → Int32 → Int32 → pq_S → Option (Int32 × pq_S)) (a0 : Nat) (x1 : Int32) (x2 : Int32) (x3 : Int32) (x4 : Int32) (z0 : Int32) (z1 : Int32) (S : pq_S) : Option (Int32 × pq_S) := Option.bind (pR S 301 a0) fun q17 => cb (m_X3_bestBy n q17 (z0 + z1) S) fun r20 S_18 => cb (m_X3_worthOf n r20 S_18) fun r24 S_22 => k4 a0 x1 x2 (x3 + r24) (x4 + 1) S_22
set_option maxHeartbeats 4000000 in
set_option maxRecDepth 100000 in
theorem wb_X3_bestWorth_60 {p : Program} {l : Launch} {e : Env} {s : State} {m : MethodId} {args : Array Value} {below : List Frame} {meth : Method} {c : Code} (cx : Cx p s m args meth c cX3_bestWorth 6 RX3 (some .int)) (C : pq_C) (X : va_W) (S0 : pq_S) (n : Nat) (r : Int32) (S1 : pq_S) (k4 : Nat → Int32 → Int32 → Int32 → Int32 → pq_S → Option (Int32 × pq_S)) (hk4 : ∀ (a0 : Nat) (x1 : Int32) (x2 : Int32) (x3 : Int32) (x4 : Int32) (S : pq_S) (H : Heap) (locs : List Loc) (ls : Array Slot), PW C X S (pq_F C X S0 s.heap.size) H locs s → Ext S0 S → TY S a0 3 → lv_has ls 6 [(0, .ref a0), (1, .int x1), (2, .int x2), (3, .int x3), (4, .int x4)] → k4 a0 x1 x2 x3 x4 S = some (r, S1) → W p l e rm_X3_bestWorth s m args below meth c H locs 0 0 (MQ below (QcI C X S0 s.heap.size r S1) args s 0 0 (pq_F C X S0 s.heap.size)) (F0 m 5 ls [])) : ∀ (a0 : Nat) (x1 : Int32) (x2 : Int32) (x3 : Int32) (x4 : Int32) (z0 : Int32) (z1 : Int32) (S : pq_S) (H : Heap) (locs : List Loc) (ls : Array Slot), PW C X S (pq_F C X S0 s.heap.size) H locs s → Ext S0 S → TY S a0 3 → lv_has ls 6 [(0, .ref a0), (1, .int x1), (2, .int x2), (3, .int x3), (4, .int x4)] → b_X3_bestWorth_60 n k4 a0 x1 x2 x3 x4 z0 z1 S = some (r, S1) → W p l e rm_X3_bestWorth s m args below meth c H locs 0 0 (MQ below (QcI C X S0 s.heap.size r S1) args s 0 0 (pq_F C X S0 s.heap.size)) (F0 m 60 ls [.int z1, .int z0]) := by
  obtain ⟨hx, hb, hml, hown, hU, hr, hlk⟩ := id cx
  intro a0 x1 x2 x3 x4 z0 z1 S H locs ls hw hE Ta0 hl hm
  rw [b_X3_bestWorth_60] at hm
  refine lv_iadd hx hb dX3_bestWorth_60 ?_
  refine lv_istore (lv' := [(5, .int (z0 + z1)), (0, .ref a0), (1, .int x1), (2, .int x2), (3, .int x3), (4, .int x4)]) hx hb dX3_bestWorth_61 hl (by decide) rfl (fun ls hl => ?_)
  refine lv_iload_n hx hb dX3_bestWorth_63 rfl (lv_at hl 4 rfl) ?_
  refine lv_aload_n hx hb dX3_bestWorth_64 rfl (lv_at hl 1 rfl) ?_
  obtain ⟨q17, hq17, hm⟩ := bd_some hm
  have Tq17 : TY S q17 14 := hw.wf.ref (k := 3) (j := 1) Ta0 (by decide) (by decide) hq17
  refine pg_rb (k := 3) (j := 1) (f := 301) hx hb hown hU iu3 hw Ta0 (by decide) rfl (hU _ tw240) rfl hq17 dX3_bestWorth_65 ?_
  refine lv_iload hx hb dX3_bestWorth_68 (lv_at hl 0 rfl) ?_
  obtain ⟨r20, S_18, hq19, hm⟩ := cb_some hm
  refine pw_ci (va_runS (As := [.ref q17, .int (z0 + z1)]) (rest := [.int x3]) ⟨hx, hb, hml, hown, hU⟩ (c_X3_bestBy l C X n S hw.wf _ q17 (z0 + z1) (Tq17) r20 S_18 hq19) ⟨callB_of 2 hU (pq_g1 tc_X3_bestBy) rfl rfl rfl (hU _ tw8) (hU _ tw1102) cd_X3_bestBy.2 ⟨Nat.le_of_ble_eq_true rfl, Nat.le_of_ble_eq_true rfl⟩, hU _ tw1103⟩ (pw_preS hw) rfl rfl hl.1 rfl (lv_room (Nat.le_of_ble_eq_true rfl)) dX3_bestWorth_70 ⟨Nat.zero_le _, Nat.zero_le _⟩) hw (fun H locs hw hx21 => ?_)
  have Ta0 : TY S_18 a0 3 := ty_ext hx21 Ta0
  have hE : Ext S0 S_18 := Ext.tr hE hx21
  obtain ⟨r24, S_22, hq23, hm⟩ := cb_some hm
  refine pw_ci (va_runS (As := [.int r20]) (rest := [.int x3]) ⟨hx, hb, hml, hown, hU⟩ (c_X3_worthOf l C X n S_18 hw.wf _ r20  r24 S_22 hq23) ⟨callB_of 1 hU (pq_g1 tc_X3_worthOf) rfl rfl rfl (hU _ tw8) (hU _ tw1106) cd_X3_worthOf.2 ⟨Nat.le_of_ble_eq_true rfl, Nat.le_of_ble_eq_true rfl⟩, hU _ tw1107⟩ (pw_preS hw) rfl rfl hl.1 rfl (lv_room (Nat.le_of_ble_eq_true rfl)) dX3_bestWorth_73 ⟨Nat.zero_le _, Nat.zero_le _⟩) hw (fun H locs hw hx25 => ?_)
  have Ta0 : TY S_22 a0 3 := ty_ext hx25 Ta0
  have hE : Ext S0 S_22 := Ext.tr hE hx25
  refine lv_iadd hx hb dX3_bestWorth_76 ?_
  refine lv_istore_n (lv' := [(3, .int (x3 + r24)), (5, .int (z0 + z1)), (0, .ref a0), (1, .int x1), (2, .int x2), (4, .int x4)]) hx hb dX3_bestWorth_77 rfl hl (by decide) rfl (fun ls hl => ?_)
  refine lv_iinc (v := (x4 + 1)) (lv' := [(4, .int (x4 + 1)), (3, .int (x3 + r24)), (5, .int (z0 + z1)), (0, .ref a0), (1, .int x1), (2, .int x2)]) hx hb dX3_bestWorth_78 hl (k := 5) rfl rfl (by decide) rfl (fun ls hl => ?_)
  refine lv_goto (tgt := 5) hx hb dX3_bestWorth_81 (by decide) ?_
  exact hk4 a0 x1 x2 (x3 + r24) (x4 + 1) S_22 _ _ _ hw hE Ta0 (lv_sub hl [3, 4, 5, 1, 0] rfl) hm
def b_X3_bestWorth_5 (n : Nat) : Nat → Nat → Int32 → Int32 → Int32 → Int32 → pq_S → Option (Int32 × pq_S)
  | 0, _, _, _, _, _, _ => none
  | f + 1, a0, x1, x2, x3, x4, S => Option.bind (pR S 300 a0) fun q1 => Option.bind (pR S 700 q1) fun q2 => Option.bind (pR S 100 q2) fun q3 => if (pI S 902 q3) ≤ x4 then some (x3, S) else Option.bind (pR S 301 a0) fun q5 => Option.bind (m_X3_weigh n a0 x4 q5 S) fun S_6 => Option.bind (pR S_6 300 a0) fun q9 => Option.bind (pR S_6 701 q9) fun q10 => Option.bind (pR S_6 800 q10) fun q11 => cb (m_X9_at n q11 x4 0 S_6) fun r14 S_12 => if x4 = x1 then b_X3_bestWorth_60 n (b_X3_bestWorth_5 n f) a0 x1 x2 x3 x4 r14 x2 S_12 else b_X3_bestWorth_60 n (b_X3_bestWorth_5 n f) a0 x1 x2 x3 x4 r14 0 S_12
set_option maxHeartbeats 4000000 in
set_option maxRecDepth 100000 in
theorem wb_X3_bestWorth_5 {p : Program} {l : Launch} {e : Env} {s : State} {m : MethodId} {args : Array Value} {below : List Frame} {meth : Method} {c : Code} (cx : Cx p s m args meth c cX3_bestWorth 6 RX3 (some .int)) (C : pq_C) (X : va_W) (S0 : pq_S) (n : Nat) (r : Int32) (S1 : pq_S) : ∀ (f : Nat) (a0 : Nat) (x1 : Int32) (x2 : Int32) (x3 : Int32) (x4 : Int32) (S : pq_S) (H : Heap) (locs : List Loc) (ls : Array Slot), PW C X S (pq_F C X S0 s.heap.size) H locs s → Ext S0 S → TY S a0 3 → lv_has ls 6 [(0, .ref a0), (1, .int x1), (2, .int x2), (3, .int x3), (4, .int x4)] → b_X3_bestWorth_5 n f a0 x1 x2 x3 x4 S = some (r, S1) → W p l e rm_X3_bestWorth s m args below meth c H locs 0 0 (MQ below (QcI C X S0 s.heap.size r S1) args s 0 0 (pq_F C X S0 s.heap.size)) (F0 m 5 ls []) := by
  obtain ⟨hx, hb, hml, hown, hU, hr, hlk⟩ := id cx
  intro f
  induction f with
  | zero =>
    intro a0 x1 x2 x3 x4 S H locs ls hw hE Ta0 hl hm
    cases hm
  | succ f ih =>
    intro a0 x1 x2 x3 x4 S H locs ls hw hE Ta0 hl hm
    rw [b_X3_bestWorth_5] at hm
    refine lv_iload hx hb dX3_bestWorth_5 (lv_at hl 4 rfl) ?_
    refine lv_aload_n hx hb dX3_bestWorth_7 rfl (lv_at hl 0 rfl) ?_
    obtain ⟨q1, hq1, hm⟩ := bd_some hm
    have Tq1 : TY S q1 7 := hw.wf.ref (k := 3) (j := 0) Ta0 (by decide) (by decide) hq1
    refine pg_rb (k := 3) (j := 0) (f := 300) hx hb hown hU iu3 hw Ta0 (by decide) rfl (hU _ tw239) rfl hq1 dX3_bestWorth_8 ?_
    obtain ⟨q2, hq2, hm⟩ := bd_some hm
    have Tq2 : TY S q2 1 := hw.wf.ref (k := 7) (j := 0) Tq1 (by decide) (by decide) hq2
    refine pgN_rb (k := 7) (j := 0) (f := 700) hx hb hown hU iu7 hw Tq1 (by decide) rfl 57 rfl rfl hq2 dX3_bestWorth_11 ?_
    obtain ⟨q3, hq3, hm⟩ := bd_some hm
    have Tq3 : TY S q3 9 := hw.wf.ref (k := 1) (j := 0) Tq2 (by decide) (by decide) hq3
    refine pgN_rb (k := 1) (j := 0) (f := 100) hx hb hown hU iu1 hw Tq2 (by decide) rfl 25 rfl rfl hq3 dX3_bestWorth_14 ?_
    refine pgN_i (k := 9) (j := 2) (f := 902) hx hb hown hU iu9 hw Tq3 (by decide) rfl 17 rfl rfl dX3_bestWorth_17 ?_
    refine lv_icmp_ge (tgt := 84) hx hb dX3_bestWorth_20 (by decide) (fun h4 => ?_) (fun h4 => ?_)
    · rw [if_pos h4] at hm
      refine lv_iload_n hx hb dX3_bestWorth_84 rfl (lv_at hl 3 rfl) ?_
      cases hm
      exact pw_iret hx hb hr rfl hlk hw hE dX3_bestWorth_85
    · rw [if_neg h4] at hm
      refine lv_aload_n hx hb dX3_bestWorth_23 rfl (lv_at hl 0 rfl) ?_
      refine lv_iload hx hb dX3_bestWorth_24 (lv_at hl 4 rfl) ?_
      refine lv_aload_n hx hb dX3_bestWorth_26 rfl (lv_at hl 0 rfl) ?_
      obtain ⟨q5, hq5, hm⟩ := bd_some hm
      have Tq5 : TY S q5 14 := hw.wf.ref (k := 3) (j := 1) Ta0 (by decide) (by decide) hq5
      refine pg_rb (k := 3) (j := 1) (f := 301) hx hb hown hU iu3 hw Ta0 (by decide) rfl (hU _ tw240) rfl hq5 dX3_bestWorth_27 ?_
      obtain ⟨S_6, hq7, hm⟩ := bd_some hm
      refine pw_cv (va_runV (As := [.int x4, .ref q5]) (rest := []) ⟨hx, hb, hml, hown, hU⟩ (c_X3_weigh l C X n S hw.wf _ a0 x4 q5 (Ta0) (Tq5) S_6 hq7) (cwV 2 hU (pq_gV tw1090 tw1092 ts84 tw8 tc_X3_weigh) rfl rfl rfl cd_X3_weigh ⟨Nat.le_of_ble_eq_true rfl, Nat.le_of_ble_eq_true rfl⟩) (pw_preV hw Ta0 (by decide) rfl) rfl rfl hl.1 rfl (lv_room (Nat.le_of_ble_eq_true rfl)) dX3_bestWorth_30 ⟨Nat.zero_le _, Nat.zero_le _⟩) hw (fun H locs hw hx8 => ?_)
      have Ta0 : TY S_6 a0 3 := ty_ext hx8 Ta0
      have hE : Ext S0 S_6 := Ext.tr hE hx8
      refine lv_aload_n hx hb dX3_bestWorth_33 rfl (lv_at hl 0 rfl) ?_
      obtain ⟨q9, hq9, hm⟩ := bd_some hm
      have Tq9 : TY S_6 q9 7 := hw.wf.ref (k := 3) (j := 0) Ta0 (by decide) (by decide) hq9
      refine pg_rb (k := 3) (j := 0) (f := 300) hx hb hown hU iu3 hw Ta0 (by decide) rfl (hU _ tw239) rfl hq9 dX3_bestWorth_34 ?_
      obtain ⟨q10, hq10, hm⟩ := bd_some hm
      have Tq10 : TY S_6 q10 8 := hw.wf.ref (k := 7) (j := 1) Tq9 (by decide) (by decide) hq10
      refine pgN_rb (k := 7) (j := 1) (f := 701) hx hb hown hU iu7 hw Tq9 (by decide) rfl 58 rfl rfl hq10 dX3_bestWorth_37 ?_
      obtain ⟨q11, hq11, hm⟩ := bd_some hm
      have Tq11 : TY S_6 q11 9 := hw.wf.ref (k := 8) (j := 0) Tq10 (by decide) (by decide) hq11
      refine pgN_rb (k := 8) (j := 0) (f := 800) hx hb hown hU iu8 hw Tq10 (by decide) rfl 42 rfl rfl hq11 dX3_bestWorth_40 ?_
      refine lv_iload hx hb dX3_bestWorth_43 (lv_at hl 4 rfl) ?_
      refine lv_iconst (v := 0) hx hb dX3_bestWorth_45 (by decide) ?_
      obtain ⟨r14, S_12, hq13, hm⟩ := cb_some hm
      refine pw_ci (va_runVN (As := [.int x4, .int 0]) (rest := []) ⟨hx, hb, hml, hown, hU⟩ (c_X9_at l C X n S_6 hw.wf _ q11 x4 0 (Tq11) r14 S_12 hq13) ⟨va_cnB (host := "WickNights") 2 hU (pq_g1 tc_X9_at) rfl rfl rfl (hw.nw 164 rfl) (hU _ tw5) cd_X9_at.2 ⟨Nat.le_of_ble_eq_true rfl, Nat.le_of_ble_eq_true rfl⟩, hU _ tw719, hU _ ts32⟩ (pw_preV hw Tq11 (by decide) rfl) rfl rfl hl.1 rfl (lv_room (Nat.le_of_ble_eq_true rfl)) dX3_bestWorth_46 ⟨Nat.zero_le _, Nat.zero_le _⟩) hw (fun H locs hw hx15 => ?_)
      have Ta0 : TY S_12 a0 3 := ty_ext hx15 Ta0
      have hE : Ext S0 S_12 := Ext.tr hE hx15
      refine lv_iload hx hb dX3_bestWorth_49 (lv_at hl 4 rfl) ?_
      refine lv_iload_n hx hb dX3_bestWorth_51 rfl (lv_at hl 1 rfl) ?_
      refine lv_icmp_ne (tgt := 59) hx hb dX3_bestWorth_52 (by decide) (fun h16 => ?_) (fun h16 => ?_)
      · rw [if_neg h16] at hm
        refine lv_iconst (v := 0) hx hb dX3_bestWorth_59 (by decide) ?_
        exact wb_X3_bestWorth_60 cx C X S0 n r S1 _ ih a0 x1 x2 x3 x4 r14 0 S_12 _ _ _ hw hE Ta0 (lv_sub hl [0, 1, 2, 3, 4] rfl) hm
      · rw [if_pos h16] at hm
        refine lv_iload_n hx hb dX3_bestWorth_55 rfl (lv_at hl 2 rfl) ?_
        refine lv_goto (tgt := 60) hx hb dX3_bestWorth_56 (by decide) ?_
        exact wb_X3_bestWorth_60 cx C X S0 n r S1 _ ih a0 x1 x2 x3 x4 r14 x2 S_12 _ _ _ hw hE Ta0 (lv_sub hl [0, 1, 2, 3, 4] rfl) hm
def m_X3_bestWorth (n : Nat) (a0 : Nat) (x1 : Int32) (x2 : Int32) (S0 : pq_S) : Option (Int32 × pq_S) := b_X3_bestWorth_5 n n a0 x1 x2 0 0 S0
theorem tc_X3_bestWorth : Cond.code yX3_bestWorth cX3_bestWorth 6 (some .int) ∈ pq_U := tw1089
theorem cd_X3_bestWorth : yX3_bestWorth.cls = RX3 ∧ yX3_bestWorth.cls ≠ "java/lang/invoke/MethodHandle" ∧ yX3_bestWorth.cls ≠ "java/lang/invoke/VarHandle" ∧ (parseMethodDescriptor yX3_bestWorth.desc).map (fun d => d.parameters.length) = some 2 := by decide +kernel
set_option maxHeartbeats 4000000 in
set_option maxRecDepth 100000 in
theorem c_X3_bestWorth (l : Launch) (C : pq_C) (X : va_W) (n : Nat) (S0 : pq_S) (hF : WF S0) (sz : Nat) (a0 : Nat) (x1 : Int32) (x2 : Int32) (Ta0 : TY S0 a0 3) (r : Int32) (S1 : pq_S) (hm : m_X3_bestWorth n a0 x1 x2 S0 = some (r, S1)) : MI l yX3_bestWorth (.code yX3_bestWorth cX3_bestWorth 6 (some .int) :: pq_U) rm_X3_bestWorth C X S0 sz [.ref a0, .int x1, .int x2] r S1 0 0 := by
  refine Met.ofW (cc := cX3_bestWorth) (maxL := 6) (ret := (some .int)) (by decide) rfl ?_
  intro p e s m args below meth c s₁ B hml hv
  obtain ⟨rfl, hv⟩ := hv
  have hsz := hv.1
  subst hsz
  have hw := pw_entry hF hv
  have hts := atoms_spec (ws := .code yX3_bestWorth cX3_bestWorth 6 (some .int) :: pq_U) B.pre
  have hU : ∀ w ∈ pq_U, w.before _ s = true := fun w h => hts w (List.mem_cons_of_mem _ h)
  have hx := B.exec
  have hb := B.bytes
  have hr := B.returns
  have hown : s.vm.findClass RX3 = some m.cls := findClass_of_methodNamed B.named
  have hlk := B.notSynchronized
  have hl := lv_entry ([.ref a0, .int x1, .int x2]) (n := 6) (Nat.le_of_ble_eq_true rfl)
  rw [lg_entry_eq]
  generalize (lg_sl ([.ref a0, .int x1, .int x2]) ++ List.replicate (6 - (lg_sl ([.ref a0, .int x1, .int x2])).length) Slot.unset).toArray = ls at hl ⊢
  have hl : lv_has ls 6 [(0, .ref a0), (1, .int x1), (2, .int x2)] := hl
  have hE : Ext S0 S0 := Ext.rf _
  have cx : Cx p s m _ meth c cX3_bestWorth 6 RX3 (some .int) := ⟨hx, hb, hml, hown, hU, hr, hlk⟩
  rw [m_X3_bestWorth] at hm
  refine lv_iconst (v := 0) hx hb dX3_bestWorth_0 (by decide) ?_
  refine lv_istore_n (lv' := [(3, .int 0), (0, .ref a0), (1, .int x1), (2, .int x2)]) hx hb dX3_bestWorth_1 rfl hl (by decide) rfl (fun ls hl => ?_)
  refine lv_iconst (v := 0) hx hb dX3_bestWorth_2 (by decide) ?_
  refine lv_istore (lv' := [(4, .int 0), (3, .int 0), (0, .ref a0), (1, .int x1), (2, .int x2)]) hx hb dX3_bestWorth_3 hl (by decide) rfl (fun ls hl => ?_)
  exact wb_X3_bestWorth_5 cx C X S0 n r S1 n a0 x1 x2 0 0 S0 _ _ _ hw hE Ta0 (lv_sub hl [2, 3, 4, 1, 0] rfl) hm
abbrev rm_X3_bestBits : Room := { frames := 68, cells := 0, slots := 0, locals := 1888 }
def b_X3_bestBits_4 (n : Nat) : Nat → Nat → Int32 → Int32 → pq_S → Option (Int32 × pq_S)
  | 0, _, _, _, _ => none
  | f + 1, a0, x1, x2, S => Option.bind (pR S 300 a0) fun q1 => Option.bind (pR S 700 q1) fun q2 => Option.bind (pR S 100 q2) fun q3 => if (pI S 902 q3) ≤ x2 then some (x1, S) else Option.bind (pR S 301 a0) fun q5 => Option.bind (m_X3_weigh n a0 x2 q5 S) fun S_6 => Option.bind (pR S_6 301 a0) fun q9 => Option.bind (pR S_6 300 a0) fun q10 => Option.bind (pR S_6 701 q10) fun q11 => Option.bind (pR S_6 800 q11) fun q12 => cb (m_X9_at n q12 x2 0 S_6) fun r15 S_13 => cb (m_X3_bestBy n q9 r15 S_13) fun r19 S_17 => cb (m_X3_bitsOf n r19 S_17) fun r23 S_21 => b_X3_bestBits_4 n f a0 (x1 ||| r23) (x2 + 1) S_21
set_option maxHeartbeats 4000000 in
set_option maxRecDepth 100000 in
theorem wb_X3_bestBits_4 {p : Program} {l : Launch} {e : Env} {s : State} {m : MethodId} {args : Array Value} {below : List Frame} {meth : Method} {c : Code} (cx : Cx p s m args meth c cX3_bestBits 3 RX3 (some .int)) (C : pq_C) (X : va_W) (S0 : pq_S) (n : Nat) (r : Int32) (S1 : pq_S) : ∀ (f : Nat) (a0 : Nat) (x1 : Int32) (x2 : Int32) (S : pq_S) (H : Heap) (locs : List Loc) (ls : Array Slot), PW C X S (pq_F C X S0 s.heap.size) H locs s → Ext S0 S → TY S a0 3 → lv_has ls 3 [(0, .ref a0), (1, .int x1), (2, .int x2)] → b_X3_bestBits_4 n f a0 x1 x2 S = some (r, S1) → W p l e rm_X3_bestBits s m args below meth c H locs 0 0 (MQ below (QcI C X S0 s.heap.size r S1) args s 0 0 (pq_F C X S0 s.heap.size)) (F0 m 4 ls []) := by
  obtain ⟨hx, hb, hml, hown, hU, hr, hlk⟩ := id cx
  intro f
  induction f with
  | zero =>
    intro a0 x1 x2 S H locs ls hw hE Ta0 hl hm
    cases hm
  | succ f ih =>
    intro a0 x1 x2 S H locs ls hw hE Ta0 hl hm
    rw [b_X3_bestBits_4] at hm
    refine lv_iload_n hx hb dX3_bestBits_4 rfl (lv_at hl 2 rfl) ?_
    refine lv_aload_n hx hb dX3_bestBits_5 rfl (lv_at hl 0 rfl) ?_
    obtain ⟨q1, hq1, hm⟩ := bd_some hm
    have Tq1 : TY S q1 7 := hw.wf.ref (k := 3) (j := 0) Ta0 (by decide) (by decide) hq1
    refine pg_rb (k := 3) (j := 0) (f := 300) hx hb hown hU iu3 hw Ta0 (by decide) rfl (hU _ tw239) rfl hq1 dX3_bestBits_6 ?_
    obtain ⟨q2, hq2, hm⟩ := bd_some hm
    have Tq2 : TY S q2 1 := hw.wf.ref (k := 7) (j := 0) Tq1 (by decide) (by decide) hq2
    refine pgN_rb (k := 7) (j := 0) (f := 700) hx hb hown hU iu7 hw Tq1 (by decide) rfl 57 rfl rfl hq2 dX3_bestBits_9 ?_
    obtain ⟨q3, hq3, hm⟩ := bd_some hm
    have Tq3 : TY S q3 9 := hw.wf.ref (k := 1) (j := 0) Tq2 (by decide) (by decide) hq3
    refine pgN_rb (k := 1) (j := 0) (f := 100) hx hb hown hU iu1 hw Tq2 (by decide) rfl 25 rfl rfl hq3 dX3_bestBits_12 ?_
    refine pgN_i (k := 9) (j := 2) (f := 902) hx hb hown hU iu9 hw Tq3 (by decide) rfl 17 rfl rfl dX3_bestBits_15 ?_
    refine lv_icmp_ge (tgt := 64) hx hb dX3_bestBits_18 (by decide) (fun h4 => ?_) (fun h4 => ?_)
    · rw [if_pos h4] at hm
      refine lv_iload_n hx hb dX3_bestBits_64 rfl (lv_at hl 1 rfl) ?_
      cases hm
      exact pw_iret hx hb hr rfl hlk hw hE dX3_bestBits_65
    · rw [if_neg h4] at hm
      refine lv_aload_n hx hb dX3_bestBits_21 rfl (lv_at hl 0 rfl) ?_
      refine lv_iload_n hx hb dX3_bestBits_22 rfl (lv_at hl 2 rfl) ?_
      refine lv_aload_n hx hb dX3_bestBits_23 rfl (lv_at hl 0 rfl) ?_
      obtain ⟨q5, hq5, hm⟩ := bd_some hm
      have Tq5 : TY S q5 14 := hw.wf.ref (k := 3) (j := 1) Ta0 (by decide) (by decide) hq5
      refine pg_rb (k := 3) (j := 1) (f := 301) hx hb hown hU iu3 hw Ta0 (by decide) rfl (hU _ tw240) rfl hq5 dX3_bestBits_24 ?_
      obtain ⟨S_6, hq7, hm⟩ := bd_some hm
      refine pw_cv (va_runV (As := [.int x2, .ref q5]) (rest := []) ⟨hx, hb, hml, hown, hU⟩ (c_X3_weigh l C X n S hw.wf _ a0 x2 q5 (Ta0) (Tq5) S_6 hq7) (cwV 2 hU (pq_gV tw1090 tw1092 ts84 tw8 tc_X3_weigh) rfl rfl rfl cd_X3_weigh ⟨Nat.le_of_ble_eq_true rfl, Nat.le_of_ble_eq_true rfl⟩) (pw_preV hw Ta0 (by decide) rfl) rfl rfl hl.1 rfl (lv_room (Nat.le_of_ble_eq_true rfl)) dX3_bestBits_27 ⟨Nat.zero_le _, Nat.zero_le _⟩) hw (fun H locs hw hx8 => ?_)
      have Ta0 : TY S_6 a0 3 := ty_ext hx8 Ta0
      have hE : Ext S0 S_6 := Ext.tr hE hx8
      refine lv_iload_n hx hb dX3_bestBits_30 rfl (lv_at hl 1 rfl) ?_
      refine lv_aload_n hx hb dX3_bestBits_31 rfl (lv_at hl 0 rfl) ?_
      obtain ⟨q9, hq9, hm⟩ := bd_some hm
      have Tq9 : TY S_6 q9 14 := hw.wf.ref (k := 3) (j := 1) Ta0 (by decide) (by decide) hq9
      refine pg_rb (k := 3) (j := 1) (f := 301) hx hb hown hU iu3 hw Ta0 (by decide) rfl (hU _ tw240) rfl hq9 dX3_bestBits_32 ?_
      refine lv_aload_n hx hb dX3_bestBits_35 rfl (lv_at hl 0 rfl) ?_
      obtain ⟨q10, hq10, hm⟩ := bd_some hm
      have Tq10 : TY S_6 q10 7 := hw.wf.ref (k := 3) (j := 0) Ta0 (by decide) (by decide) hq10
      refine pg_rb (k := 3) (j := 0) (f := 300) hx hb hown hU iu3 hw Ta0 (by decide) rfl (hU _ tw239) rfl hq10 dX3_bestBits_36 ?_
      obtain ⟨q11, hq11, hm⟩ := bd_some hm
      have Tq11 : TY S_6 q11 8 := hw.wf.ref (k := 7) (j := 1) Tq10 (by decide) (by decide) hq11
      refine pgN_rb (k := 7) (j := 1) (f := 701) hx hb hown hU iu7 hw Tq10 (by decide) rfl 58 rfl rfl hq11 dX3_bestBits_39 ?_
      obtain ⟨q12, hq12, hm⟩ := bd_some hm
      have Tq12 : TY S_6 q12 9 := hw.wf.ref (k := 8) (j := 0) Tq11 (by decide) (by decide) hq12
      refine pgN_rb (k := 8) (j := 0) (f := 800) hx hb hown hU iu8 hw Tq11 (by decide) rfl 42 rfl rfl hq12 dX3_bestBits_42 ?_
      refine lv_iload_n hx hb dX3_bestBits_45 rfl (lv_at hl 2 rfl) ?_
      refine lv_iconst (v := 0) hx hb dX3_bestBits_46 (by decide) ?_
      obtain ⟨r15, S_13, hq14, hm⟩ := cb_some hm
      refine pw_ci (va_runVN (As := [.int x2, .int 0]) (rest := [.ref q9, .int x1]) ⟨hx, hb, hml, hown, hU⟩ (c_X9_at l C X n S_6 hw.wf _ q12 x2 0 (Tq12) r15 S_13 hq14) ⟨va_cnB (host := "WickNights") 2 hU (pq_g1 tc_X9_at) rfl rfl rfl (hw.nw 164 rfl) (hU _ tw5) cd_X9_at.2 ⟨Nat.le_of_ble_eq_true rfl, Nat.le_of_ble_eq_true rfl⟩, hU _ tw719, hU _ ts32⟩ (pw_preV hw Tq12 (by decide) rfl) rfl rfl hl.1 rfl (lv_room (Nat.le_of_ble_eq_true rfl)) dX3_bestBits_47 ⟨Nat.zero_le _, Nat.zero_le _⟩) hw (fun H locs hw hx16 => ?_)
      have Tq9 : TY S_13 q9 14 := ty_ext hx16 Tq9
      have Ta0 : TY S_13 a0 3 := ty_ext hx16 Ta0
      have hE : Ext S0 S_13 := Ext.tr hE hx16
      obtain ⟨r19, S_17, hq18, hm⟩ := cb_some hm
      refine pw_ci (va_runS (As := [.ref q9, .int r15]) (rest := [.int x1]) ⟨hx, hb, hml, hown, hU⟩ (c_X3_bestBy l C X n S_13 hw.wf _ q9 r15 (Tq9) r19 S_17 hq18) ⟨callB_of 2 hU (pq_g1 tc_X3_bestBy) rfl rfl rfl (hU _ tw8) (hU _ tw1102) cd_X3_bestBy.2 ⟨Nat.le_of_ble_eq_true rfl, Nat.le_of_ble_eq_true rfl⟩, hU _ tw1103⟩ (pw_preS hw) rfl rfl hl.1 rfl (lv_room (Nat.le_of_ble_eq_true rfl)) dX3_bestBits_50 ⟨Nat.zero_le _, Nat.zero_le _⟩) hw (fun H locs hw hx20 => ?_)
      have Ta0 : TY S_17 a0 3 := ty_ext hx20 Ta0
      have hE : Ext S0 S_17 := Ext.tr hE hx20
      obtain ⟨r23, S_21, hq22, hm⟩ := cb_some hm
      refine pw_ci (va_runS (As := [.int r19]) (rest := [.int x1]) ⟨hx, hb, hml, hown, hU⟩ (c_X3_bitsOf l C X n S_17 hw.wf _ r19  r23 S_21 hq22) ⟨callB_of 1 hU (pq_g1 tc_X3_bitsOf) rfl rfl rfl (hU _ tw8) (hU _ tw1113) cd_X3_bitsOf.2 ⟨Nat.le_of_ble_eq_true rfl, Nat.le_of_ble_eq_true rfl⟩, hU _ tw1114⟩ (pw_preS hw) rfl rfl hl.1 rfl (lv_room (Nat.le_of_ble_eq_true rfl)) dX3_bestBits_53 ⟨Nat.zero_le _, Nat.zero_le _⟩) hw (fun H locs hw hx24 => ?_)
      have Ta0 : TY S_21 a0 3 := ty_ext hx24 Ta0
      have hE : Ext S0 S_21 := Ext.tr hE hx24
      refine lv_ior hx hb dX3_bestBits_56 ?_
      refine lv_istore_n (lv' := [(1, .int (x1 ||| r23)), (0, .ref a0), (2, .int x2)]) hx hb dX3_bestBits_57 rfl hl (by decide) rfl (fun ls hl => ?_)
      refine lv_iinc (v := (x2 + 1)) (lv' := [(2, .int (x2 + 1)), (1, .int (x1 ||| r23)), (0, .ref a0)]) hx hb dX3_bestBits_58 hl (k := 2) rfl rfl (by decide) rfl (fun ls hl => ?_)
      refine lv_goto (tgt := 4) hx hb dX3_bestBits_61 (by decide) ?_
      exact ih a0 (x1 ||| r23) (x2 + 1) S_21 _ _ _ hw hE Ta0 (lv_sub hl [2, 1, 0] rfl) hm
def m_X3_bestBits (n : Nat) (a0 : Nat) (S0 : pq_S) : Option (Int32 × pq_S) := b_X3_bestBits_4 n n a0 0 0 S0
theorem tc_X3_bestBits : Cond.code yX3_bestBits cX3_bestBits 3 (some .int) ∈ pq_U := tw1112
theorem cd_X3_bestBits : yX3_bestBits.cls = RX3 ∧ yX3_bestBits.cls ≠ "java/lang/invoke/MethodHandle" ∧ yX3_bestBits.cls ≠ "java/lang/invoke/VarHandle" ∧ (parseMethodDescriptor yX3_bestBits.desc).map (fun d => d.parameters.length) = some 0 := by decide +kernel
set_option maxHeartbeats 4000000 in
set_option maxRecDepth 100000 in
theorem c_X3_bestBits (l : Launch) (C : pq_C) (X : va_W) (n : Nat) (S0 : pq_S) (hF : WF S0) (sz : Nat) (a0 : Nat) (Ta0 : TY S0 a0 3) (r : Int32) (S1 : pq_S) (hm : m_X3_bestBits n a0 S0 = some (r, S1)) : MI l yX3_bestBits (.code yX3_bestBits cX3_bestBits 3 (some .int) :: pq_U) rm_X3_bestBits C X S0 sz [.ref a0] r S1 0 0 := by
  refine Met.ofW (cc := cX3_bestBits) (maxL := 3) (ret := (some .int)) (by decide) rfl ?_
  intro p e s m args below meth c s₁ B hml hv
  obtain ⟨rfl, hv⟩ := hv
  have hsz := hv.1
  subst hsz
  have hw := pw_entry hF hv
  have hts := atoms_spec (ws := .code yX3_bestBits cX3_bestBits 3 (some .int) :: pq_U) B.pre
  have hU : ∀ w ∈ pq_U, w.before _ s = true := fun w h => hts w (List.mem_cons_of_mem _ h)
  have hx := B.exec
  have hb := B.bytes
  have hr := B.returns
  have hown : s.vm.findClass RX3 = some m.cls := findClass_of_methodNamed B.named
  have hlk := B.notSynchronized
  have hl := lv_entry ([.ref a0]) (n := 3) (Nat.le_of_ble_eq_true rfl)
  rw [lg_entry_eq]
  generalize (lg_sl ([.ref a0]) ++ List.replicate (3 - (lg_sl ([.ref a0])).length) Slot.unset).toArray = ls at hl ⊢
  have hl : lv_has ls 3 [(0, .ref a0)] := hl
  have hE : Ext S0 S0 := Ext.rf _
  have cx : Cx p s m _ meth c cX3_bestBits 3 RX3 (some .int) := ⟨hx, hb, hml, hown, hU, hr, hlk⟩
  rw [m_X3_bestBits] at hm
  refine lv_iconst (v := 0) hx hb dX3_bestBits_0 (by decide) ?_
  refine lv_istore_n (lv' := [(1, .int 0), (0, .ref a0)]) hx hb dX3_bestBits_1 rfl hl (by decide) rfl (fun ls hl => ?_)
  refine lv_iconst (v := 0) hx hb dX3_bestBits_2 (by decide) ?_
  refine lv_istore_n (lv' := [(2, .int 0), (1, .int 0), (0, .ref a0)]) hx hb dX3_bestBits_3 rfl hl (by decide) rfl (fun ls hl => ?_)
  exact wb_X3_bestBits_4 cx C X S0 n r S1 n a0 0 0 S0 _ _ _ hw hE Ta0 (lv_sub hl [2, 1, 0] rfl) hm
abbrev rm_X3_findBestCarrying : Room := { frames := 69, cells := 0, slots := 0, locals := 1913 }
def b_X3_findBestCarrying_177 (n : Nat) (k53 : Nat → Int32 → Int32 → Int32 → Int32 → Int32 → Int32 → pq_S → Option pq_S) (a0 : Nat) (x1 : Int32) (x2 : Int32) (x3 : Int32) (x4 : Int32) (x6 : Int32) (x7 : Int32) (S : pq_S) : Option pq_S := k53 a0 x1 x2 x3 x4 x6 (x7 + 1) S
set_option maxHeartbeats 4000000 in
set_option maxRecDepth 100000 in
theorem wb_X3_findBestCarrying_177 {p : Program} {l : Launch} {e : Env} {s : State} {m : MethodId} {args : Array Value} {below : List Frame} {meth : Method} {c : Code} (cx : Cx p s m args meth c cX3_findBestCarrying 10 RX3 none) (C : pq_C) (X : va_W) (S0 : pq_S) (n : Nat) (S1 : pq_S) (k53 : Nat → Int32 → Int32 → Int32 → Int32 → Int32 → Int32 → pq_S → Option pq_S) (hk53 : ∀ (a0 : Nat) (x1 : Int32) (x2 : Int32) (x3 : Int32) (x4 : Int32) (x6 : Int32) (x7 : Int32) (S : pq_S) (H : Heap) (locs : List Loc) (ls : Array Slot), PW C X S (pq_F C X S0 s.heap.size) H locs s → Ext S0 S → TY S a0 3 → lv_has ls 10 [(0, .ref a0), (1, .int x1), (2, .int x2), (3, .int x3), (4, .int x4), (6, .int x6), (7, .int x7)] → k53 a0 x1 x2 x3 x4 x6 x7 S = some S1 → W p l e rm_X3_findBestCarrying s m args below meth c H locs 0 0 (MQ below (QcV C X S0 s.heap.size S1) args s 0 0 (pq_F C X S0 s.heap.size)) (F0 m 101 ls [])) : ∀ (a0 : Nat) (x1 : Int32) (x2 : Int32) (x3 : Int32) (x4 : Int32) (x6 : Int32) (x7 : Int32) (S : pq_S) (H : Heap) (locs : List Loc) (ls : Array Slot), PW C X S (pq_F C X S0 s.heap.size) H locs s → Ext S0 S → TY S a0 3 → lv_has ls 10 [(0, .ref a0), (1, .int x1), (2, .int x2), (3, .int x3), (4, .int x4), (6, .int x6), (7, .int x7)] → b_X3_findBestCarrying_177 n k53 a0 x1 x2 x3 x4 x6 x7 S = some S1 → W p l e rm_X3_findBestCarrying s m args below meth c H locs 0 0 (MQ below (QcV C X S0 s.heap.size S1) args s 0 0 (pq_F C X S0 s.heap.size)) (F0 m 177 ls []) := by
  obtain ⟨hx, hb, hml, hown, hU, hr, hlk⟩ := id cx
  intro a0 x1 x2 x3 x4 x6 x7 S H locs ls hw hE Ta0 hl hm
  rw [b_X3_findBestCarrying_177] at hm
  refine lv_iinc (v := (x7 + 1)) (lv' := [(7, .int (x7 + 1)), (0, .ref a0), (1, .int x1), (2, .int x2), (3, .int x3), (4, .int x4), (6, .int x6)]) hx hb dX3_findBestCarrying_177 hl (k := 6) rfl rfl (by decide) rfl (fun ls hl => ?_)
  refine lv_goto (tgt := 101) hx hb dX3_findBestCarrying_180 (by decide) ?_
  exact hk53 a0 x1 x2 x3 x4 x6 (x7 + 1) S _ _ _ hw hE Ta0 (lv_sub hl [1, 2, 3, 4, 5, 6, 0] rfl) hm
def b_X3_findBestCarrying_101 (n : Nat) : Nat → Nat → Int32 → Int32 → Int32 → Int32 → Int32 → Int32 → pq_S → Option pq_S
  | 0, _, _, _, _, _, _, _, _ => none
  | f + 1, a0, x1, x2, x3, x4, x6, x7, S => if x3 < x7 then some S else Option.bind (pR S 300 a0) fun q46 => cb (m_X7_arriving n q46 x1 x2 x7 1 S) fun r49 S_47 => Option.bind (pR S_47 301 a0) fun q51 => cb (m_X3_bestBy n q51 (x3 - x7) S_47) fun r54 S_52 => cb (m_X3_worthOf n r54 S_52) fun r58 S_56 => Option.bind (pR S_56 302 a0) fun q60 => cb (m_X3_bestBy n q60 (x4 + r49) S_56) fun r63 S_61 => cb (m_X3_worthOf n r63 S_61) fun r67 S_65 => if ((x6 + r58) + r67) ≤ (pI S_65 305 a0) then b_X3_findBestCarrying_177 n (b_X3_findBestCarrying_101 n f) a0 x1 x2 x3 x4 x6 x7 S_65 else b_X3_findBestCarrying_177 n (b_X3_findBestCarrying_101 n f) a0 x1 x2 x3 x4 x6 x7 (sI (sI S_65 304 a0 x7) 305 a0 ((x6 + r58) + r67))
set_option maxHeartbeats 4000000 in
set_option maxRecDepth 100000 in
theorem wb_X3_findBestCarrying_101 {p : Program} {l : Launch} {e : Env} {s : State} {m : MethodId} {args : Array Value} {below : List Frame} {meth : Method} {c : Code} (cx : Cx p s m args meth c cX3_findBestCarrying 10 RX3 none) (C : pq_C) (X : va_W) (S0 : pq_S) (n : Nat) (S1 : pq_S) : ∀ (f : Nat) (a0 : Nat) (x1 : Int32) (x2 : Int32) (x3 : Int32) (x4 : Int32) (x6 : Int32) (x7 : Int32) (S : pq_S) (H : Heap) (locs : List Loc) (ls : Array Slot), PW C X S (pq_F C X S0 s.heap.size) H locs s → Ext S0 S → TY S a0 3 → lv_has ls 10 [(0, .ref a0), (1, .int x1), (2, .int x2), (3, .int x3), (4, .int x4), (6, .int x6), (7, .int x7)] → b_X3_findBestCarrying_101 n f a0 x1 x2 x3 x4 x6 x7 S = some S1 → W p l e rm_X3_findBestCarrying s m args below meth c H locs 0 0 (MQ below (QcV C X S0 s.heap.size S1) args s 0 0 (pq_F C X S0 s.heap.size)) (F0 m 101 ls []) := by
  obtain ⟨hx, hb, hml, hown, hU, hr, hlk⟩ := id cx
  intro f
  induction f with
  | zero =>
    intro a0 x1 x2 x3 x4 x6 x7 S H locs ls hw hE Ta0 hl hm
    cases hm
  | succ f ih =>
    intro a0 x1 x2 x3 x4 x6 x7 S H locs ls hw hE Ta0 hl hm
    rw [b_X3_findBestCarrying_101] at hm
    refine lv_iload hx hb dX3_findBestCarrying_101 (lv_at hl 6 rfl) ?_
    refine lv_iload_n hx hb dX3_findBestCarrying_103 rfl (lv_at hl 3 rfl) ?_
    refine lv_icmp_gt (tgt := 183) hx hb dX3_findBestCarrying_104 (by decide) (fun h45 => ?_) (fun h45 => ?_)
    · rw [if_pos h45] at hm
      cases hm
      exact pw_vret hx hb hr hlk hw hE dX3_findBestCarrying_183
    · rw [if_neg h45] at hm
      refine lv_aload_n hx hb dX3_findBestCarrying_107 rfl (lv_at hl 0 rfl) ?_
      obtain ⟨q46, hq46, hm⟩ := bd_some hm
      have Tq46 : TY S q46 7 := hw.wf.ref (k := 3) (j := 0) Ta0 (by decide) (by decide) hq46
      refine pg_rb (k := 3) (j := 0) (f := 300) hx hb hown hU iu3 hw Ta0 (by decide) rfl (hU _ tw239) rfl hq46 dX3_findBestCarrying_108 ?_
      refine lv_iload_n hx hb dX3_findBestCarrying_111 rfl (lv_at hl 1 rfl) ?_
      refine lv_iload_n hx hb dX3_findBestCarrying_112 rfl (lv_at hl 2 rfl) ?_
      refine lv_iload hx hb dX3_findBestCarrying_113 (lv_at hl 6 rfl) ?_
      refine lv_iconst (v := 1) hx hb dX3_findBestCarrying_115 (by decide) ?_
      obtain ⟨r49, S_47, hq48, hm⟩ := cb_some hm
      refine pw_ci (va_runVN (As := [.int x1, .int x2, .int x7, .int 1]) (rest := []) ⟨hx, hb, hml, hown, hU⟩ (c_X7_arriving l C X n S hw.wf _ q46 x1 x2 x7 1 (Tq46) r49 S_47 hq48) ⟨va_cnB (host := "WickNights") 4 hU (pq_g1 tc_X7_arriving) rfl rfl rfl (hw.nw 168 rfl) (hU _ tw3) cd_X7_arriving.2 ⟨Nat.le_of_ble_eq_true rfl, Nat.le_of_ble_eq_true rfl⟩, hU _ tw863, hU _ ts53⟩ (pw_preV hw Tq46 (by decide) rfl) rfl rfl hl.1 rfl (lv_room (Nat.le_of_ble_eq_true rfl)) dX3_findBestCarrying_116 ⟨Nat.zero_le _, Nat.zero_le _⟩) hw (fun H locs hw hx50 => ?_)
      have Ta0 : TY S_47 a0 3 := ty_ext hx50 Ta0
      have hE : Ext S0 S_47 := Ext.tr hE hx50
      refine lv_istore (lv' := [(8, .int r49), (0, .ref a0), (1, .int x1), (2, .int x2), (3, .int x3), (4, .int x4), (6, .int x6), (7, .int x7)]) hx hb dX3_findBestCarrying_119 hl (by decide) rfl (fun ls hl => ?_)
      refine lv_iload hx hb dX3_findBestCarrying_121 (lv_at hl 6 rfl) ?_
      refine lv_aload_n hx hb dX3_findBestCarrying_123 rfl (lv_at hl 1 rfl) ?_
      obtain ⟨q51, hq51, hm⟩ := bd_some hm
      have Tq51 : TY S_47 q51 14 := hw.wf.ref (k := 3) (j := 1) Ta0 (by decide) (by decide) hq51
      refine pg_rb (k := 3) (j := 1) (f := 301) hx hb hown hU iu3 hw Ta0 (by decide) rfl (hU _ tw240) rfl hq51 dX3_findBestCarrying_124 ?_
      refine lv_iload_n hx hb dX3_findBestCarrying_127 rfl (lv_at hl 4 rfl) ?_
      refine lv_iload hx hb dX3_findBestCarrying_128 (lv_at hl 7 rfl) ?_
      refine lv_isub hx hb dX3_findBestCarrying_130 ?_
      obtain ⟨r54, S_52, hq53, hm⟩ := cb_some hm
      refine pw_ci (va_runS (As := [.ref q51, .int (x3 - x7)]) (rest := [.int x6]) ⟨hx, hb, hml, hown, hU⟩ (c_X3_bestBy l C X n S_47 hw.wf _ q51 (x3 - x7) (Tq51) r54 S_52 hq53) ⟨callB_of 2 hU (pq_g1 tc_X3_bestBy) rfl rfl rfl (hU _ tw8) (hU _ tw1102) cd_X3_bestBy.2 ⟨Nat.le_of_ble_eq_true rfl, Nat.le_of_ble_eq_true rfl⟩, hU _ tw1103⟩ (pw_preS hw) rfl rfl hl.1 rfl (lv_room (Nat.le_of_ble_eq_true rfl)) dX3_findBestCarrying_131 ⟨Nat.zero_le _, Nat.zero_le _⟩) hw (fun H locs hw hx55 => ?_)
      have Ta0 : TY S_52 a0 3 := ty_ext hx55 Ta0
      have hE : Ext S0 S_52 := Ext.tr hE hx55
      obtain ⟨r58, S_56, hq57, hm⟩ := cb_some hm
      refine pw_ci (va_runS (As := [.int r54]) (rest := [.int x6]) ⟨hx, hb, hml, hown, hU⟩ (c_X3_worthOf l C X n S_52 hw.wf _ r54  r58 S_56 hq57) ⟨callB_of 1 hU (pq_g1 tc_X3_worthOf) rfl rfl rfl (hU _ tw8) (hU _ tw1106) cd_X3_worthOf.2 ⟨Nat.le_of_ble_eq_true rfl, Nat.le_of_ble_eq_true rfl⟩, hU _ tw1107⟩ (pw_preS hw) rfl rfl hl.1 rfl (lv_room (Nat.le_of_ble_eq_true rfl)) dX3_findBestCarrying_134 ⟨Nat.zero_le _, Nat.zero_le _⟩) hw (fun H locs hw hx59 => ?_)
      have Ta0 : TY S_56 a0 3 := ty_ext hx59 Ta0
      have hE : Ext S0 S_56 := Ext.tr hE hx59
      refine lv_iadd hx hb dX3_findBestCarrying_137 ?_
      refine lv_aload_n hx hb dX3_findBestCarrying_138 rfl (lv_at hl 1 rfl) ?_
      obtain ⟨q60, hq60, hm⟩ := bd_some hm
      have Tq60 : TY S_56 q60 14 := hw.wf.ref (k := 3) (j := 2) Ta0 (by decide) (by decide) hq60
      refine pg_rb (k := 3) (j := 2) (f := 302) hx hb hown hU iu3 hw Ta0 (by decide) rfl (hU _ tw241) rfl hq60 dX3_findBestCarrying_139 ?_
      refine lv_iload hx hb dX3_findBestCarrying_142 (lv_at hl 5 rfl) ?_
      refine lv_iload hx hb dX3_findBestCarrying_144 (lv_at hl 0 rfl) ?_
      refine lv_iadd hx hb dX3_findBestCarrying_146 ?_
      obtain ⟨r63, S_61, hq62, hm⟩ := cb_some hm
      refine pw_ci (va_runS (As := [.ref q60, .int (x4 + r49)]) (rest := [.int (x6 + r58)]) ⟨hx, hb, hml, hown, hU⟩ (c_X3_bestBy l C X n S_56 hw.wf _ q60 (x4 + r49) (Tq60) r63 S_61 hq62) ⟨callB_of 2 hU (pq_g1 tc_X3_bestBy) rfl rfl rfl (hU _ tw8) (hU _ tw1102) cd_X3_bestBy.2 ⟨Nat.le_of_ble_eq_true rfl, Nat.le_of_ble_eq_true rfl⟩, hU _ tw1103⟩ (pw_preS hw) rfl rfl hl.1 rfl (lv_room (Nat.le_of_ble_eq_true rfl)) dX3_findBestCarrying_147 ⟨Nat.zero_le _, Nat.zero_le _⟩) hw (fun H locs hw hx64 => ?_)
      have Ta0 : TY S_61 a0 3 := ty_ext hx64 Ta0
      have hE : Ext S0 S_61 := Ext.tr hE hx64
      obtain ⟨r67, S_65, hq66, hm⟩ := cb_some hm
      refine pw_ci (va_runS (As := [.int r63]) (rest := [.int (x6 + r58)]) ⟨hx, hb, hml, hown, hU⟩ (c_X3_worthOf l C X n S_61 hw.wf _ r63  r67 S_65 hq66) ⟨callB_of 1 hU (pq_g1 tc_X3_worthOf) rfl rfl rfl (hU _ tw8) (hU _ tw1106) cd_X3_worthOf.2 ⟨Nat.le_of_ble_eq_true rfl, Nat.le_of_ble_eq_true rfl⟩, hU _ tw1107⟩ (pw_preS hw) rfl rfl hl.1 rfl (lv_room (Nat.le_of_ble_eq_true rfl)) dX3_findBestCarrying_150 ⟨Nat.zero_le _, Nat.zero_le _⟩) hw (fun H locs hw hx68 => ?_)
      have Ta0 : TY S_65 a0 3 := ty_ext hx68 Ta0
      have hE : Ext S0 S_65 := Ext.tr hE hx68
      refine lv_iadd hx hb dX3_findBestCarrying_153 ?_
      refine lv_istore (lv' := [(9, .int ((x6 + r58) + r67)), (8, .int r49), (0, .ref a0), (1, .int x1), (2, .int x2), (3, .int x3), (4, .int x4), (6, .int x6), (7, .int x7)]) hx hb dX3_findBestCarrying_154 hl (by decide) rfl (fun ls hl => ?_)
      refine lv_iload hx hb dX3_findBestCarrying_156 (lv_at hl 0 rfl) ?_
      refine lv_aload_n hx hb dX3_findBestCarrying_158 rfl (lv_at hl 2 rfl) ?_
      refine pg_i (k := 3) (j := 5) (f := 305) hx hb hown hU iu3 hw Ta0 (by decide) rfl (hU _ tw245) rfl dX3_findBestCarrying_159 ?_
      refine lv_icmp_le (tgt := 177) hx hb dX3_findBestCarrying_162 (by decide) (fun h69 => ?_) (fun h69 => ?_)
      · rw [if_pos h69] at hm
        exact wb_X3_findBestCarrying_177 cx C X S0 n S1 _ ih a0 x1 x2 x3 x4 x6 x7 S_65 _ _ _ hw hE Ta0 (lv_sub hl [2, 3, 4, 5, 6, 7, 8] rfl) hm
      · rw [if_neg h69] at hm
        refine lv_aload_n hx hb dX3_findBestCarrying_165 rfl (lv_at hl 2 rfl) ?_
        refine lv_iload hx hb dX3_findBestCarrying_166 (lv_at hl 8 rfl) ?_
        refine pp_i (k := 3) (j := 4) (f := 304) hx hb hown hU iu3 tyX3_ok nmX3 hw Ta0 (by decide) rfl (hU _ tw243) rfl rfl rfl dX3_findBestCarrying_168 (fun H locs hw => ?_)
        refine lv_aload_n hx hb dX3_findBestCarrying_171 rfl (lv_at hl 2 rfl) ?_
        refine lv_iload hx hb dX3_findBestCarrying_172 (lv_at hl 0 rfl) ?_
        refine pp_i (k := 3) (j := 5) (f := 305) hx hb hown hU iu3 tyX3_ok nmX3 hw Ta0 (by decide) rfl (hU _ tw245) rfl rfl rfl dX3_findBestCarrying_174 (fun H locs hw => ?_)
        exact wb_X3_findBestCarrying_177 cx C X S0 n S1 _ ih a0 x1 x2 x3 x4 x6 x7 (sI (sI S_65 304 a0 x7) 305 a0 ((x6 + r58) + r67)) _ _ _ hw hE Ta0 (lv_sub hl [2, 3, 4, 5, 6, 7, 8] rfl) hm
def m_X3_findBestCarrying (n : Nat) (a0 : Nat) (x1 : Int32) (x2 : Int32) (S0 : pq_S) : Option pq_S := Option.bind (pR S0 300 a0) fun q1 => Option.bind (pR S0 701 q1) fun q2 => Option.bind (pR S0 800 q2) fun q3 => cb (m_X9_at n q3 x1 0 S0) fun r6 S_4 => Option.bind (pR S_4 300 a0) fun q8 => Option.bind (pR S_4 701 q8) fun q9 => Option.bind (pR S_4 800 q9) fun q10 => cb (m_X9_at n q10 x2 0 S_4) fun r13 S_11 => cb (m_X3_bestWorth n a0 (-1) 0 S_11) fun r17 S_15 => Option.bind (pR S_15 301 a0) fun q19 => Option.bind (m_X3_weigh n a0 x1 q19 S_15) fun S_20 => Option.bind (pR S_20 302 a0) fun q23 => Option.bind (m_X3_weigh n a0 x2 q23 S_20) fun S_24 => Option.bind (pR S_24 301 a0) fun q27 => cb (m_X3_bestBy n q27 r6 S_24) fun r30 S_28 => cb (m_X3_worthOf n r30 S_28) fun r34 S_32 => Option.bind (pR S_32 302 a0) fun q36 => cb (m_X3_bestBy n q36 r13 S_32) fun r39 S_37 => cb (m_X3_worthOf n r39 S_37) fun r43 S_41 => b_X3_findBestCarrying_101 n n a0 x1 x2 r6 r13 ((r17 - r34) - r43) 0 (sI (sI S_41 304 a0 0) 305 a0 (-1))
theorem tc_X3_findBestCarrying : Cond.code yX3_findBestCarrying cX3_findBestCarrying 10 none ∈ pq_U := tw1133
theorem cd_X3_findBestCarrying : yX3_findBestCarrying.cls = RX3 ∧ yX3_findBestCarrying.cls ≠ "java/lang/invoke/MethodHandle" ∧ yX3_findBestCarrying.cls ≠ "java/lang/invoke/VarHandle" ∧ (parseMethodDescriptor yX3_findBestCarrying.desc).map (fun d => d.parameters.length) = some 2 := by decide +kernel
set_option maxHeartbeats 4000000 in
set_option maxRecDepth 100000 in
theorem c_X3_findBestCarrying (l : Launch) (C : pq_C) (X : va_W) (n : Nat) (S0 : pq_S) (hF : WF S0) (sz : Nat) (a0 : Nat) (x1 : Int32) (x2 : Int32) (Ta0 : TY S0 a0 3) (S1 : pq_S) (hm : m_X3_findBestCarrying n a0 x1 x2 S0 = some S1) : MV l yX3_findBestCarrying (.code yX3_findBestCarrying cX3_findBestCarrying 10 none :: pq_U) rm_X3_findBestCarrying C X S0 sz [.ref a0, .int x1, .int x2] S1 0 0 := by
  refine Met.ofW (cc := cX3_findBestCarrying) (maxL := 10) (ret := none) (by decide) rfl ?_
  intro p e s m args below meth c s₁ B hml hv
  obtain ⟨rfl, hv⟩ := hv
  have hsz := hv.1
  subst hsz
  have hw := pw_entry hF hv
  have hts := atoms_spec (ws := .code yX3_findBestCarrying cX3_findBestCarrying 10 none :: pq_U) B.pre
  have hU : ∀ w ∈ pq_U, w.before _ s = true := fun w h => hts w (List.mem_cons_of_mem _ h)
  have hx := B.exec
  have hb := B.bytes
  have hr := B.returns
  have hown : s.vm.findClass RX3 = some m.cls := findClass_of_methodNamed B.named
  have hlk := B.notSynchronized
  have hl := lv_entry ([.ref a0, .int x1, .int x2]) (n := 10) (Nat.le_of_ble_eq_true rfl)
  rw [lg_entry_eq]
  generalize (lg_sl ([.ref a0, .int x1, .int x2]) ++ List.replicate (10 - (lg_sl ([.ref a0, .int x1, .int x2])).length) Slot.unset).toArray = ls at hl ⊢
  have hl : lv_has ls 10 [(0, .ref a0), (1, .int x1), (2, .int x2)] := hl
  have hE : Ext S0 S0 := Ext.rf _
  have cx : Cx p s m _ meth c cX3_findBestCarrying 10 RX3 none := ⟨hx, hb, hml, hown, hU, hr, hlk⟩
  rw [m_X3_findBestCarrying] at hm
  refine lv_aload_n hx hb dX3_findBestCarrying_0 rfl (lv_at hl 0 rfl) ?_
  obtain ⟨q1, hq1, hm⟩ := bd_some hm
  have Tq1 : TY S0 q1 7 := hw.wf.ref (k := 3) (j := 0) Ta0 (by decide) (by decide) hq1
  refine pg_rb (k := 3) (j := 0) (f := 300) hx hb hown hU iu3 hw Ta0 (by decide) rfl (hU _ tw239) rfl hq1 dX3_findBestCarrying_1 ?_
  obtain ⟨q2, hq2, hm⟩ := bd_some hm
  have Tq2 : TY S0 q2 8 := hw.wf.ref (k := 7) (j := 1) Tq1 (by decide) (by decide) hq2
  refine pgN_rb (k := 7) (j := 1) (f := 701) hx hb hown hU iu7 hw Tq1 (by decide) rfl 58 rfl rfl hq2 dX3_findBestCarrying_4 ?_
  obtain ⟨q3, hq3, hm⟩ := bd_some hm
  have Tq3 : TY S0 q3 9 := hw.wf.ref (k := 8) (j := 0) Tq2 (by decide) (by decide) hq3
  refine pgN_rb (k := 8) (j := 0) (f := 800) hx hb hown hU iu8 hw Tq2 (by decide) rfl 42 rfl rfl hq3 dX3_findBestCarrying_7 ?_
  refine lv_iload_n hx hb dX3_findBestCarrying_10 rfl (lv_at hl 1 rfl) ?_
  refine lv_iconst (v := 0) hx hb dX3_findBestCarrying_11 (by decide) ?_
  obtain ⟨r6, S_4, hq5, hm⟩ := cb_some hm
  refine pw_ci (va_runVN (As := [.int x1, .int 0]) (rest := []) ⟨hx, hb, hml, hown, hU⟩ (c_X9_at l C X n S0 hw.wf _ q3 x1 0 (Tq3) r6 S_4 hq5) ⟨va_cnB (host := "WickNights") 2 hU (pq_g1 tc_X9_at) rfl rfl rfl (hw.nw 164 rfl) (hU _ tw5) cd_X9_at.2 ⟨Nat.le_of_ble_eq_true rfl, Nat.le_of_ble_eq_true rfl⟩, hU _ tw719, hU _ ts32⟩ (pw_preV hw Tq3 (by decide) rfl) rfl rfl hl.1 rfl (lv_room (Nat.le_of_ble_eq_true rfl)) dX3_findBestCarrying_12 ⟨Nat.zero_le _, Nat.zero_le _⟩) hw (fun H locs hw hx7 => ?_)
  have Ta0 : TY S_4 a0 3 := ty_ext hx7 Ta0
  have hE : Ext S0 S_4 := Ext.tr hE hx7
  refine lv_istore_n (lv' := [(3, .int r6), (0, .ref a0), (1, .int x1), (2, .int x2)]) hx hb dX3_findBestCarrying_15 rfl hl (by decide) rfl (fun ls hl => ?_)
  refine lv_aload_n hx hb dX3_findBestCarrying_16 rfl (lv_at hl 1 rfl) ?_
  obtain ⟨q8, hq8, hm⟩ := bd_some hm
  have Tq8 : TY S_4 q8 7 := hw.wf.ref (k := 3) (j := 0) Ta0 (by decide) (by decide) hq8
  refine pg_rb (k := 3) (j := 0) (f := 300) hx hb hown hU iu3 hw Ta0 (by decide) rfl (hU _ tw239) rfl hq8 dX3_findBestCarrying_17 ?_
  obtain ⟨q9, hq9, hm⟩ := bd_some hm
  have Tq9 : TY S_4 q9 8 := hw.wf.ref (k := 7) (j := 1) Tq8 (by decide) (by decide) hq9
  refine pgN_rb (k := 7) (j := 1) (f := 701) hx hb hown hU iu7 hw Tq8 (by decide) rfl 58 rfl rfl hq9 dX3_findBestCarrying_20 ?_
  obtain ⟨q10, hq10, hm⟩ := bd_some hm
  have Tq10 : TY S_4 q10 9 := hw.wf.ref (k := 8) (j := 0) Tq9 (by decide) (by decide) hq10
  refine pgN_rb (k := 8) (j := 0) (f := 800) hx hb hown hU iu8 hw Tq9 (by decide) rfl 42 rfl rfl hq10 dX3_findBestCarrying_23 ?_
  refine lv_iload_n hx hb dX3_findBestCarrying_26 rfl (lv_at hl 3 rfl) ?_
  refine lv_iconst (v := 0) hx hb dX3_findBestCarrying_27 (by decide) ?_
  obtain ⟨r13, S_11, hq12, hm⟩ := cb_some hm
  refine pw_ci (va_runVN (As := [.int x2, .int 0]) (rest := []) ⟨hx, hb, hml, hown, hU⟩ (c_X9_at l C X n S_4 hw.wf _ q10 x2 0 (Tq10) r13 S_11 hq12) ⟨va_cnB (host := "WickNights") 2 hU (pq_g1 tc_X9_at) rfl rfl rfl (hw.nw 164 rfl) (hU _ tw5) cd_X9_at.2 ⟨Nat.le_of_ble_eq_true rfl, Nat.le_of_ble_eq_true rfl⟩, hU _ tw719, hU _ ts32⟩ (pw_preV hw Tq10 (by decide) rfl) rfl rfl hl.1 rfl (lv_room (Nat.le_of_ble_eq_true rfl)) dX3_findBestCarrying_28 ⟨Nat.zero_le _, Nat.zero_le _⟩) hw (fun H locs hw hx14 => ?_)
  have Ta0 : TY S_11 a0 3 := ty_ext hx14 Ta0
  have hE : Ext S0 S_11 := Ext.tr hE hx14
  refine lv_istore (lv' := [(4, .int r13), (3, .int r6), (0, .ref a0), (1, .int x1), (2, .int x2)]) hx hb dX3_findBestCarrying_31 hl (by decide) rfl (fun ls hl => ?_)
  refine lv_aload_n hx hb dX3_findBestCarrying_33 rfl (lv_at hl 2 rfl) ?_
  refine lv_iconst (v := (-1)) hx hb dX3_findBestCarrying_34 (by decide) ?_
  refine lv_iconst (v := 0) hx hb dX3_findBestCarrying_35 (by decide) ?_
  obtain ⟨r17, S_15, hq16, hm⟩ := cb_some hm
  refine pw_ci (va_runV (As := [.int (-1), .int 0]) (rest := []) ⟨hx, hb, hml, hown, hU⟩ (c_X3_bestWorth l C X n S_11 hw.wf _ a0 (-1) 0 (Ta0) r17 S_15 hq16) (cwV 2 hU (pq_gV tw1134 tw1088 ts83 tw8 tc_X3_bestWorth) rfl rfl rfl cd_X3_bestWorth ⟨Nat.le_of_ble_eq_true rfl, Nat.le_of_ble_eq_true rfl⟩) (pw_preV hw Ta0 (by decide) rfl) rfl rfl hl.1 rfl (lv_room (Nat.le_of_ble_eq_true rfl)) dX3_findBestCarrying_36 ⟨Nat.zero_le _, Nat.zero_le _⟩) hw (fun H locs hw hx18 => ?_)
  have Ta0 : TY S_15 a0 3 := ty_ext hx18 Ta0
  have hE : Ext S0 S_15 := Ext.tr hE hx18
  refine lv_istore (lv' := [(5, .int r17), (4, .int r13), (3, .int r6), (0, .ref a0), (1, .int x1), (2, .int x2)]) hx hb dX3_findBestCarrying_39 hl (by decide) rfl (fun ls hl => ?_)
  refine lv_aload_n hx hb dX3_findBestCarrying_41 rfl (lv_at hl 3 rfl) ?_
  refine lv_iload_n hx hb dX3_findBestCarrying_42 rfl (lv_at hl 4 rfl) ?_
  refine lv_aload_n hx hb dX3_findBestCarrying_43 rfl (lv_at hl 3 rfl) ?_
  obtain ⟨q19, hq19, hm⟩ := bd_some hm
  have Tq19 : TY S_15 q19 14 := hw.wf.ref (k := 3) (j := 1) Ta0 (by decide) (by decide) hq19
  refine pg_rb (k := 3) (j := 1) (f := 301) hx hb hown hU iu3 hw Ta0 (by decide) rfl (hU _ tw240) rfl hq19 dX3_findBestCarrying_44 ?_
  obtain ⟨S_20, hq21, hm⟩ := bd_some hm
  refine pw_cv (va_runV (As := [.int x1, .ref q19]) (rest := []) ⟨hx, hb, hml, hown, hU⟩ (c_X3_weigh l C X n S_15 hw.wf _ a0 x1 q19 (Ta0) (Tq19) S_20 hq21) (cwV 2 hU (pq_gV tw1090 tw1092 ts84 tw8 tc_X3_weigh) rfl rfl rfl cd_X3_weigh ⟨Nat.le_of_ble_eq_true rfl, Nat.le_of_ble_eq_true rfl⟩) (pw_preV hw Ta0 (by decide) rfl) rfl rfl hl.1 rfl (lv_room (Nat.le_of_ble_eq_true rfl)) dX3_findBestCarrying_47 ⟨Nat.zero_le _, Nat.zero_le _⟩) hw (fun H locs hw hx22 => ?_)
  have Ta0 : TY S_20 a0 3 := ty_ext hx22 Ta0
  have hE : Ext S0 S_20 := Ext.tr hE hx22
  refine lv_aload_n hx hb dX3_findBestCarrying_50 rfl (lv_at hl 3 rfl) ?_
  refine lv_iload_n hx hb dX3_findBestCarrying_51 rfl (lv_at hl 5 rfl) ?_
  refine lv_aload_n hx hb dX3_findBestCarrying_52 rfl (lv_at hl 3 rfl) ?_
  obtain ⟨q23, hq23, hm⟩ := bd_some hm
  have Tq23 : TY S_20 q23 14 := hw.wf.ref (k := 3) (j := 2) Ta0 (by decide) (by decide) hq23
  refine pg_rb (k := 3) (j := 2) (f := 302) hx hb hown hU iu3 hw Ta0 (by decide) rfl (hU _ tw241) rfl hq23 dX3_findBestCarrying_53 ?_
  obtain ⟨S_24, hq25, hm⟩ := bd_some hm
  refine pw_cv (va_runV (As := [.int x2, .ref q23]) (rest := []) ⟨hx, hb, hml, hown, hU⟩ (c_X3_weigh l C X n S_20 hw.wf _ a0 x2 q23 (Ta0) (Tq23) S_24 hq25) (cwV 2 hU (pq_gV tw1090 tw1092 ts84 tw8 tc_X3_weigh) rfl rfl rfl cd_X3_weigh ⟨Nat.le_of_ble_eq_true rfl, Nat.le_of_ble_eq_true rfl⟩) (pw_preV hw Ta0 (by decide) rfl) rfl rfl hl.1 rfl (lv_room (Nat.le_of_ble_eq_true rfl)) dX3_findBestCarrying_56 ⟨Nat.zero_le _, Nat.zero_le _⟩) hw (fun H locs hw hx26 => ?_)
  have Ta0 : TY S_24 a0 3 := ty_ext hx26 Ta0
  have hE : Ext S0 S_24 := Ext.tr hE hx26
  refine lv_iload hx hb dX3_findBestCarrying_59 (lv_at hl 0 rfl) ?_
  refine lv_aload_n hx hb dX3_findBestCarrying_61 rfl (lv_at hl 3 rfl) ?_
  obtain ⟨q27, hq27, hm⟩ := bd_some hm
  have Tq27 : TY S_24 q27 14 := hw.wf.ref (k := 3) (j := 1) Ta0 (by decide) (by decide) hq27
  refine pg_rb (k := 3) (j := 1) (f := 301) hx hb hown hU iu3 hw Ta0 (by decide) rfl (hU _ tw240) rfl hq27 dX3_findBestCarrying_62 ?_
  refine lv_iload_n hx hb dX3_findBestCarrying_65 rfl (lv_at hl 2 rfl) ?_
  obtain ⟨r30, S_28, hq29, hm⟩ := cb_some hm
  refine pw_ci (va_runS (As := [.ref q27, .int r6]) (rest := [.int r17]) ⟨hx, hb, hml, hown, hU⟩ (c_X3_bestBy l C X n S_24 hw.wf _ q27 r6 (Tq27) r30 S_28 hq29) ⟨callB_of 2 hU (pq_g1 tc_X3_bestBy) rfl rfl rfl (hU _ tw8) (hU _ tw1102) cd_X3_bestBy.2 ⟨Nat.le_of_ble_eq_true rfl, Nat.le_of_ble_eq_true rfl⟩, hU _ tw1103⟩ (pw_preS hw) rfl rfl hl.1 rfl (lv_room (Nat.le_of_ble_eq_true rfl)) dX3_findBestCarrying_66 ⟨Nat.zero_le _, Nat.zero_le _⟩) hw (fun H locs hw hx31 => ?_)
  have Ta0 : TY S_28 a0 3 := ty_ext hx31 Ta0
  have hE : Ext S0 S_28 := Ext.tr hE hx31
  obtain ⟨r34, S_32, hq33, hm⟩ := cb_some hm
  refine pw_ci (va_runS (As := [.int r30]) (rest := [.int r17]) ⟨hx, hb, hml, hown, hU⟩ (c_X3_worthOf l C X n S_28 hw.wf _ r30  r34 S_32 hq33) ⟨callB_of 1 hU (pq_g1 tc_X3_worthOf) rfl rfl rfl (hU _ tw8) (hU _ tw1106) cd_X3_worthOf.2 ⟨Nat.le_of_ble_eq_true rfl, Nat.le_of_ble_eq_true rfl⟩, hU _ tw1107⟩ (pw_preS hw) rfl rfl hl.1 rfl (lv_room (Nat.le_of_ble_eq_true rfl)) dX3_findBestCarrying_69 ⟨Nat.zero_le _, Nat.zero_le _⟩) hw (fun H locs hw hx35 => ?_)
  have Ta0 : TY S_32 a0 3 := ty_ext hx35 Ta0
  have hE : Ext S0 S_32 := Ext.tr hE hx35
  refine lv_isub hx hb dX3_findBestCarrying_72 ?_
  refine lv_aload_n hx hb dX3_findBestCarrying_73 rfl (lv_at hl 3 rfl) ?_
  obtain ⟨q36, hq36, hm⟩ := bd_some hm
  have Tq36 : TY S_32 q36 14 := hw.wf.ref (k := 3) (j := 2) Ta0 (by decide) (by decide) hq36
  refine pg_rb (k := 3) (j := 2) (f := 302) hx hb hown hU iu3 hw Ta0 (by decide) rfl (hU _ tw241) rfl hq36 dX3_findBestCarrying_74 ?_
  refine lv_iload hx hb dX3_findBestCarrying_77 (lv_at hl 1 rfl) ?_
  obtain ⟨r39, S_37, hq38, hm⟩ := cb_some hm
  refine pw_ci (va_runS (As := [.ref q36, .int r13]) (rest := [.int (r17 - r34)]) ⟨hx, hb, hml, hown, hU⟩ (c_X3_bestBy l C X n S_32 hw.wf _ q36 r13 (Tq36) r39 S_37 hq38) ⟨callB_of 2 hU (pq_g1 tc_X3_bestBy) rfl rfl rfl (hU _ tw8) (hU _ tw1102) cd_X3_bestBy.2 ⟨Nat.le_of_ble_eq_true rfl, Nat.le_of_ble_eq_true rfl⟩, hU _ tw1103⟩ (pw_preS hw) rfl rfl hl.1 rfl (lv_room (Nat.le_of_ble_eq_true rfl)) dX3_findBestCarrying_79 ⟨Nat.zero_le _, Nat.zero_le _⟩) hw (fun H locs hw hx40 => ?_)
  have Ta0 : TY S_37 a0 3 := ty_ext hx40 Ta0
  have hE : Ext S0 S_37 := Ext.tr hE hx40
  obtain ⟨r43, S_41, hq42, hm⟩ := cb_some hm
  refine pw_ci (va_runS (As := [.int r39]) (rest := [.int (r17 - r34)]) ⟨hx, hb, hml, hown, hU⟩ (c_X3_worthOf l C X n S_37 hw.wf _ r39  r43 S_41 hq42) ⟨callB_of 1 hU (pq_g1 tc_X3_worthOf) rfl rfl rfl (hU _ tw8) (hU _ tw1106) cd_X3_worthOf.2 ⟨Nat.le_of_ble_eq_true rfl, Nat.le_of_ble_eq_true rfl⟩, hU _ tw1107⟩ (pw_preS hw) rfl rfl hl.1 rfl (lv_room (Nat.le_of_ble_eq_true rfl)) dX3_findBestCarrying_82 ⟨Nat.zero_le _, Nat.zero_le _⟩) hw (fun H locs hw hx44 => ?_)
  have Ta0 : TY S_41 a0 3 := ty_ext hx44 Ta0
  have hE : Ext S0 S_41 := Ext.tr hE hx44
  refine lv_isub hx hb dX3_findBestCarrying_85 ?_
  refine lv_istore (lv' := [(6, .int ((r17 - r34) - r43)), (5, .int r17), (4, .int r13), (3, .int r6), (0, .ref a0), (1, .int x1), (2, .int x2)]) hx hb dX3_findBestCarrying_86 hl (by decide) rfl (fun ls hl => ?_)
  refine lv_aload_n hx hb dX3_findBestCarrying_88 rfl (lv_at hl 4 rfl) ?_
  refine lv_iconst (v := 0) hx hb dX3_findBestCarrying_89 (by decide) ?_
  refine pp_i (k := 3) (j := 4) (f := 304) hx hb hown hU iu3 tyX3_ok nmX3 hw Ta0 (by decide) rfl (hU _ tw243) rfl rfl rfl dX3_findBestCarrying_90 (fun H locs hw => ?_)
  refine lv_aload_n hx hb dX3_findBestCarrying_93 rfl (lv_at hl 4 rfl) ?_
  refine lv_iconst (v := (-1)) hx hb dX3_findBestCarrying_94 (by decide) ?_
  refine pp_i (k := 3) (j := 5) (f := 305) hx hb hown hU iu3 tyX3_ok nmX3 hw Ta0 (by decide) rfl (hU _ tw245) rfl rfl rfl dX3_findBestCarrying_95 (fun H locs hw => ?_)
  refine lv_iconst (v := 0) hx hb dX3_findBestCarrying_98 (by decide) ?_
  refine lv_istore (lv' := [(7, .int 0), (6, .int ((r17 - r34) - r43)), (5, .int r17), (4, .int r13), (3, .int r6), (0, .ref a0), (1, .int x1), (2, .int x2)]) hx hb dX3_findBestCarrying_99 hl (by decide) rfl (fun ls hl => ?_)
  exact wb_X3_findBestCarrying_101 cx C X S0 n S1 n a0 x1 x2 r6 r13 ((r17 - r34) - r43) 0 (sI (sI S_41 304 a0 0) 305 a0 (-1)) _ _ _ hw hE Ta0 (lv_sub hl [5, 6, 7, 4, 3, 1, 0] rfl) hm
abbrev rm_X3_clearingPrice : Room := { frames := 3, cells := 0, slots := 0, locals := 69 }
def b_X3_clearingPrice_11 (n : Nat) : Nat → Nat → Int32 → Int32 → Int32 → pq_S → Option (Int32 × pq_S)
  | 0, _, _, _, _, _ => none
  | f + 1, a0, x1, x2, x3, S => if 100 ≤ x3 then some (x3, S) else Option.bind (pR S 300 a0) fun q7 => cb (m_X7_hoursWanted n q7 x1 x3 S) fun r10 S_8 => if r10 ≤ x2 then some (x3, S_8) else b_X3_clearingPrice_11 n f a0 x1 x2 (x3 + 1) S_8
set_option maxHeartbeats 4000000 in
set_option maxRecDepth 100000 in
theorem wb_X3_clearingPrice_11 {p : Program} {l : Launch} {e : Env} {s : State} {m : MethodId} {args : Array Value} {below : List Frame} {meth : Method} {c : Code} (cx : Cx p s m args meth c cX3_clearingPrice 4 RX3 (some .int)) (C : pq_C) (X : va_W) (S0 : pq_S) (n : Nat) (r : Int32) (S1 : pq_S) : ∀ (f : Nat) (a0 : Nat) (x1 : Int32) (x2 : Int32) (x3 : Int32) (S : pq_S) (H : Heap) (locs : List Loc) (ls : Array Slot), PW C X S (pq_F C X S0 s.heap.size) H locs s → Ext S0 S → TY S a0 3 → lv_has ls 4 [(0, .ref a0), (1, .int x1), (2, .int x2), (3, .int x3)] → b_X3_clearingPrice_11 n f a0 x1 x2 x3 S = some (r, S1) → W p l e rm_X3_clearingPrice s m args below meth c H locs 0 0 (MQ below (QcI C X S0 s.heap.size r S1) args s 0 0 (pq_F C X S0 s.heap.size)) (F0 m 11 ls []) := by
  obtain ⟨hx, hb, hml, hown, hU, hr, hlk⟩ := id cx
  intro f
  induction f with
  | zero =>
    intro a0 x1 x2 x3 S H locs ls hw hE Ta0 hl hm
    cases hm
  | succ f ih =>
    intro a0 x1 x2 x3 S H locs ls hw hE Ta0 hl hm
    rw [b_X3_clearingPrice_11] at hm
    refine lv_iload_n hx hb dX3_clearingPrice_11 rfl (lv_at hl 3 rfl) ?_
    refine lv_bipush (v := 100) hx hb dX3_clearingPrice_12 (by decide) ?_
    refine lv_icmp_ge (tgt := 36) hx hb dX3_clearingPrice_14 (by decide) (fun h6 => ?_) (fun h6 => ?_)
    · rw [if_pos h6] at hm
      refine lv_iload_n hx hb dX3_clearingPrice_36 rfl (lv_at hl 3 rfl) ?_
      cases hm
      exact pw_iret hx hb hr rfl hlk hw hE dX3_clearingPrice_37
    · rw [if_neg h6] at hm
      refine lv_aload_n hx hb dX3_clearingPrice_17 rfl (lv_at hl 0 rfl) ?_
      obtain ⟨q7, hq7, hm⟩ := bd_some hm
      have Tq7 : TY S q7 7 := hw.wf.ref (k := 3) (j := 0) Ta0 (by decide) (by decide) hq7
      refine pg_rb (k := 3) (j := 0) (f := 300) hx hb hown hU iu3 hw Ta0 (by decide) rfl (hU _ tw239) rfl hq7 dX3_clearingPrice_18 ?_
      refine lv_iload_n hx hb dX3_clearingPrice_21 rfl (lv_at hl 1 rfl) ?_
      refine lv_iload_n hx hb dX3_clearingPrice_22 rfl (lv_at hl 3 rfl) ?_
      obtain ⟨r10, S_8, hq9, hm⟩ := cb_some hm
      refine pw_ci (va_runVN (As := [.int x1, .int x3]) (rest := []) ⟨hx, hb, hml, hown, hU⟩ (c_X7_hoursWanted l C X n S hw.wf _ q7 x1 x3 (Tq7) r10 S_8 hq9) ⟨va_cnB (host := "WickNights") 2 hU (pq_g1 tc_X7_hoursWanted) rfl rfl rfl (hw.nw 171 rfl) (hU _ tw3) cd_X7_hoursWanted.2 ⟨Nat.le_of_ble_eq_true rfl, Nat.le_of_ble_eq_true rfl⟩, hU _ tw1026, hU _ ts79⟩ (pw_preV hw Tq7 (by decide) rfl) rfl rfl hl.1 rfl (lv_room (Nat.le_of_ble_eq_true rfl)) dX3_clearingPrice_23 ⟨Nat.zero_le _, Nat.zero_le _⟩) hw (fun H locs hw hx11 => ?_)
      have Ta0 : TY S_8 a0 3 := ty_ext hx11 Ta0
      have hE : Ext S0 S_8 := Ext.tr hE hx11
      refine lv_iload_n hx hb dX3_clearingPrice_26 rfl (lv_at hl 2 rfl) ?_
      refine lv_icmp_le (tgt := 36) hx hb dX3_clearingPrice_27 (by decide) (fun h12 => ?_) (fun h12 => ?_)
      · rw [if_pos h12] at hm
        refine lv_iload_n hx hb dX3_clearingPrice_36 rfl (lv_at hl 3 rfl) ?_
        cases hm
        exact pw_iret hx hb hr rfl hlk hw hE dX3_clearingPrice_37
      · rw [if_neg h12] at hm
        refine lv_iinc (v := (x3 + 1)) (lv' := [(3, .int (x3 + 1)), (0, .ref a0), (1, .int x1), (2, .int x2)]) hx hb dX3_clearingPrice_30 hl (k := 3) rfl rfl (by decide) rfl (fun ls hl => ?_)
        refine lv_goto (tgt := 11) hx hb dX3_clearingPrice_33 (by decide) ?_
        exact ih a0 x1 x2 (x3 + 1) S_8 _ _ _ hw hE Ta0 (lv_sub hl [1, 2, 3, 0] rfl) hm
def m_X3_clearingPrice (n : Nat) (a0 : Nat) (x1 : Int32) (S0 : pq_S) : Option (Int32 × pq_S) := Option.bind (pR S0 300 a0) fun q1 => cb (m_X7_hoursAt n q1 x1 S0) fun r4 S_2 => b_X3_clearingPrice_11 n n a0 x1 r4 0 S_2
theorem tc_X3_clearingPrice : Cond.code yX3_clearingPrice cX3_clearingPrice 4 (some .int) ∈ pq_U := tw1146
theorem cd_X3_clearingPrice : yX3_clearingPrice.cls = RX3 ∧ yX3_clearingPrice.cls ≠ "java/lang/invoke/MethodHandle" ∧ yX3_clearingPrice.cls ≠ "java/lang/invoke/VarHandle" ∧ (parseMethodDescriptor yX3_clearingPrice.desc).map (fun d => d.parameters.length) = some 1 := by decide +kernel
set_option maxHeartbeats 4000000 in
set_option maxRecDepth 100000 in
theorem c_X3_clearingPrice (l : Launch) (C : pq_C) (X : va_W) (n : Nat) (S0 : pq_S) (hF : WF S0) (sz : Nat) (a0 : Nat) (x1 : Int32) (Ta0 : TY S0 a0 3) (r : Int32) (S1 : pq_S) (hm : m_X3_clearingPrice n a0 x1 S0 = some (r, S1)) : MI l yX3_clearingPrice (.code yX3_clearingPrice cX3_clearingPrice 4 (some .int) :: pq_U) rm_X3_clearingPrice C X S0 sz [.ref a0, .int x1] r S1 0 0 := by
  refine Met.ofW (cc := cX3_clearingPrice) (maxL := 4) (ret := (some .int)) (by decide) rfl ?_
  intro p e s m args below meth c s₁ B hml hv
  obtain ⟨rfl, hv⟩ := hv
  have hsz := hv.1
  subst hsz
  have hw := pw_entry hF hv
  have hts := atoms_spec (ws := .code yX3_clearingPrice cX3_clearingPrice 4 (some .int) :: pq_U) B.pre
  have hU : ∀ w ∈ pq_U, w.before _ s = true := fun w h => hts w (List.mem_cons_of_mem _ h)
  have hx := B.exec
  have hb := B.bytes
  have hr := B.returns
  have hown : s.vm.findClass RX3 = some m.cls := findClass_of_methodNamed B.named
  have hlk := B.notSynchronized
  have hl := lv_entry ([.ref a0, .int x1]) (n := 4) (Nat.le_of_ble_eq_true rfl)
  rw [lg_entry_eq]
  generalize (lg_sl ([.ref a0, .int x1]) ++ List.replicate (4 - (lg_sl ([.ref a0, .int x1])).length) Slot.unset).toArray = ls at hl ⊢
  have hl : lv_has ls 4 [(0, .ref a0), (1, .int x1)] := hl
  have hE : Ext S0 S0 := Ext.rf _
  have cx : Cx p s m _ meth c cX3_clearingPrice 4 RX3 (some .int) := ⟨hx, hb, hml, hown, hU, hr, hlk⟩
  rw [m_X3_clearingPrice] at hm
  refine lv_aload_n hx hb dX3_clearingPrice_0 rfl (lv_at hl 0 rfl) ?_
  obtain ⟨q1, hq1, hm⟩ := bd_some hm
  have Tq1 : TY S0 q1 7 := hw.wf.ref (k := 3) (j := 0) Ta0 (by decide) (by decide) hq1
  refine pg_rb (k := 3) (j := 0) (f := 300) hx hb hown hU iu3 hw Ta0 (by decide) rfl (hU _ tw239) rfl hq1 dX3_clearingPrice_1 ?_
  refine lv_iload_n hx hb dX3_clearingPrice_4 rfl (lv_at hl 1 rfl) ?_
  obtain ⟨r4, S_2, hq3, hm⟩ := cb_some hm
  refine pw_ci (va_runVN (As := [.int x1]) (rest := []) ⟨hx, hb, hml, hown, hU⟩ (c_X7_hoursAt l C X n S0 hw.wf _ q1 x1 (Tq1) r4 S_2 hq3) ⟨va_cnB (host := "WickNights") 1 hU (pq_g1 tc_X7_hoursAt) rfl rfl rfl (hw.nw 170 rfl) (hU _ tw3) cd_X7_hoursAt.2 ⟨Nat.le_of_ble_eq_true rfl, Nat.le_of_ble_eq_true rfl⟩, hU _ tw910, hU _ ts62⟩ (pw_preV hw Tq1 (by decide) rfl) rfl rfl hl.1 rfl (lv_room (Nat.le_of_ble_eq_true rfl)) dX3_clearingPrice_5 ⟨Nat.zero_le _, Nat.zero_le _⟩) hw (fun H locs hw hx5 => ?_)
  have Ta0 : TY S_2 a0 3 := ty_ext hx5 Ta0
  have hE : Ext S0 S_2 := Ext.tr hE hx5
  refine lv_istore_n (lv' := [(2, .int r4), (0, .ref a0), (1, .int x1)]) hx hb dX3_clearingPrice_8 rfl hl (by decide) rfl (fun ls hl => ?_)
  refine lv_iconst (v := 0) hx hb dX3_clearingPrice_9 (by decide) ?_
  refine lv_istore_n (lv' := [(3, .int 0), (2, .int r4), (0, .ref a0), (1, .int x1)]) hx hb dX3_clearingPrice_10 rfl hl (by decide) rfl (fun ls hl => ?_)
  exact wb_X3_clearingPrice_11 cx C X S0 n r S1 n a0 x1 r4 0 S_2 _ _ _ hw hE Ta0 (lv_sub hl [2, 3, 1, 0] rfl) hm
abbrev rm_X3_hoursToCorner : Room := { frames := 3, cells := 0, slots := 0, locals := 69 }
def m_X3_hoursToCorner (n : Nat) (a0 : Nat) (x1 : Int32) (x2 : Int32) (S0 : pq_S) : Option (Int32 × pq_S) := if x2 = 0 then some (0, S0) else Option.bind (pR S0 300 a0) fun q2 => cb (m_X7_hoursAt n q2 x1 S0) fun r5 S_3 => Option.bind (pR S_3 300 a0) fun q7 => cb (m_X7_hoursWanted n q7 x1 (x2 - (1 : Int32)) S_3) fun r10 S_8 => lt_ (if 0 < ((r5 - r10) + (1 : Int32)) then ((r5 - r10) + (1 : Int32)) else 0) fun v12 => Option.bind (pR S_8 300 a0) fun q13 => Option.bind (pR S_8 701 q13) fun q14 => Option.bind (pR S_8 800 q14) fun q15 => cb (m_X9_at n q15 x1 0 S_8) fun r18 S_16 => if r18 < v12 then some ((-1), S_16) else some (v12, S_16)
theorem tc_X3_hoursToCorner : Cond.code yX3_hoursToCorner cX3_hoursToCorner 4 (some .int) ∈ pq_U := tw1159
theorem cd_X3_hoursToCorner : yX3_hoursToCorner.cls = RX3 ∧ yX3_hoursToCorner.cls ≠ "java/lang/invoke/MethodHandle" ∧ yX3_hoursToCorner.cls ≠ "java/lang/invoke/VarHandle" ∧ (parseMethodDescriptor yX3_hoursToCorner.desc).map (fun d => d.parameters.length) = some 2 := by decide +kernel
set_option maxHeartbeats 4000000 in
set_option maxRecDepth 100000 in
theorem c_X3_hoursToCorner (l : Launch) (C : pq_C) (X : va_W) (n : Nat) (S0 : pq_S) (hF : WF S0) (sz : Nat) (a0 : Nat) (x1 : Int32) (x2 : Int32) (Ta0 : TY S0 a0 3) (r : Int32) (S1 : pq_S) (hm : m_X3_hoursToCorner n a0 x1 x2 S0 = some (r, S1)) : MI l yX3_hoursToCorner (.code yX3_hoursToCorner cX3_hoursToCorner 4 (some .int) :: pq_U) rm_X3_hoursToCorner C X S0 sz [.ref a0, .int x1, .int x2] r S1 0 0 := by
  refine Met.ofW (cc := cX3_hoursToCorner) (maxL := 4) (ret := (some .int)) (by decide) rfl ?_
  intro p e s m args below meth c s₁ B hml hv
  obtain ⟨rfl, hv⟩ := hv
  have hsz := hv.1
  subst hsz
  have hw := pw_entry hF hv
  have hts := atoms_spec (ws := .code yX3_hoursToCorner cX3_hoursToCorner 4 (some .int) :: pq_U) B.pre
  have hU : ∀ w ∈ pq_U, w.before _ s = true := fun w h => hts w (List.mem_cons_of_mem _ h)
  have hx := B.exec
  have hb := B.bytes
  have hr := B.returns
  have hown : s.vm.findClass RX3 = some m.cls := findClass_of_methodNamed B.named
  have hlk := B.notSynchronized
  have hl := lv_entry ([.ref a0, .int x1, .int x2]) (n := 4) (Nat.le_of_ble_eq_true rfl)
  rw [lg_entry_eq]
  generalize (lg_sl ([.ref a0, .int x1, .int x2]) ++ List.replicate (4 - (lg_sl ([.ref a0, .int x1, .int x2])).length) Slot.unset).toArray = ls at hl ⊢
  have hl : lv_has ls 4 [(0, .ref a0), (1, .int x1), (2, .int x2)] := hl
  have hE : Ext S0 S0 := Ext.rf _
  have cx : Cx p s m _ meth c cX3_hoursToCorner 4 RX3 (some .int) := ⟨hx, hb, hml, hown, hU, hr, hlk⟩
  rw [m_X3_hoursToCorner] at hm
  refine lv_iload_n hx hb dX3_hoursToCorner_0 rfl (lv_at hl 2 rfl) ?_
  refine lv_if_ne (tgt := 6) hx hb dX3_hoursToCorner_1 (by decide) (fun h1 => ?_) (fun h1 => ?_)
  · rw [if_neg h1] at hm
    refine lv_iconst (v := 0) hx hb dX3_hoursToCorner_6 (by decide) ?_
    refine lv_aload_n hx hb dX3_hoursToCorner_7 rfl (lv_at hl 0 rfl) ?_
    obtain ⟨q2, hq2, hm⟩ := bd_some hm
    have Tq2 : TY S0 q2 7 := hw.wf.ref (k := 3) (j := 0) Ta0 (by decide) (by decide) hq2
    refine pg_rb (k := 3) (j := 0) (f := 300) hx hb hown hU iu3 hw Ta0 (by decide) rfl (hU _ tw239) rfl hq2 dX3_hoursToCorner_8 ?_
    refine lv_iload_n hx hb dX3_hoursToCorner_11 rfl (lv_at hl 1 rfl) ?_
    obtain ⟨r5, S_3, hq4, hm⟩ := cb_some hm
    refine pw_ci (va_runVN (As := [.int x1]) (rest := [.int 0]) ⟨hx, hb, hml, hown, hU⟩ (c_X7_hoursAt l C X n S0 hw.wf _ q2 x1 (Tq2) r5 S_3 hq4) ⟨va_cnB (host := "WickNights") 1 hU (pq_g1 tc_X7_hoursAt) rfl rfl rfl (hw.nw 170 rfl) (hU _ tw3) cd_X7_hoursAt.2 ⟨Nat.le_of_ble_eq_true rfl, Nat.le_of_ble_eq_true rfl⟩, hU _ tw910, hU _ ts62⟩ (pw_preV hw Tq2 (by decide) rfl) rfl rfl hl.1 rfl (lv_room (Nat.le_of_ble_eq_true rfl)) dX3_hoursToCorner_12 ⟨Nat.zero_le _, Nat.zero_le _⟩) hw (fun H locs hw hx6 => ?_)
    have Ta0 : TY S_3 a0 3 := ty_ext hx6 Ta0
    have hE : Ext S0 S_3 := Ext.tr hE hx6
    refine lv_aload_n hx hb dX3_hoursToCorner_15 rfl (lv_at hl 0 rfl) ?_
    obtain ⟨q7, hq7, hm⟩ := bd_some hm
    have Tq7 : TY S_3 q7 7 := hw.wf.ref (k := 3) (j := 0) Ta0 (by decide) (by decide) hq7
    refine pg_rb (k := 3) (j := 0) (f := 300) hx hb hown hU iu3 hw Ta0 (by decide) rfl (hU _ tw239) rfl hq7 dX3_hoursToCorner_16 ?_
    refine lv_iload_n hx hb dX3_hoursToCorner_19 rfl (lv_at hl 1 rfl) ?_
    refine lv_iload_n hx hb dX3_hoursToCorner_20 rfl (lv_at hl 2 rfl) ?_
    refine lv_iconst (v := 1) hx hb dX3_hoursToCorner_21 (by decide) ?_
    refine lv_isub hx hb dX3_hoursToCorner_22 ?_
    obtain ⟨r10, S_8, hq9, hm⟩ := cb_some hm
    refine pw_ci (va_runVN (As := [.int x1, .int (x2 - (1 : Int32))]) (rest := [.int r5, .int 0]) ⟨hx, hb, hml, hown, hU⟩ (c_X7_hoursWanted l C X n S_3 hw.wf _ q7 x1 (x2 - (1 : Int32)) (Tq7) r10 S_8 hq9) ⟨va_cnB (host := "WickNights") 2 hU (pq_g1 tc_X7_hoursWanted) rfl rfl rfl (hw.nw 171 rfl) (hU _ tw3) cd_X7_hoursWanted.2 ⟨Nat.le_of_ble_eq_true rfl, Nat.le_of_ble_eq_true rfl⟩, hU _ tw1026, hU _ ts79⟩ (pw_preV hw Tq7 (by decide) rfl) rfl rfl hl.1 rfl (lv_room (Nat.le_of_ble_eq_true rfl)) dX3_hoursToCorner_23 ⟨Nat.zero_le _, Nat.zero_le _⟩) hw (fun H locs hw hx11 => ?_)
    have Ta0 : TY S_8 a0 3 := ty_ext hx11 Ta0
    have hE : Ext S0 S_8 := Ext.tr hE hx11
    refine lv_isub hx hb dX3_hoursToCorner_26 ?_
    refine lv_iconst (v := 1) hx hb dX3_hoursToCorner_27 (by decide) ?_
    refine lv_iadd hx hb dX3_hoursToCorner_28 ?_
    refine va_mmax hx hb (by rw [hml]; exact hl.1.symm) hown (hU _ tw1100) (hU _ twm_max_s) (hU _ twm_i) (hU _ twm_max_c) (Nat.le_of_ble_eq_true rfl) (Nat.le_of_ble_eq_true rfl) (Nat.zero_le _) (Nat.zero_le _) dX3_hoursToCorner_29 ?_
    obtain ⟨v12, ev12, hm⟩ := lt_some hm
    refine lv_nmI ev12 ?_
    refine lv_istore_n (lv' := [(3, .int v12), (0, .ref a0), (1, .int x1), (2, .int x2)]) hx hb dX3_hoursToCorner_32 rfl hl (by decide) rfl (fun ls hl => ?_)
    refine lv_iload_n hx hb dX3_hoursToCorner_33 rfl (lv_at hl 0 rfl) ?_
    refine lv_aload_n hx hb dX3_hoursToCorner_34 rfl (lv_at hl 1 rfl) ?_
    obtain ⟨q13, hq13, hm⟩ := bd_some hm
    have Tq13 : TY S_8 q13 7 := hw.wf.ref (k := 3) (j := 0) Ta0 (by decide) (by decide) hq13
    refine pg_rb (k := 3) (j := 0) (f := 300) hx hb hown hU iu3 hw Ta0 (by decide) rfl (hU _ tw239) rfl hq13 dX3_hoursToCorner_35 ?_
    obtain ⟨q14, hq14, hm⟩ := bd_some hm
    have Tq14 : TY S_8 q14 8 := hw.wf.ref (k := 7) (j := 1) Tq13 (by decide) (by decide) hq14
    refine pgN_rb (k := 7) (j := 1) (f := 701) hx hb hown hU iu7 hw Tq13 (by decide) rfl 58 rfl rfl hq14 dX3_hoursToCorner_38 ?_
    obtain ⟨q15, hq15, hm⟩ := bd_some hm
    have Tq15 : TY S_8 q15 9 := hw.wf.ref (k := 8) (j := 0) Tq14 (by decide) (by decide) hq15
    refine pgN_rb (k := 8) (j := 0) (f := 800) hx hb hown hU iu8 hw Tq14 (by decide) rfl 42 rfl rfl hq15 dX3_hoursToCorner_41 ?_
    refine lv_iload_n hx hb dX3_hoursToCorner_44 rfl (lv_at hl 2 rfl) ?_
    refine lv_iconst (v := 0) hx hb dX3_hoursToCorner_45 (by decide) ?_
    obtain ⟨r18, S_16, hq17, hm⟩ := cb_some hm
    refine pw_ci (va_runVN (As := [.int x1, .int 0]) (rest := [.int v12]) ⟨hx, hb, hml, hown, hU⟩ (c_X9_at l C X n S_8 hw.wf _ q15 x1 0 (Tq15) r18 S_16 hq17) ⟨va_cnB (host := "WickNights") 2 hU (pq_g1 tc_X9_at) rfl rfl rfl (hw.nw 164 rfl) (hU _ tw5) cd_X9_at.2 ⟨Nat.le_of_ble_eq_true rfl, Nat.le_of_ble_eq_true rfl⟩, hU _ tw719, hU _ ts32⟩ (pw_preV hw Tq15 (by decide) rfl) rfl rfl hl.1 rfl (lv_room (Nat.le_of_ble_eq_true rfl)) dX3_hoursToCorner_46 ⟨Nat.zero_le _, Nat.zero_le _⟩) hw (fun H locs hw hx19 => ?_)
    have Ta0 : TY S_16 a0 3 := ty_ext hx19 Ta0
    have hE : Ext S0 S_16 := Ext.tr hE hx19
    refine lv_icmp_gt (tgt := 56) hx hb dX3_hoursToCorner_49 (by decide) (fun h20 => ?_) (fun h20 => ?_)
    · rw [if_pos h20] at hm
      refine lv_iconst (v := (-1)) hx hb dX3_hoursToCorner_56 (by decide) ?_
      cases hm
      exact pw_iret hx hb hr rfl hlk hw hE dX3_hoursToCorner_57
    · rw [if_neg h20] at hm
      refine lv_iload_n hx hb dX3_hoursToCorner_52 rfl (lv_at hl 0 rfl) ?_
      refine lv_goto (tgt := 57) hx hb dX3_hoursToCorner_53 (by decide) ?_
      cases hm
      exact pw_iret hx hb hr rfl hlk hw hE dX3_hoursToCorner_57
  · rw [if_pos h1] at hm
    refine lv_iconst (v := 0) hx hb dX3_hoursToCorner_4 (by decide) ?_
    cases hm
    exact pw_iret hx hb hr rfl hlk hw hE dX3_hoursToCorner_5
abbrev rm_X3_gained : Room := { frames := 2, cells := 0, slots := 0, locals := 45 }
def b_X3_gained_101 (n : Nat) (k9 : Nat → Int32 → Int32 → Int32 → Int32 → Int32 → pq_S → Option (Int32 × pq_S)) (a0 : Nat) (x1 : Int32) (x2 : Int32) (x3 : Int32) (x4 : Int32) (x5 : Int32) (S : pq_S) : Option (Int32 × pq_S) := k9 a0 x1 x2 x3 x4 (x5 + 1) S
set_option maxHeartbeats 4000000 in
set_option maxRecDepth 100000 in
theorem wb_X3_gained_101 {p : Program} {l : Launch} {e : Env} {s : State} {m : MethodId} {args : Array Value} {below : List Frame} {meth : Method} {c : Code} (cx : Cx p s m args meth c cX3_gained 7 RX3 (some .int)) (C : pq_C) (X : va_W) (S0 : pq_S) (n : Nat) (r : Int32) (S1 : pq_S) (k9 : Nat → Int32 → Int32 → Int32 → Int32 → Int32 → pq_S → Option (Int32 × pq_S)) (hk9 : ∀ (a0 : Nat) (x1 : Int32) (x2 : Int32) (x3 : Int32) (x4 : Int32) (x5 : Int32) (S : pq_S) (H : Heap) (locs : List Loc) (ls : Array Slot), PW C X S (pq_F C X S0 s.heap.size) H locs s → Ext S0 S → TY S a0 3 → lv_has ls 7 [(0, .ref a0), (1, .int x1), (2, .int x2), (3, .int x3), (4, .int x4), (5, .int x5)] → k9 a0 x1 x2 x3 x4 x5 S = some (r, S1) → W p l e rm_X3_gained s m args below meth c H locs 0 0 (MQ below (QcI C X S0 s.heap.size r S1) args s 0 0 (pq_F C X S0 s.heap.size)) (F0 m 13 ls [])) : ∀ (a0 : Nat) (x1 : Int32) (x2 : Int32) (x3 : Int32) (x4 : Int32) (x5 : Int32) (S : pq_S) (H : Heap) (locs : List Loc) (ls : Array Slot), PW C X S (pq_F C X S0 s.heap.size) H locs s → Ext S0 S → TY S a0 3 → lv_has ls 7 [(0, .ref a0), (1, .int x1), (2, .int x2), (3, .int x3), (4, .int x4), (5, .int x5)] → b_X3_gained_101 n k9 a0 x1 x2 x3 x4 x5 S = some (r, S1) → W p l e rm_X3_gained s m args below meth c H locs 0 0 (MQ below (QcI C X S0 s.heap.size r S1) args s 0 0 (pq_F C X S0 s.heap.size)) (F0 m 101 ls []) := by
  obtain ⟨hx, hb, hml, hown, hU, hr, hlk⟩ := id cx
  intro a0 x1 x2 x3 x4 x5 S H locs ls hw hE Ta0 hl hm
  rw [b_X3_gained_101] at hm
  refine lv_iinc (v := (x5 + 1)) (lv' := [(5, .int (x5 + 1)), (0, .ref a0), (1, .int x1), (2, .int x2), (3, .int x3), (4, .int x4)]) hx hb dX3_gained_101 hl (k := 5) rfl rfl (by decide) rfl (fun ls hl => ?_)
  refine lv_goto (tgt := 13) hx hb dX3_gained_104 (by decide) ?_
  exact hk9 a0 x1 x2 x3 x4 (x5 + 1) S _ _ _ hw hE Ta0 (lv_sub hl [1, 2, 3, 4, 5, 0] rfl) hm
def b_X3_gained_98 (n : Nat) (k9 : Nat → Int32 → Int32 → Int32 → Int32 → Int32 → pq_S → Option (Int32 × pq_S)) (a0 : Nat) (x1 : Int32) (x2 : Int32) (x3 : Int32) (x5 : Int32) (z0 : Int32) (z1 : Int32) (S : pq_S) : Option (Int32 × pq_S) := b_X3_gained_101 n k9 a0 x1 x2 x3 (z0 + z1) x5 S
set_option maxHeartbeats 4000000 in
set_option maxRecDepth 100000 in
theorem wb_X3_gained_98 {p : Program} {l : Launch} {e : Env} {s : State} {m : MethodId} {args : Array Value} {below : List Frame} {meth : Method} {c : Code} (cx : Cx p s m args meth c cX3_gained 7 RX3 (some .int)) (C : pq_C) (X : va_W) (S0 : pq_S) (n : Nat) (r : Int32) (S1 : pq_S) (k9 : Nat → Int32 → Int32 → Int32 → Int32 → Int32 → pq_S → Option (Int32 × pq_S)) (hk9 : ∀ (a0 : Nat) (x1 : Int32) (x2 : Int32) (x3 : Int32) (x4 : Int32) (x5 : Int32) (S : pq_S) (H : Heap) (locs : List Loc) (ls : Array Slot), PW C X S (pq_F C X S0 s.heap.size) H locs s → Ext S0 S → TY S a0 3 → lv_has ls 7 [(0, .ref a0), (1, .int x1), (2, .int x2), (3, .int x3), (4, .int x4), (5, .int x5)] → k9 a0 x1 x2 x3 x4 x5 S = some (r, S1) → W p l e rm_X3_gained s m args below meth c H locs 0 0 (MQ below (QcI C X S0 s.heap.size r S1) args s 0 0 (pq_F C X S0 s.heap.size)) (F0 m 13 ls [])) : ∀ (a0 : Nat) (x1 : Int32) (x2 : Int32) (x3 : Int32) (x5 : Int32) (z0 : Int32) (z1 : Int32) (S : pq_S) (H : Heap) (locs : List Loc) (ls : Array Slot), PW C X S (pq_F C X S0 s.heap.size) H locs s → Ext S0 S → TY S a0 3 → lv_has ls 7 [(0, .ref a0), (1, .int x1), (2, .int x2), (3, .int x3), (5, .int x5)] → b_X3_gained_98 n k9 a0 x1 x2 x3 x5 z0 z1 S = some (r, S1) → W p l e rm_X3_gained s m args below meth c H locs 0 0 (MQ below (QcI C X S0 s.heap.size r S1) args s 0 0 (pq_F C X S0 s.heap.size)) (F0 m 98 ls [.int z1, .int z0]) := by
  obtain ⟨hx, hb, hml, hown, hU, hr, hlk⟩ := id cx
  intro a0 x1 x2 x3 x5 z0 z1 S H locs ls hw hE Ta0 hl hm
  rw [b_X3_gained_98] at hm
  refine lv_iadd hx hb dX3_gained_98 ?_
  refine lv_istore (lv' := [(4, .int (z0 + z1)), (0, .ref a0), (1, .int x1), (2, .int x2), (3, .int x3), (5, .int x5)]) hx hb dX3_gained_99 hl (by decide) rfl (fun ls hl => ?_)
  exact wb_X3_gained_101 cx C X S0 n r S1 _ hk9 a0 x1 x2 x3 (z0 + z1) x5 S _ _ _ hw hE Ta0 (lv_sub hl [1, 2, 3, 4, 0, 5] rfl) hm
def b_X3_gained_107 (n : Nat) (x2 : Int32) (x4 : Int32) (S : pq_S) : Option (Int32 × pq_S) := some ((x4 * x2), S)
set_option maxHeartbeats 4000000 in
set_option maxRecDepth 100000 in
theorem wb_X3_gained_107 {p : Program} {l : Launch} {e : Env} {s : State} {m : MethodId} {args : Array Value} {below : List Frame} {meth : Method} {c : Code} (cx : Cx p s m args meth c cX3_gained 7 RX3 (some .int)) (C : pq_C) (X : va_W) (S0 : pq_S) (n : Nat) (r : Int32) (S1 : pq_S) : ∀ (x2 : Int32) (x4 : Int32) (S : pq_S) (H : Heap) (locs : List Loc) (ls : Array Slot), PW C X S (pq_F C X S0 s.heap.size) H locs s → Ext S0 S → lv_has ls 7 [(2, .int x2), (4, .int x4)] → b_X3_gained_107 n x2 x4 S = some (r, S1) → W p l e rm_X3_gained s m args below meth c H locs 0 0 (MQ below (QcI C X S0 s.heap.size r S1) args s 0 0 (pq_F C X S0 s.heap.size)) (F0 m 107 ls []) := by
  obtain ⟨hx, hb, hml, hown, hU, hr, hlk⟩ := id cx
  intro x2 x4 S H locs ls hw hE hl hm
  rw [b_X3_gained_107] at hm
  refine lv_iload hx hb dX3_gained_107 (lv_at hl 1 rfl) ?_
  refine lv_iload_n hx hb dX3_gained_109 rfl (lv_at hl 0 rfl) ?_
  refine lv_imul hx hb dX3_gained_110 ?_
  cases hm
  exact pw_iret hx hb hr rfl hlk hw hE dX3_gained_111
def b_X3_gained_13 (n : Nat) : Nat → Nat → Int32 → Int32 → Int32 → Int32 → Int32 → pq_S → Option (Int32 × pq_S)
  | 0, _, _, _, _, _, _, _ => none
  | f + 1, a0, x1, x2, x3, x4, x5, S => Option.bind (pR S 300 a0) fun q2 => Option.bind (pR S 700 q2) fun q3 => Option.bind (pR S 101 q3) fun q4 => if (pI S 902 q4) ≤ x5 then b_X3_gained_107 n x2 x4 S else Option.bind (pR S 300 a0) fun q6 => cb (m_X7_isOpenAt n q6 x5 x1 S) fun r9 S_7 => if r9 = 0 then b_X3_gained_101 n (b_X3_gained_13 n f) a0 x1 x2 x3 x4 x5 S_7 else Option.bind (pR S_7 300 a0) fun q13 => Option.bind (pR S_7 700 q13) fun q14 => Option.bind (pR S_7 101 q14) fun q15 => cb (m_X9_at n q15 x5 3 S_7) fun r18 S_16 => if r18 < x2 then b_X3_gained_101 n (b_X3_gained_13 n f) a0 x1 x2 x3 x4 x5 S_16 else Option.bind (pR S_16 300 a0) fun q21 => Option.bind (pR S_16 700 q21) fun q22 => Option.bind (pR S_16 101 q22) fun q23 => cb (m_X9_at n q23 x5 1 S_16) fun r26 S_24 => if x3 ≤ x2 then b_X3_gained_98 n (b_X3_gained_13 n f) a0 x1 x2 x3 x5 x4 (r26 / 2) S_24 else b_X3_gained_98 n (b_X3_gained_13 n f) a0 x1 x2 x3 x5 x4 r26 S_24
set_option maxHeartbeats 4000000 in
set_option maxRecDepth 100000 in
theorem wb_X3_gained_13 {p : Program} {l : Launch} {e : Env} {s : State} {m : MethodId} {args : Array Value} {below : List Frame} {meth : Method} {c : Code} (cx : Cx p s m args meth c cX3_gained 7 RX3 (some .int)) (C : pq_C) (X : va_W) (S0 : pq_S) (n : Nat) (r : Int32) (S1 : pq_S) : ∀ (f : Nat) (a0 : Nat) (x1 : Int32) (x2 : Int32) (x3 : Int32) (x4 : Int32) (x5 : Int32) (S : pq_S) (H : Heap) (locs : List Loc) (ls : Array Slot), PW C X S (pq_F C X S0 s.heap.size) H locs s → Ext S0 S → TY S a0 3 → lv_has ls 7 [(0, .ref a0), (1, .int x1), (2, .int x2), (3, .int x3), (4, .int x4), (5, .int x5)] → b_X3_gained_13 n f a0 x1 x2 x3 x4 x5 S = some (r, S1) → W p l e rm_X3_gained s m args below meth c H locs 0 0 (MQ below (QcI C X S0 s.heap.size r S1) args s 0 0 (pq_F C X S0 s.heap.size)) (F0 m 13 ls []) := by
  obtain ⟨hx, hb, hml, hown, hU, hr, hlk⟩ := id cx
  intro f
  induction f with
  | zero =>
    intro a0 x1 x2 x3 x4 x5 S H locs ls hw hE Ta0 hl hm
    cases hm
  | succ f ih =>
    intro a0 x1 x2 x3 x4 x5 S H locs ls hw hE Ta0 hl hm
    rw [b_X3_gained_13] at hm
    refine lv_iload hx hb dX3_gained_13 (lv_at hl 5 rfl) ?_
    refine lv_aload_n hx hb dX3_gained_15 rfl (lv_at hl 0 rfl) ?_
    obtain ⟨q2, hq2, hm⟩ := bd_some hm
    have Tq2 : TY S q2 7 := hw.wf.ref (k := 3) (j := 0) Ta0 (by decide) (by decide) hq2
    refine pg_rb (k := 3) (j := 0) (f := 300) hx hb hown hU iu3 hw Ta0 (by decide) rfl (hU _ tw239) rfl hq2 dX3_gained_16 ?_
    obtain ⟨q3, hq3, hm⟩ := bd_some hm
    have Tq3 : TY S q3 1 := hw.wf.ref (k := 7) (j := 0) Tq2 (by decide) (by decide) hq3
    refine pgN_rb (k := 7) (j := 0) (f := 700) hx hb hown hU iu7 hw Tq2 (by decide) rfl 57 rfl rfl hq3 dX3_gained_19 ?_
    obtain ⟨q4, hq4, hm⟩ := bd_some hm
    have Tq4 : TY S q4 9 := hw.wf.ref (k := 1) (j := 1) Tq3 (by decide) (by decide) hq4
    refine pgN_rb (k := 1) (j := 1) (f := 101) hx hb hown hU iu1 hw Tq3 (by decide) rfl 30 rfl rfl hq4 dX3_gained_22 ?_
    refine pgN_i (k := 9) (j := 2) (f := 902) hx hb hown hU iu9 hw Tq4 (by decide) rfl 17 rfl rfl dX3_gained_25 ?_
    refine lv_icmp_ge (tgt := 107) hx hb dX3_gained_28 (by decide) (fun h5 => ?_) (fun h5 => ?_)
    · rw [if_pos h5] at hm
      exact wb_X3_gained_107 cx C X S0 n r S1 x2 x4 S _ _ _ hw hE  (lv_sub hl [2, 4] rfl) hm
    · rw [if_neg h5] at hm
      refine lv_aload_n hx hb dX3_gained_31 rfl (lv_at hl 0 rfl) ?_
      obtain ⟨q6, hq6, hm⟩ := bd_some hm
      have Tq6 : TY S q6 7 := hw.wf.ref (k := 3) (j := 0) Ta0 (by decide) (by decide) hq6
      refine pg_rb (k := 3) (j := 0) (f := 300) hx hb hown hU iu3 hw Ta0 (by decide) rfl (hU _ tw239) rfl hq6 dX3_gained_32 ?_
      refine lv_iload hx hb dX3_gained_35 (lv_at hl 5 rfl) ?_
      refine lv_iload_n hx hb dX3_gained_37 rfl (lv_at hl 1 rfl) ?_
      obtain ⟨r9, S_7, hq8, hm⟩ := cb_some hm
      refine pw_cz (va_runVN (As := [.int x5, .int x1]) (rest := []) ⟨hx, hb, hml, hown, hU⟩ (c_X7_isOpenAt l C X n S hw.wf _ q6 x5 x1 (Tq6) r9 S_7 hq8) ⟨va_cnB (host := "WickNights") 2 hU (pq_g1 tc_X7_isOpenAt) rfl rfl rfl (hw.nw 165 rfl) (hU _ tw3) cd_X7_isOpenAt.2 ⟨Nat.le_of_ble_eq_true rfl, Nat.le_of_ble_eq_true rfl⟩, hU _ tw1030, hU _ ts80⟩ (pw_preV hw Tq6 (by decide) rfl) rfl rfl hl.1 rfl (lv_room (Nat.le_of_ble_eq_true rfl)) dX3_gained_38 ⟨Nat.zero_le _, Nat.zero_le _⟩) hw (fun H locs hw hx10 hz11 => ?_)
      have Ta0 : TY S_7 a0 3 := ty_ext hx10 Ta0
      have hE : Ext S0 S_7 := Ext.tr hE hx10
      refine lv_if_eq (tgt := 101) hx hb dX3_gained_41 (by decide) (fun h12 => ?_) (fun h12 => ?_)
      · rw [if_pos h12] at hm
        exact wb_X3_gained_101 cx C X S0 n r S1 _ ih a0 x1 x2 x3 x4 x5 S_7 _ _ _ hw hE Ta0 (lv_sub hl [0, 1, 2, 3, 4, 5] rfl) hm
      · rw [if_neg h12] at hm
        refine lv_aload_n hx hb dX3_gained_44 rfl (lv_at hl 0 rfl) ?_
        obtain ⟨q13, hq13, hm⟩ := bd_some hm
        have Tq13 : TY S_7 q13 7 := hw.wf.ref (k := 3) (j := 0) Ta0 (by decide) (by decide) hq13
        refine pg_rb (k := 3) (j := 0) (f := 300) hx hb hown hU iu3 hw Ta0 (by decide) rfl (hU _ tw239) rfl hq13 dX3_gained_45 ?_
        obtain ⟨q14, hq14, hm⟩ := bd_some hm
        have Tq14 : TY S_7 q14 1 := hw.wf.ref (k := 7) (j := 0) Tq13 (by decide) (by decide) hq14
        refine pgN_rb (k := 7) (j := 0) (f := 700) hx hb hown hU iu7 hw Tq13 (by decide) rfl 57 rfl rfl hq14 dX3_gained_48 ?_
        obtain ⟨q15, hq15, hm⟩ := bd_some hm
        have Tq15 : TY S_7 q15 9 := hw.wf.ref (k := 1) (j := 1) Tq14 (by decide) (by decide) hq15
        refine pgN_rb (k := 1) (j := 1) (f := 101) hx hb hown hU iu1 hw Tq14 (by decide) rfl 30 rfl rfl hq15 dX3_gained_51 ?_
        refine lv_iload hx hb dX3_gained_54 (lv_at hl 5 rfl) ?_
        refine lv_iconst (v := 3) hx hb dX3_gained_56 (by decide) ?_
        obtain ⟨r18, S_16, hq17, hm⟩ := cb_some hm
        refine pw_ci (va_runVN (As := [.int x5, .int 3]) (rest := []) ⟨hx, hb, hml, hown, hU⟩ (c_X9_at l C X n S_7 hw.wf _ q15 x5 3 (Tq15) r18 S_16 hq17) ⟨va_cnB (host := "WickNights") 2 hU (pq_g1 tc_X9_at) rfl rfl rfl (hw.nw 164 rfl) (hU _ tw5) cd_X9_at.2 ⟨Nat.le_of_ble_eq_true rfl, Nat.le_of_ble_eq_true rfl⟩, hU _ tw719, hU _ ts32⟩ (pw_preV hw Tq15 (by decide) rfl) rfl rfl hl.1 rfl (lv_room (Nat.le_of_ble_eq_true rfl)) dX3_gained_57 ⟨Nat.zero_le _, Nat.zero_le _⟩) hw (fun H locs hw hx19 => ?_)
        have Ta0 : TY S_16 a0 3 := ty_ext hx19 Ta0
        have hE : Ext S0 S_16 := Ext.tr hE hx19
        refine lv_iload_n hx hb dX3_gained_60 rfl (lv_at hl 2 rfl) ?_
        refine lv_icmp_lt (tgt := 101) hx hb dX3_gained_61 (by decide) (fun h20 => ?_) (fun h20 => ?_)
        · rw [if_pos h20] at hm
          exact wb_X3_gained_101 cx C X S0 n r S1 _ ih a0 x1 x2 x3 x4 x5 S_16 _ _ _ hw hE Ta0 (lv_sub hl [0, 1, 2, 3, 4, 5] rfl) hm
        · rw [if_neg h20] at hm
          refine lv_aload_n hx hb dX3_gained_64 rfl (lv_at hl 0 rfl) ?_
          obtain ⟨q21, hq21, hm⟩ := bd_some hm
          have Tq21 : TY S_16 q21 7 := hw.wf.ref (k := 3) (j := 0) Ta0 (by decide) (by decide) hq21
          refine pg_rb (k := 3) (j := 0) (f := 300) hx hb hown hU iu3 hw Ta0 (by decide) rfl (hU _ tw239) rfl hq21 dX3_gained_65 ?_
          obtain ⟨q22, hq22, hm⟩ := bd_some hm
          have Tq22 : TY S_16 q22 1 := hw.wf.ref (k := 7) (j := 0) Tq21 (by decide) (by decide) hq22
          refine pgN_rb (k := 7) (j := 0) (f := 700) hx hb hown hU iu7 hw Tq21 (by decide) rfl 57 rfl rfl hq22 dX3_gained_68 ?_
          obtain ⟨q23, hq23, hm⟩ := bd_some hm
          have Tq23 : TY S_16 q23 9 := hw.wf.ref (k := 1) (j := 1) Tq22 (by decide) (by decide) hq23
          refine pgN_rb (k := 1) (j := 1) (f := 101) hx hb hown hU iu1 hw Tq22 (by decide) rfl 30 rfl rfl hq23 dX3_gained_71 ?_
          refine lv_iload hx hb dX3_gained_74 (lv_at hl 5 rfl) ?_
          refine lv_iconst (v := 1) hx hb dX3_gained_76 (by decide) ?_
          obtain ⟨r26, S_24, hq25, hm⟩ := cb_some hm
          refine pw_ci (va_runVN (As := [.int x5, .int 1]) (rest := []) ⟨hx, hb, hml, hown, hU⟩ (c_X9_at l C X n S_16 hw.wf _ q23 x5 1 (Tq23) r26 S_24 hq25) ⟨va_cnB (host := "WickNights") 2 hU (pq_g1 tc_X9_at) rfl rfl rfl (hw.nw 164 rfl) (hU _ tw5) cd_X9_at.2 ⟨Nat.le_of_ble_eq_true rfl, Nat.le_of_ble_eq_true rfl⟩, hU _ tw719, hU _ ts32⟩ (pw_preV hw Tq23 (by decide) rfl) rfl rfl hl.1 rfl (lv_room (Nat.le_of_ble_eq_true rfl)) dX3_gained_77 ⟨Nat.zero_le _, Nat.zero_le _⟩) hw (fun H locs hw hx27 => ?_)
          have Ta0 : TY S_24 a0 3 := ty_ext hx27 Ta0
          have hE : Ext S0 S_24 := Ext.tr hE hx27
          refine lv_istore (lv' := [(6, .int r26), (0, .ref a0), (1, .int x1), (2, .int x2), (3, .int x3), (4, .int x4), (5, .int x5)]) hx hb dX3_gained_80 hl (by decide) rfl (fun ls hl => ?_)
          refine lv_iload hx hb dX3_gained_82 (lv_at hl 5 rfl) ?_
          refine lv_iload_n hx hb dX3_gained_84 rfl (lv_at hl 3 rfl) ?_
          refine lv_iload_n hx hb dX3_gained_85 rfl (lv_at hl 4 rfl) ?_
          refine lv_icmp_ge (tgt := 94) hx hb dX3_gained_86 (by decide) (fun h28 => ?_) (fun h28 => ?_)
          · rw [if_pos h28] at hm
            refine lv_iload hx hb dX3_gained_94 (lv_at hl 0 rfl) ?_
            refine lv_iconst (v := 2) hx hb dX3_gained_96 (by decide) ?_
            refine lv_idiv hx hb dX3_gained_97 (by decide) ?_
            exact wb_X3_gained_98 cx C X S0 n r S1 _ ih a0 x1 x2 x3 x5 x4 (r26 / 2) S_24 _ _ _ hw hE Ta0 (lv_sub hl [1, 2, 3, 4, 6] rfl) hm
          · rw [if_neg h28] at hm
            refine lv_iload hx hb dX3_gained_89 (lv_at hl 0 rfl) ?_
            refine lv_goto (tgt := 98) hx hb dX3_gained_91 (by decide) ?_
            exact wb_X3_gained_98 cx C X S0 n r S1 _ ih a0 x1 x2 x3 x5 x4 r26 S_24 _ _ _ hw hE Ta0 (lv_sub hl [1, 2, 3, 4, 6] rfl) hm
def m_X3_gained (n : Nat) (a0 : Nat) (x1 : Int32) (x2 : Int32) (x3 : Int32) (S0 : pq_S) : Option (Int32 × pq_S) := if x2 ≤ x3 then b_X3_gained_13 n n a0 x1 x2 x3 0 0 S0 else some (0, S0)
theorem tc_X3_gained : Cond.code yX3_gained cX3_gained 7 (some .int) ∈ pq_U := tw1337
theorem cd_X3_gained : yX3_gained.cls = RX3 ∧ yX3_gained.cls ≠ "java/lang/invoke/MethodHandle" ∧ yX3_gained.cls ≠ "java/lang/invoke/VarHandle" ∧ (parseMethodDescriptor yX3_gained.desc).map (fun d => d.parameters.length) = some 3 := by decide +kernel
set_option maxHeartbeats 4000000 in
set_option maxRecDepth 100000 in
theorem c_X3_gained (l : Launch) (C : pq_C) (X : va_W) (n : Nat) (S0 : pq_S) (hF : WF S0) (sz : Nat) (a0 : Nat) (x1 : Int32) (x2 : Int32) (x3 : Int32) (Ta0 : TY S0 a0 3) (r : Int32) (S1 : pq_S) (hm : m_X3_gained n a0 x1 x2 x3 S0 = some (r, S1)) : MI l yX3_gained (.code yX3_gained cX3_gained 7 (some .int) :: pq_U) rm_X3_gained C X S0 sz [.ref a0, .int x1, .int x2, .int x3] r S1 0 0 := by
  refine Met.ofW (cc := cX3_gained) (maxL := 7) (ret := (some .int)) (by decide) rfl ?_
  intro p e s m args below meth c s₁ B hml hv
  obtain ⟨rfl, hv⟩ := hv
  have hsz := hv.1
  subst hsz
  have hw := pw_entry hF hv
  have hts := atoms_spec (ws := .code yX3_gained cX3_gained 7 (some .int) :: pq_U) B.pre
  have hU : ∀ w ∈ pq_U, w.before _ s = true := fun w h => hts w (List.mem_cons_of_mem _ h)
  have hx := B.exec
  have hb := B.bytes
  have hr := B.returns
  have hown : s.vm.findClass RX3 = some m.cls := findClass_of_methodNamed B.named
  have hlk := B.notSynchronized
  have hl := lv_entry ([.ref a0, .int x1, .int x2, .int x3]) (n := 7) (Nat.le_of_ble_eq_true rfl)
  rw [lg_entry_eq]
  generalize (lg_sl ([.ref a0, .int x1, .int x2, .int x3]) ++ List.replicate (7 - (lg_sl ([.ref a0, .int x1, .int x2, .int x3])).length) Slot.unset).toArray = ls at hl ⊢
  have hl : lv_has ls 7 [(0, .ref a0), (1, .int x1), (2, .int x2), (3, .int x3)] := hl
  have hE : Ext S0 S0 := Ext.rf _
  have cx : Cx p s m _ meth c cX3_gained 7 RX3 (some .int) := ⟨hx, hb, hml, hown, hU, hr, hlk⟩
  rw [m_X3_gained] at hm
  refine lv_iload_n hx hb dX3_gained_0 rfl (lv_at hl 2 rfl) ?_
  refine lv_iload_n hx hb dX3_gained_1 rfl (lv_at hl 3 rfl) ?_
  refine lv_icmp_le (tgt := 7) hx hb dX3_gained_2 (by decide) (fun h1 => ?_) (fun h1 => ?_)
  · rw [if_pos h1] at hm
    refine lv_iconst (v := 0) hx hb dX3_gained_7 (by decide) ?_
    refine lv_istore (lv' := [(4, .int 0), (0, .ref a0), (1, .int x1), (2, .int x2), (3, .int x3)]) hx hb dX3_gained_8 hl (by decide) rfl (fun ls hl => ?_)
    refine lv_iconst (v := 0) hx hb dX3_gained_10 (by decide) ?_
    refine lv_istore (lv' := [(5, .int 0), (4, .int 0), (0, .ref a0), (1, .int x1), (2, .int x2), (3, .int x3)]) hx hb dX3_gained_11 hl (by decide) rfl (fun ls hl => ?_)
    exact wb_X3_gained_13 cx C X S0 n r S1 n a0 x1 x2 x3 0 0 S0 _ _ _ hw hE Ta0 (lv_sub hl [2, 3, 4, 5, 1, 0] rfl) hm
  · rw [if_neg h1] at hm
    refine lv_iconst (v := 0) hx hb dX3_gained_5 (by decide) ?_
    cases hm
    exact pw_iret hx hb hr rfl hlk hw hE dX3_gained_6
abbrev rm_X3_isBestAgainst : Room := { frames := 3, cells := 0, slots := 0, locals := 71 }
def m_X3_isBestAgainst (n : Nat) (a0 : Nat) (x1 : Int32) (x2 : Int32) (x3 : Int32) (S0 : pq_S) : Option (Int32 × pq_S) := if x3 < 0 then some (0, S0) else Option.bind (pR S0 303 a0) fun q2 => if (Int32.ofNat (pN S0 q2)) ≤ x3 then some (0, S0) else cb (m_X3_gained n a0 x1 x2 x3 S0) fun r6 S_4 => Option.bind (pR S_4 303 a0) fun q8 => ck (ix x3 (pN S_4 q8)) (dix _ _) (if r6 = (pA S_4 q8 (Int32.toNatClampNeg x3)) then some (1, S_4) else some (0, S_4))
theorem tc_X3_isBestAgainst : Cond.code yX3_isBestAgainst cX3_isBestAgainst 4 (some .boolean) ∈ pq_U := tw1345
theorem cd_X3_isBestAgainst : yX3_isBestAgainst.cls = RX3 ∧ yX3_isBestAgainst.cls ≠ "java/lang/invoke/MethodHandle" ∧ yX3_isBestAgainst.cls ≠ "java/lang/invoke/VarHandle" ∧ (parseMethodDescriptor yX3_isBestAgainst.desc).map (fun d => d.parameters.length) = some 3 := by decide +kernel
set_option maxHeartbeats 4000000 in
set_option maxRecDepth 100000 in
theorem c_X3_isBestAgainst (l : Launch) (C : pq_C) (X : va_W) (n : Nat) (S0 : pq_S) (hF : WF S0) (sz : Nat) (a0 : Nat) (x1 : Int32) (x2 : Int32) (x3 : Int32) (Ta0 : TY S0 a0 3) (r : Int32) (S1 : pq_S) (hm : m_X3_isBestAgainst n a0 x1 x2 x3 S0 = some (r, S1)) : MZ l yX3_isBestAgainst (.code yX3_isBestAgainst cX3_isBestAgainst 4 (some .boolean) :: pq_U) rm_X3_isBestAgainst C X S0 sz [.ref a0, .int x1, .int x2, .int x3] r S1 0 0 := by
  refine Met.ofW (cc := cX3_isBestAgainst) (maxL := 4) (ret := (some .boolean)) (by decide) rfl ?_
  intro p e s m args below meth c s₁ B hml hv
  obtain ⟨rfl, hv⟩ := hv
  have hsz := hv.1
  subst hsz
  have hw := pw_entry hF hv
  have hts := atoms_spec (ws := .code yX3_isBestAgainst cX3_isBestAgainst 4 (some .boolean) :: pq_U) B.pre
  have hU : ∀ w ∈ pq_U, w.before _ s = true := fun w h => hts w (List.mem_cons_of_mem _ h)
  have hx := B.exec
  have hb := B.bytes
  have hr := B.returns
  have hown : s.vm.findClass RX3 = some m.cls := findClass_of_methodNamed B.named
  have hlk := B.notSynchronized
  have hl := lv_entry ([.ref a0, .int x1, .int x2, .int x3]) (n := 4) (Nat.le_of_ble_eq_true rfl)
  rw [lg_entry_eq]
  generalize (lg_sl ([.ref a0, .int x1, .int x2, .int x3]) ++ List.replicate (4 - (lg_sl ([.ref a0, .int x1, .int x2, .int x3])).length) Slot.unset).toArray = ls at hl ⊢
  have hl : lv_has ls 4 [(0, .ref a0), (1, .int x1), (2, .int x2), (3, .int x3)] := hl
  have hE : Ext S0 S0 := Ext.rf _
  have cx : Cx p s m _ meth c cX3_isBestAgainst 4 RX3 (some .boolean) := ⟨hx, hb, hml, hown, hU, hr, hlk⟩
  rw [m_X3_isBestAgainst] at hm
  refine lv_iload_n hx hb dX3_isBestAgainst_0 rfl (lv_at hl 3 rfl) ?_
  refine lv_if_lt (tgt := 33) hx hb dX3_isBestAgainst_1 (by decide) (fun h1 => ?_) (fun h1 => ?_)
  · rw [if_pos h1] at hm
    refine lv_iconst (v := 0) hx hb dX3_isBestAgainst_33 (by decide) ?_
    cases hm
    exact pw_zret hx hb hr bz_0 hlk hw hE dX3_isBestAgainst_34
  · rw [if_neg h1] at hm
    refine lv_iload_n hx hb dX3_isBestAgainst_4 rfl (lv_at hl 3 rfl) ?_
    refine lv_aload_n hx hb dX3_isBestAgainst_5 rfl (lv_at hl 0 rfl) ?_
    obtain ⟨q2, hq2, hm⟩ := bd_some hm
    have Tq2 : TY S0 q2 14 := hw.wf.ref (k := 3) (j := 3) Ta0 (by decide) (by decide) hq2
    refine pg_rb (k := 3) (j := 3) (f := 303) hx hb hown hU iu3 hw Ta0 (by decide) rfl (hU _ tw242) rfl hq2 dX3_isBestAgainst_6 ?_
    refine pw_alenI (v := (Int32.ofNat (pN S0 q2))) hx hb hw Tq2 rfl dX3_isBestAgainst_9 ?_
    refine lv_icmp_ge (tgt := 33) hx hb dX3_isBestAgainst_10 (by decide) (fun h3 => ?_) (fun h3 => ?_)
    · rw [if_pos h3] at hm
      refine lv_iconst (v := 0) hx hb dX3_isBestAgainst_33 (by decide) ?_
      cases hm
      exact pw_zret hx hb hr bz_0 hlk hw hE dX3_isBestAgainst_34
    · rw [if_neg h3] at hm
      refine lv_aload_n hx hb dX3_isBestAgainst_13 rfl (lv_at hl 0 rfl) ?_
      refine lv_iload_n hx hb dX3_isBestAgainst_14 rfl (lv_at hl 1 rfl) ?_
      refine lv_iload_n hx hb dX3_isBestAgainst_15 rfl (lv_at hl 2 rfl) ?_
      refine lv_iload_n hx hb dX3_isBestAgainst_16 rfl (lv_at hl 3 rfl) ?_
      obtain ⟨r6, S_4, hq5, hm⟩ := cb_some hm
      refine pw_ci (va_runV (As := [.int x1, .int x2, .int x3]) (rest := []) ⟨hx, hb, hml, hown, hU⟩ (c_X3_gained l C X n S0 hw.wf _ a0 x1 x2 x3 (Ta0) r6 S_4 hq5) (cwV 3 hU (pq_gV tw1334 tw1336 ts110 tw8 tc_X3_gained) rfl rfl rfl cd_X3_gained ⟨Nat.le_of_ble_eq_true rfl, Nat.le_of_ble_eq_true rfl⟩) (pw_preV hw Ta0 (by decide) rfl) rfl rfl hl.1 rfl (lv_room (Nat.le_of_ble_eq_true rfl)) dX3_isBestAgainst_17 ⟨Nat.zero_le _, Nat.zero_le _⟩) hw (fun H locs hw hx7 => ?_)
      have Ta0 : TY S_4 a0 3 := ty_ext hx7 Ta0
      have hE : Ext S0 S_4 := Ext.tr hE hx7
      refine lv_aload_n hx hb dX3_isBestAgainst_20 rfl (lv_at hl 0 rfl) ?_
      obtain ⟨q8, hq8, hm⟩ := bd_some hm
      have Tq8 : TY S_4 q8 14 := hw.wf.ref (k := 3) (j := 3) Ta0 (by decide) (by decide) hq8
      refine pg_rb (k := 3) (j := 3) (f := 303) hx hb hown hU iu3 hw Ta0 (by decide) rfl (hU _ tw242) rfl hq8 dX3_isBestAgainst_21 ?_
      refine lv_iload_n hx hb dX3_isBestAgainst_24 rfl (lv_at hl 3 rfl) ?_
      obtain ⟨hi9, hm⟩ := ck_some hm
      refine pw_iald hx hb hw Tq8 hi9 dX3_isBestAgainst_25 ?_
      refine lv_icmp_ne (tgt := 33) hx hb dX3_isBestAgainst_26 (by decide) (fun h10 => ?_) (fun h10 => ?_)
      · rw [if_neg h10] at hm
        refine lv_iconst (v := 0) hx hb dX3_isBestAgainst_33 (by decide) ?_
        cases hm
        exact pw_zret hx hb hr bz_0 hlk hw hE dX3_isBestAgainst_34
      · rw [if_pos h10] at hm
        refine lv_iconst (v := 1) hx hb dX3_isBestAgainst_29 (by decide) ?_
        refine lv_goto (tgt := 34) hx hb dX3_isBestAgainst_30 (by decide) ?_
        cases hm
        exact pw_zret hx hb hr bz_1 hlk hw hE dX3_isBestAgainst_34
abbrev rm_X3_keepRest : Room := { frames := 3, cells := 0, slots := 0, locals := 71 }
def b_X3_keepRest_28 (n : Nat) (a0 : Nat) (S : pq_S) : Option pq_S := some (sI S 306 a0 ((pI S 306 a0) + (1 : Int32)))
set_option maxHeartbeats 4000000 in
set_option maxRecDepth 100000 in
theorem wb_X3_keepRest_28 {p : Program} {l : Launch} {e : Env} {s : State} {m : MethodId} {args : Array Value} {below : List Frame} {meth : Method} {c : Code} (cx : Cx p s m args meth c cX3_keepRest 4 RX3 none) (C : pq_C) (X : va_W) (S0 : pq_S) (n : Nat) (S1 : pq_S) : ∀ (a0 : Nat) (S : pq_S) (H : Heap) (locs : List Loc) (ls : Array Slot), PW C X S (pq_F C X S0 s.heap.size) H locs s → Ext S0 S → TY S a0 3 → lv_has ls 4 [(0, .ref a0)] → b_X3_keepRest_28 n a0 S = some S1 → W p l e rm_X3_keepRest s m args below meth c H locs 0 0 (MQ below (QcV C X S0 s.heap.size S1) args s 0 0 (pq_F C X S0 s.heap.size)) (F0 m 28 ls []) := by
  obtain ⟨hx, hb, hml, hown, hU, hr, hlk⟩ := id cx
  intro a0 S H locs ls hw hE Ta0 hl hm
  rw [b_X3_keepRest_28] at hm
  refine lv_aload_n hx hb dX3_keepRest_28 rfl (lv_at hl 0 rfl) ?_
  refine lv_dup hx hb dX3_keepRest_29 rfl ?_
  refine pg_i (k := 3) (j := 6) (f := 306) hx hb hown hU iu3 hw Ta0 (by decide) rfl (hU _ tw247) rfl dX3_keepRest_30 ?_
  refine lv_iconst (v := 1) hx hb dX3_keepRest_33 (by decide) ?_
  refine lv_iadd hx hb dX3_keepRest_34 ?_
  refine pp_i (k := 3) (j := 6) (f := 306) hx hb hown hU iu3 tyX3_ok nmX3 hw Ta0 (by decide) rfl (hU _ tw247) rfl rfl rfl dX3_keepRest_35 (fun H locs hw => ?_)
  cases hm
  exact pw_vret hx hb hr hlk hw hE dX3_keepRest_38
def m_X3_keepRest (n : Nat) (a0 : Nat) (x1 : Int32) (x2 : Int32) (x3 : Int32) (S0 : pq_S) : Option pq_S := if (pI S0 306 a0) = 0 then cb (m_X3_gained n a0 x1 x2 x3 (sI S0 307 a0 (((100 : Int32) * x2) + x3))) fun r4 S_2 => b_X3_keepRest_28 n a0 (sI S_2 308 a0 r4) else b_X3_keepRest_28 n a0 S0
theorem tc_X3_keepRest : Cond.code yX3_keepRest cX3_keepRest 4 none ∈ pq_U := tw1349
theorem cd_X3_keepRest : yX3_keepRest.cls = RX3 ∧ yX3_keepRest.cls ≠ "java/lang/invoke/MethodHandle" ∧ yX3_keepRest.cls ≠ "java/lang/invoke/VarHandle" ∧ (parseMethodDescriptor yX3_keepRest.desc).map (fun d => d.parameters.length) = some 3 := by decide +kernel
set_option maxHeartbeats 4000000 in
set_option maxRecDepth 100000 in
theorem c_X3_keepRest (l : Launch) (C : pq_C) (X : va_W) (n : Nat) (S0 : pq_S) (hF : WF S0) (sz : Nat) (a0 : Nat) (x1 : Int32) (x2 : Int32) (x3 : Int32) (Ta0 : TY S0 a0 3) (S1 : pq_S) (hm : m_X3_keepRest n a0 x1 x2 x3 S0 = some S1) : MV l yX3_keepRest (.code yX3_keepRest cX3_keepRest 4 none :: pq_U) rm_X3_keepRest C X S0 sz [.ref a0, .int x1, .int x2, .int x3] S1 0 0 := by
  refine Met.ofW (cc := cX3_keepRest) (maxL := 4) (ret := none) (by decide) rfl ?_
  intro p e s m args below meth c s₁ B hml hv
  obtain ⟨rfl, hv⟩ := hv
  have hsz := hv.1
  subst hsz
  have hw := pw_entry hF hv
  have hts := atoms_spec (ws := .code yX3_keepRest cX3_keepRest 4 none :: pq_U) B.pre
  have hU : ∀ w ∈ pq_U, w.before _ s = true := fun w h => hts w (List.mem_cons_of_mem _ h)
  have hx := B.exec
  have hb := B.bytes
  have hr := B.returns
  have hown : s.vm.findClass RX3 = some m.cls := findClass_of_methodNamed B.named
  have hlk := B.notSynchronized
  have hl := lv_entry ([.ref a0, .int x1, .int x2, .int x3]) (n := 4) (Nat.le_of_ble_eq_true rfl)
  rw [lg_entry_eq]
  generalize (lg_sl ([.ref a0, .int x1, .int x2, .int x3]) ++ List.replicate (4 - (lg_sl ([.ref a0, .int x1, .int x2, .int x3])).length) Slot.unset).toArray = ls at hl ⊢
  have hl : lv_has ls 4 [(0, .ref a0), (1, .int x1), (2, .int x2), (3, .int x3)] := hl
  have hE : Ext S0 S0 := Ext.rf _
  have cx : Cx p s m _ meth c cX3_keepRest 4 RX3 none := ⟨hx, hb, hml, hown, hU, hr, hlk⟩
  rw [m_X3_keepRest] at hm
  refine lv_aload_n hx hb dX3_keepRest_0 rfl (lv_at hl 0 rfl) ?_
  refine pg_i (k := 3) (j := 6) (f := 306) hx hb hown hU iu3 hw Ta0 (by decide) rfl (hU _ tw247) rfl dX3_keepRest_1 ?_
  refine lv_if_ne (tgt := 28) hx hb dX3_keepRest_4 (by decide) (fun h1 => ?_) (fun h1 => ?_)
  · rw [if_neg h1] at hm
    exact wb_X3_keepRest_28 cx C X S0 n S1 a0 S0 _ _ _ hw hE Ta0 (lv_sub hl [0] rfl) hm
  · rw [if_pos h1] at hm
    refine lv_aload_n hx hb dX3_keepRest_7 rfl (lv_at hl 0 rfl) ?_
    refine lv_bipush (v := 100) hx hb dX3_keepRest_8 (by decide) ?_
    refine lv_iload_n hx hb dX3_keepRest_10 rfl (lv_at hl 2 rfl) ?_
    refine lv_imul hx hb dX3_keepRest_11 ?_
    refine lv_iload_n hx hb dX3_keepRest_12 rfl (lv_at hl 3 rfl) ?_
    refine lv_iadd hx hb dX3_keepRest_13 ?_
    refine pp_i (k := 3) (j := 7) (f := 307) hx hb hown hU iu3 tyX3_ok nmX3 hw Ta0 (by decide) rfl (hU _ tw249) rfl rfl rfl dX3_keepRest_14 (fun H locs hw => ?_)
    refine lv_aload_n hx hb dX3_keepRest_17 rfl (lv_at hl 0 rfl) ?_
    refine lv_aload_n hx hb dX3_keepRest_18 rfl (lv_at hl 0 rfl) ?_
    refine lv_iload_n hx hb dX3_keepRest_19 rfl (lv_at hl 1 rfl) ?_
    refine lv_iload_n hx hb dX3_keepRest_20 rfl (lv_at hl 2 rfl) ?_
    refine lv_iload_n hx hb dX3_keepRest_21 rfl (lv_at hl 3 rfl) ?_
    obtain ⟨r4, S_2, hq3, hm⟩ := cb_some hm
    refine pw_ci (va_runV (As := [.int x1, .int x2, .int x3]) (rest := [.ref a0]) ⟨hx, hb, hml, hown, hU⟩ (c_X3_gained l C X n (sI S0 307 a0 (((100 : Int32) * x2) + x3)) hw.wf _ a0 x1 x2 x3 (Ta0) r4 S_2 hq3) (cwV 3 hU (pq_gV tw1334 tw1336 ts110 tw8 tc_X3_gained) rfl rfl rfl cd_X3_gained ⟨Nat.le_of_ble_eq_true rfl, Nat.le_of_ble_eq_true rfl⟩) (pw_preV hw Ta0 (by decide) rfl) rfl rfl hl.1 rfl (lv_room (Nat.le_of_ble_eq_true rfl)) dX3_keepRest_22 ⟨Nat.zero_le _, Nat.zero_le _⟩) hw (fun H locs hw hx5 => ?_)
    have Ta0 : TY S_2 a0 3 := ty_ext hx5 Ta0
    have hE : Ext S0 S_2 := Ext.tr hE hx5
    refine pp_i (k := 3) (j := 8) (f := 308) hx hb hown hU iu3 tyX3_ok nmX3 hw Ta0 (by decide) rfl (hU _ tw251) rfl rfl rfl dX3_keepRest_25 (fun H locs hw => ?_)
    exact wb_X3_keepRest_28 cx C X S0 n S1 a0 (sI S_2 308 a0 r4) _ _ _ hw hE Ta0 (lv_sub hl [0] rfl) hm
abbrev rm_X5_pop : Room := { frames := 3, cells := 0, slots := 0, locals := 122 }
def m_X5_pop (n : Nat) (a0 : Nat) (a1 : Nat) (S0 : pq_S) : Option pq_S := if (pI S0 501 a0) ≤ 0 then some S0 else Option.bind (pR S0 500 a0) fun q2 => if (Int32.ofNat (pN S0 q2)) < (pI S0 501 a0) then some S0 else Option.bind (pR S0 500 a0) fun q4 => ck (ix ((pI S0 501 a0) - (1 : Int32)) (pN S0 q4)) (dix _ _) (if (pQ S0 q4 (Int32.toNatClampNeg ((pI S0 501 a0) - (1 : Int32)))) = none then some S0 else Option.bind (pR (sI S0 501 a0 ((pI S0 501 a0) - (1 : Int32))) 500 a0) fun q8 => ck (ix (pI (sI S0 501 a0 ((pI S0 501 a0) - (1 : Int32))) 501 a0) (pN (sI S0 501 a0 ((pI S0 501 a0) - (1 : Int32))) q8)) (dix _ _) (Option.bind (pQ (sI S0 501 a0 ((pI S0 501 a0) - (1 : Int32))) q8 (Int32.toNatClampNeg (pI (sI S0 501 a0 ((pI S0 501 a0) - (1 : Int32))) 501 a0))) fun q10 => Option.bind (m_X8_copyFrom n a1 q10 (sI S0 501 a0 ((pI S0 501 a0) - (1 : Int32)))) fun S_11 => some S_11))
theorem tc_X5_pop : Cond.code yX5_pop cX5_pop 2 none ∈ pq_U := tw434
theorem cd_X5_pop : yX5_pop.cls = RX5 ∧ yX5_pop.cls ≠ "java/lang/invoke/MethodHandle" ∧ yX5_pop.cls ≠ "java/lang/invoke/VarHandle" ∧ (parseMethodDescriptor yX5_pop.desc).map (fun d => d.parameters.length) = some 1 := by decide +kernel
set_option maxHeartbeats 4000000 in
set_option maxRecDepth 100000 in
theorem c_X5_pop (l : Launch) (C : pq_C) (X : va_W) (n : Nat) (S0 : pq_S) (hF : WF S0) (sz : Nat) (a0 : Nat) (a1 : Nat) (Ta0 : TY S0 a0 5) (Ta1 : TY S0 a1 8) (S1 : pq_S) (hm : m_X5_pop n a0 a1 S0 = some S1) : MV l yX5_pop (.code yX5_pop cX5_pop 2 none :: pq_U) rm_X5_pop C X S0 sz [.ref a0, .ref a1] S1 0 0 := by
  refine Met.ofW (cc := cX5_pop) (maxL := 2) (ret := none) (by decide) rfl ?_
  intro p e s m args below meth c s₁ B hml hv
  obtain ⟨rfl, hv⟩ := hv
  have hsz := hv.1
  subst hsz
  have hw := pw_entry hF hv
  have hts := atoms_spec (ws := .code yX5_pop cX5_pop 2 none :: pq_U) B.pre
  have hU : ∀ w ∈ pq_U, w.before _ s = true := fun w h => hts w (List.mem_cons_of_mem _ h)
  have hx := B.exec
  have hb := B.bytes
  have hr := B.returns
  have hown : s.vm.findClass RX5 = some m.cls := findClass_of_methodNamed B.named
  have hlk := B.notSynchronized
  have hl := lv_entry ([.ref a0, .ref a1]) (n := 2) (Nat.le_of_ble_eq_true rfl)
  rw [lg_entry_eq]
  generalize (lg_sl ([.ref a0, .ref a1]) ++ List.replicate (2 - (lg_sl ([.ref a0, .ref a1])).length) Slot.unset).toArray = ls at hl ⊢
  have hl : lv_has ls 2 [(0, .ref a0), (1, .ref a1)] := hl
  have hE : Ext S0 S0 := Ext.rf _
  have cx : Cx p s m _ meth c cX5_pop 2 RX5 none := ⟨hx, hb, hml, hown, hU, hr, hlk⟩
  rw [m_X5_pop] at hm
  refine lv_aload_n hx hb dX5_pop_0 rfl (lv_at hl 0 rfl) ?_
  refine pg_i (k := 5) (j := 1) (f := 501) hx hb hown hU iu5 hw Ta0 (by decide) rfl (hU _ tw355) rfl dX5_pop_1 ?_
  refine lv_if_le (tgt := 33) hx hb dX5_pop_4 (by decide) (fun h1 => ?_) (fun h1 => ?_)
  · rw [if_pos h1] at hm
    cases hm
    exact pw_vret hx hb hr hlk hw hE dX5_pop_33
  · rw [if_neg h1] at hm
    refine lv_aload_n hx hb dX5_pop_7 rfl (lv_at hl 0 rfl) ?_
    refine pg_i (k := 5) (j := 1) (f := 501) hx hb hown hU iu5 hw Ta0 (by decide) rfl (hU _ tw355) rfl dX5_pop_8 ?_
    refine lv_aload_n hx hb dX5_pop_11 rfl (lv_at hl 0 rfl) ?_
    obtain ⟨q2, hq2, hm⟩ := bd_some hm
    have Tq2 : TY S0 q2 16 := hw.wf.ref (k := 5) (j := 0) Ta0 (by decide) (by decide) hq2
    refine pg_rb (k := 5) (j := 0) (f := 500) hx hb hown hU iu5 hw Ta0 (by decide) rfl (hU _ tw354) rfl hq2 dX5_pop_12 ?_
    refine pw_alenS (v := (Int32.ofNat (pN S0 q2))) hx hb hw Tq2 rfl dX5_pop_15 ?_
    refine lv_icmp_gt (tgt := 33) hx hb dX5_pop_16 (by decide) (fun h3 => ?_) (fun h3 => ?_)
    · rw [if_pos h3] at hm
      cases hm
      exact pw_vret hx hb hr hlk hw hE dX5_pop_33
    · rw [if_neg h3] at hm
      refine lv_aload_n hx hb dX5_pop_19 rfl (lv_at hl 0 rfl) ?_
      obtain ⟨q4, hq4, hm⟩ := bd_some hm
      have Tq4 : TY S0 q4 16 := hw.wf.ref (k := 5) (j := 0) Ta0 (by decide) (by decide) hq4
      refine pg_rb (k := 5) (j := 0) (f := 500) hx hb hown hU iu5 hw Ta0 (by decide) rfl (hU _ tw354) rfl hq4 dX5_pop_20 ?_
      refine lv_aload_n hx hb dX5_pop_23 rfl (lv_at hl 0 rfl) ?_
      refine pg_i (k := 5) (j := 1) (f := 501) hx hb hown hU iu5 hw Ta0 (by decide) rfl (hU _ tw355) rfl dX5_pop_24 ?_
      refine lv_iconst (v := 1) hx hb dX5_pop_27 (by decide) ?_
      refine lv_isub hx hb dX5_pop_28 ?_
      obtain ⟨hi5, hm⟩ := ck_some hm
      refine pw_aaldS hx hb hw Tq4 hi5 dX5_pop_29 ?_
      by_cases ho6 : (pQ S0 q4 (Int32.toNatClampNeg ((pI S0 501 a0) - (1 : Int32)))) = none
      · rw [if_pos ho6] at hm
        rw [ho6]
        refine lv_ifnonnullN hx hb dX5_pop_30 ?_
        cases hm
        exact pw_vret hx hb hr hlk hw hE dX5_pop_33
      · rw [if_neg ho6] at hm
        obtain ⟨q7, hq7⟩ := Option.ne_none_iff_exists'.mp ho6
        rw [hq7]
        refine lv_ifnonnull (tgt := 34) hx hb dX5_pop_30 (by decide) ?_
        refine lv_aload_n hx hb dX5_pop_34 rfl (lv_at hl 0 rfl) ?_
        refine lv_dup hx hb dX5_pop_35 rfl ?_
        refine pg_i (k := 5) (j := 1) (f := 501) hx hb hown hU iu5 hw Ta0 (by decide) rfl (hU _ tw355) rfl dX5_pop_36 ?_
        refine lv_iconst (v := 1) hx hb dX5_pop_39 (by decide) ?_
        refine lv_isub hx hb dX5_pop_40 ?_
        refine pp_i (k := 5) (j := 1) (f := 501) hx hb hown hU iu5 tyX5_ok nmX5 hw Ta0 (by decide) rfl (hU _ tw355) rfl rfl rfl dX5_pop_41 (fun H locs hw => ?_)
        refine lv_aload_n hx hb dX5_pop_44 rfl (lv_at hl 1 rfl) ?_
        refine lv_aload_n hx hb dX5_pop_45 rfl (lv_at hl 0 rfl) ?_
        obtain ⟨q8, hq8, hm⟩ := bd_some hm
        have Tq8 : TY (sI S0 501 a0 ((pI S0 501 a0) - (1 : Int32))) q8 16 := hw.wf.ref (k := 5) (j := 0) Ta0 (by decide) (by decide) hq8
        refine pg_rb (k := 5) (j := 0) (f := 500) hx hb hown hU iu5 hw Ta0 (by decide) rfl (hU _ tw354) rfl hq8 dX5_pop_46 ?_
        refine lv_aload_n hx hb dX5_pop_49 rfl (lv_at hl 0 rfl) ?_
        refine pg_i (k := 5) (j := 1) (f := 501) hx hb hown hU iu5 hw Ta0 (by decide) rfl (hU _ tw355) rfl dX5_pop_50 ?_
        obtain ⟨hi9, hm⟩ := ck_some hm
        obtain ⟨q10, hq10, hm⟩ := bd_some hm
        have Tq10 : TY (sI S0 501 a0 ((pI S0 501 a0) - (1 : Int32))) q10 8 := hw.wf.2.2 _ _ _ Tq8 hq10
        refine pw_aaldSb hx hb hw Tq8 hi9 hq10 dX5_pop_53 ?_
        obtain ⟨S_11, hq12, hm⟩ := bd_some hm
        refine pw_cv (va_runVN (As := [.ref q10]) (rest := []) ⟨hx, hb, hml, hown, hU⟩ (c_X8_copyFrom l C X n (sI S0 501 a0 ((pI S0 501 a0) - (1 : Int32))) hw.wf _ a1 q10 (Ta1) (Tq10) S_11 hq12) ⟨va_cnB (host := "WickNights") 1 hU (pq_g1 tc_X8_copyFrom) rfl rfl rfl (hw.nw 85 rfl) (hU _ tw6) cd_X8_copyFrom.2 ⟨Nat.le_of_ble_eq_true rfl, Nat.le_of_ble_eq_true rfl⟩, hU _ tw437, hU _ ts2⟩ (pw_preV hw Ta1 (by decide) rfl) rfl rfl hl.1 rfl (lv_room (Nat.le_of_ble_eq_true rfl)) dX5_pop_54 ⟨Nat.zero_le _, Nat.zero_le _⟩) hw (fun H locs hw hx13 => ?_)
        have Ta0 : TY S_11 a0 5 := ty_ext hx13 Ta0
        have Ta1 : TY S_11 a1 8 := ty_ext hx13 Ta1
        have hE : Ext S0 S_11 := Ext.tr hE hx13
        cases hm
        exact pw_vret hx hb hr hlk hw hE dX5_pop_57
abbrev rm_X6_read : Room := { frames := 70, cells := 0, slots := 0, locals := 1667 }
def m_X6_read (n : Nat) (a0 : Nat) (a1 : Nat) (a2 : Nat) (S0 : pq_S) : Option pq_S := Option.bind (pR S0 600 a0) fun q1 => Option.bind (m_X9_clear n q1 S0) fun S_2 => Option.bind (m_X6_readSteps n a0 a1 a2 0 (sI (sI (sI S_2 601 a0 0) 602 a0 0) 603 a0 0)) fun S_5 => cb (m_X10_next n a1 S_5) fun r10 S_8 => if r10 = (-1) then some S_8 else Option.bind (m_X10_refuse n a1 1 (pI S_8 1003 a1) S_8) fun S_13 => some S_13
theorem tc_X6_read : Cond.code yX6_read cX6_read 3 none ∈ pq_U := tw804
theorem cd_X6_read : yX6_read.cls = RX6 ∧ yX6_read.cls ≠ "java/lang/invoke/MethodHandle" ∧ yX6_read.cls ≠ "java/lang/invoke/VarHandle" ∧ (parseMethodDescriptor yX6_read.desc).map (fun d => d.parameters.length) = some 2 := by decide +kernel
set_option maxHeartbeats 4000000 in
set_option maxRecDepth 100000 in
theorem c_X6_read (l : Launch) (C : pq_C) (X : va_W) (n : Nat) (S0 : pq_S) (hF : WF S0) (sz : Nat) (a0 : Nat) (a1 : Nat) (a2 : Nat) (Ta0 : TY S0 a0 6) (Ta1 : TY S0 a1 10) (Ta2 : TY S0 a2 1) (S1 : pq_S) (hm : m_X6_read n a0 a1 a2 S0 = some S1) : MV l yX6_read (.code yX6_read cX6_read 3 none :: pq_U) rm_X6_read C X S0 sz [.ref a0, .ref a1, .ref a2] S1 0 0 := by
  refine Met.ofW (cc := cX6_read) (maxL := 3) (ret := none) (by decide) rfl ?_
  intro p e s m args below meth c s₁ B hml hv
  obtain ⟨rfl, hv⟩ := hv
  have hsz := hv.1
  subst hsz
  have hw := pw_entry hF hv
  have hts := atoms_spec (ws := .code yX6_read cX6_read 3 none :: pq_U) B.pre
  have hU : ∀ w ∈ pq_U, w.before _ s = true := fun w h => hts w (List.mem_cons_of_mem _ h)
  have hx := B.exec
  have hb := B.bytes
  have hr := B.returns
  have hown : s.vm.findClass RX6 = some m.cls := findClass_of_methodNamed B.named
  have hlk := B.notSynchronized
  have hl := lv_entry ([.ref a0, .ref a1, .ref a2]) (n := 3) (Nat.le_of_ble_eq_true rfl)
  rw [lg_entry_eq]
  generalize (lg_sl ([.ref a0, .ref a1, .ref a2]) ++ List.replicate (3 - (lg_sl ([.ref a0, .ref a1, .ref a2])).length) Slot.unset).toArray = ls at hl ⊢
  have hl : lv_has ls 3 [(0, .ref a0), (1, .ref a1), (2, .ref a2)] := hl
  have hE : Ext S0 S0 := Ext.rf _
  have cx : Cx p s m _ meth c cX6_read 3 RX6 none := ⟨hx, hb, hml, hown, hU, hr, hlk⟩
  rw [m_X6_read] at hm
  refine lv_aload_n hx hb dX6_read_0 rfl (lv_at hl 0 rfl) ?_
  obtain ⟨q1, hq1, hm⟩ := bd_some hm
  have Tq1 : TY S0 q1 9 := hw.wf.ref (k := 6) (j := 0) Ta0 (by decide) (by decide) hq1
  refine pg_rb (k := 6) (j := 0) (f := 600) hx hb hown hU iu6 hw Ta0 (by decide) rfl (hU _ tw309) rfl hq1 dX6_read_1 ?_
  obtain ⟨S_2, hq3, hm⟩ := bd_some hm
  refine pw_cv (va_runVN (As := []) (rest := []) ⟨hx, hb, hml, hown, hU⟩ (c_X9_clear l C X n S0 hw.wf _ q1 (Tq1) S_2 hq3) ⟨va_cnB (host := "WickNights") 0 hU (pq_g1 tc_X9_clear) rfl rfl rfl (hw.nw 122 rfl) (hU _ tw5) cd_X9_clear.2 ⟨Nat.le_of_ble_eq_true rfl, Nat.le_of_ble_eq_true rfl⟩, hU _ tw567, hU _ ts11⟩ (pw_preV hw Tq1 (by decide) rfl) rfl rfl hl.1 rfl (lv_room (Nat.le_of_ble_eq_true rfl)) dX6_read_4 ⟨Nat.zero_le _, Nat.zero_le _⟩) hw (fun H locs hw hx4 => ?_)
  have Ta0 : TY S_2 a0 6 := ty_ext hx4 Ta0
  have Ta1 : TY S_2 a1 10 := ty_ext hx4 Ta1
  have Ta2 : TY S_2 a2 1 := ty_ext hx4 Ta2
  have hE : Ext S0 S_2 := Ext.tr hE hx4
  refine lv_aload_n hx hb dX6_read_7 rfl (lv_at hl 0 rfl) ?_
  refine lv_iconst (v := 0) hx hb dX6_read_8 (by decide) ?_
  refine pp_i (k := 6) (j := 1) (f := 601) hx hb hown hU iu6 tyX6_ok nmX6 hw Ta0 (by decide) rfl (hU _ tw311) rfl rfl rfl dX6_read_9 (fun H locs hw => ?_)
  refine lv_aload_n hx hb dX6_read_12 rfl (lv_at hl 0 rfl) ?_
  refine lv_iconst (v := 0) hx hb dX6_read_13 (by decide) ?_
  refine pp_i (k := 6) (j := 2) (f := 602) hx hb hown hU iu6 tyX6_ok nmX6 hw Ta0 (by decide) rfl (hU _ tw312) rfl rfl rfl dX6_read_14 (fun H locs hw => ?_)
  refine lv_aload_n hx hb dX6_read_17 rfl (lv_at hl 0 rfl) ?_
  refine lv_iconst (v := 0) hx hb dX6_read_18 (by decide) ?_
  refine pp_i (k := 6) (j := 3) (f := 603) hx hb hown hU iu6 tyX6_ok nmX6 hw Ta0 (by decide) rfl (hU _ tw314) rfl rfl rfl dX6_read_19 (fun H locs hw => ?_)
  refine lv_aload_n hx hb dX6_read_22 rfl (lv_at hl 0 rfl) ?_
  refine lv_aload_n hx hb dX6_read_23 rfl (lv_at hl 1 rfl) ?_
  refine lv_aload_n hx hb dX6_read_24 rfl (lv_at hl 2 rfl) ?_
  refine lv_iconst (v := 0) hx hb dX6_read_25 (by decide) ?_
  obtain ⟨S_5, hq6, hm⟩ := bd_some hm
  refine pw_cv (va_runV (As := [.ref a1, .ref a2, .int 0]) (rest := []) ⟨hx, hb, hml, hown, hU⟩ (c_X6_readSteps l C X n (sI (sI (sI S_2 601 a0 0) 602 a0 0) 603 a0 0) hw.wf _ a0 a1 a2 0 (Ta0) (Ta1) (Ta2) S_5 hq6) (cwV 3 hU (pq_gV tw806 tw808 ts45 tw10 tc_X6_readSteps) rfl rfl rfl cd_X6_readSteps ⟨Nat.le_of_ble_eq_true rfl, Nat.le_of_ble_eq_true rfl⟩) (pw_preV hw Ta0 (by decide) rfl) rfl rfl hl.1 rfl (lv_room (Nat.le_of_ble_eq_true rfl)) dX6_read_26 ⟨Nat.zero_le _, Nat.zero_le _⟩) hw (fun H locs hw hx7 => ?_)
  have Ta0 : TY S_5 a0 6 := ty_ext hx7 Ta0
  have Ta1 : TY S_5 a1 10 := ty_ext hx7 Ta1
  have Ta2 : TY S_5 a2 1 := ty_ext hx7 Ta2
  have hE : Ext S0 S_5 := Ext.tr hE hx7
  refine lv_aload_n hx hb dX6_read_29 rfl (lv_at hl 1 rfl) ?_
  obtain ⟨r10, S_8, hq9, hm⟩ := cb_some hm
  refine pw_ci (va_runVN (As := []) (rest := []) ⟨hx, hb, hml, hown, hU⟩ (c_X10_next l C X n S_5 hw.wf _ a1 (Ta1) r10 S_8 hq9) ⟨va_cnB (host := "WickNights") 0 hU (pq_g1 tc_X10_next) rfl rfl rfl (hw.nw 123 rfl) (hU _ tw2) cd_X10_next.2 ⟨Nat.le_of_ble_eq_true rfl, Nat.le_of_ble_eq_true rfl⟩, hU _ tw572, hU _ ts12⟩ (pw_preV hw Ta1 (by decide) rfl) rfl rfl hl.1 rfl (lv_room (Nat.le_of_ble_eq_true rfl)) dX6_read_30 ⟨Nat.zero_le _, Nat.zero_le _⟩) hw (fun H locs hw hx11 => ?_)
  have Ta0 : TY S_8 a0 6 := ty_ext hx11 Ta0
  have Ta1 : TY S_8 a1 10 := ty_ext hx11 Ta1
  have Ta2 : TY S_8 a2 1 := ty_ext hx11 Ta2
  have hE : Ext S0 S_8 := Ext.tr hE hx11
  refine lv_iconst (v := (-1)) hx hb dX6_read_33 (by decide) ?_
  refine lv_icmp_eq (tgt := 46) hx hb dX6_read_34 (by decide) (fun h12 => ?_) (fun h12 => ?_)
  · rw [if_pos h12] at hm
    cases hm
    exact pw_vret hx hb hr hlk hw hE dX6_read_46
  · rw [if_neg h12] at hm
    refine lv_aload_n hx hb dX6_read_37 rfl (lv_at hl 1 rfl) ?_
    refine lv_iconst (v := 1) hx hb dX6_read_38 (by decide) ?_
    refine lv_aload_n hx hb dX6_read_39 rfl (lv_at hl 1 rfl) ?_
    refine pgN_i (k := 10) (j := 3) (f := 1003) hx hb hown hU iu10 hw Ta1 (by decide) rfl 3 rfl rfl dX6_read_40 ?_
    obtain ⟨S_13, hq14, hm⟩ := bd_some hm
    refine pw_cv (va_runVN (As := [.int 1, .int (pI S_8 1003 a1)]) (rest := []) ⟨hx, hb, hml, hown, hU⟩ (c_X10_refuse l C X n S_8 hw.wf _ a1 1 (pI S_8 1003 a1) (Ta1) S_13 hq14) ⟨va_cnB (host := "WickNights") 2 hU (pq_g1 tc_X10_refuse) rfl rfl rfl (hw.nw 129 rfl) (hU _ tw2) cd_X10_refuse.2 ⟨Nat.le_of_ble_eq_true rfl, Nat.le_of_ble_eq_true rfl⟩, hU _ tw586, hU _ ts15⟩ (pw_preV hw Ta1 (by decide) rfl) rfl rfl hl.1 rfl (lv_room (Nat.le_of_ble_eq_true rfl)) dX6_read_43 ⟨Nat.zero_le _, Nat.zero_le _⟩) hw (fun H locs hw hx15 => ?_)
    have Ta0 : TY S_13 a0 6 := ty_ext hx15 Ta0
    have Ta1 : TY S_13 a1 10 := ty_ext hx15 Ta1
    have Ta2 : TY S_13 a2 1 := ty_ext hx15 Ta2
    have hE : Ext S0 S_13 := Ext.tr hE hx15
    cases hm
    exact pw_vret hx hb hr hlk hw hE dX6_read_46
