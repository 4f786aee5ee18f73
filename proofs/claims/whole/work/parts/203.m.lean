abbrev rm_X12_place : Room := { frames := 2, cells := 0, slots := 0, locals := 45 }
def m_X12_place (n : Nat) (a0 : Nat) (x1 : Int32) (x2 : Int32) (S0 : pq_S) : Option (Int32 × pq_S) := cb (m_X12_isPlace n a0 x1 1 (sI S0 1200 a0 0)) fun r3 S_1 => if r3 = 0 then some (0, S_1) else cb (m_X12_within n x2 0 5 S_1) fun r9 S_7 => cb (m_X12_may n a0 r9 2 1 S_7) fun r14 S_12 => if r14 = 0 then some (0, S_12) else Option.bind (m_X12_take n a0 S_12) fun S_18 => if 2 ≤ x2 then if 4 ≤ x2 then if x2 = 4 then Option.bind (pR S_18 1247 a0) fun q28 => ck (ix ((12 : Int32) + x1) (pN S_18 q28)) (dix _ _) (some ((pA S_18 q28 (Int32.toNatClampNeg ((12 : Int32) + x1))), S_18)) else cb (m_X12_hoursOf n a0 x1 0 S_18) fun r26 S_24 => some (r26, S_24) else if x2 = 2 then Option.bind (pR S_18 1247 a0) fun q33 => ck (ix ((6 : Int32) + x1) (pN S_18 q33)) (dix _ _) (some ((pA S_18 q33 (Int32.toNatClampNeg ((6 : Int32) + x1))), S_18)) else Option.bind (pR S_18 1214 a0) fun q31 => ck (ix (((4 : Int32) * x1) + (3 : Int32)) (pN S_18 q31)) (dix _ _) (some ((pA S_18 q31 (Int32.toNatClampNeg (((4 : Int32) * x1) + (3 : Int32)))), S_18)) else if x2 = 0 then Option.bind (pR S_18 1214 a0) fun q38 => ck (ix ((4 : Int32) * x1) (pN S_18 q38)) (dix _ _) (some ((pA S_18 q38 (Int32.toNatClampNeg ((4 : Int32) * x1))), S_18)) else Option.bind (pR S_18 1247 a0) fun q36 => ck (ix ((0 : Int32) + x1) (pN S_18 q36)) (dix _ _) (some ((pA S_18 q36 (Int32.toNatClampNeg ((0 : Int32) + x1))), S_18))
theorem tc_X12_place : Cond.code yX12_place cX12_place 3 (some .int) ∈ pq_U := tw1917
theorem cd_X12_place : yX12_place.cls = RX12 ∧ yX12_place.cls ≠ "java/lang/invoke/MethodHandle" ∧ yX12_place.cls ≠ "java/lang/invoke/VarHandle" ∧ (parseMethodDescriptor yX12_place.desc).map (fun d => d.parameters.length) = some 2 := by decide +kernel
set_option maxHeartbeats 4000000 in
set_option maxRecDepth 100000 in
theorem c_X12_place (l : Launch) (C : pq_C) (X : va_W) (n : Nat) (S0 : pq_S) (hF : WF S0) (sz : Nat) (a0 : Nat) (x1 : Int32) (x2 : Int32) (Ta0 : TY S0 a0 12) (r : Int32) (S1 : pq_S) (hm : m_X12_place n a0 x1 x2 S0 = some (r, S1)) : MI l yX12_place (.code yX12_place cX12_place 3 (some .int) :: pq_U) rm_X12_place C X S0 sz [.ref a0, .int x1, .int x2] r S1 0 0 := by
  refine Met.ofW (cc := cX12_place) (maxL := 3) (ret := (some .int)) (by decide) rfl ?_
  intro p e s m args below meth c s₁ B hml hv
  obtain ⟨rfl, hv⟩ := hv
  have hsz := hv.1
  subst hsz
  have hw := pw_entry hF hv
  have hts := atoms_spec (ws := .code yX12_place cX12_place 3 (some .int) :: pq_U) B.pre
  have hU : ∀ w ∈ pq_U, w.before _ s = true := fun w h => hts w (List.mem_cons_of_mem _ h)
  have hx := B.exec
  have hb := B.bytes
  have hr := B.returns
  have hown : s.vm.findClass RX12 = some m.cls := findClass_of_methodNamed B.named
  have hlk := B.notSynchronized
  have hl := lv_entry ([.ref a0, .int x1, .int x2]) (n := 3) (Nat.le_of_ble_eq_true rfl)
  rw [lg_entry_eq]
  generalize (lg_sl ([.ref a0, .int x1, .int x2]) ++ List.replicate (3 - (lg_sl ([.ref a0, .int x1, .int x2])).length) Slot.unset).toArray = ls at hl ⊢
  have hl : lv_has ls 3 [(0, .ref a0), (1, .int x1), (2, .int x2)] := hl
  have hE : Ext S0 S0 := Ext.rf _
  have cx : Cx p s m _ meth c cX12_place 3 RX12 (some .int) := ⟨hx, hb, hml, hown, hU, hr, hlk⟩
  rw [m_X12_place] at hm
  refine lv_aload_n hx hb dX12_place_0 rfl (lv_at hl 0 rfl) ?_
  refine lv_iconst (v := 0) hx hb dX12_place_1 (by decide) ?_
  refine pp_i (k := 12) (j := 0) (f := 1200) hx hb hown hU iu12 tyX12_ok nmX12 hw Ta0 (by decide) rfl (hU _ tw1471) rfl rfl rfl dX12_place_2 (fun H locs hw => ?_)
  refine lv_aload_n hx hb dX12_place_5 rfl (lv_at hl 0 rfl) ?_
  refine lv_iload_n hx hb dX12_place_6 rfl (lv_at hl 1 rfl) ?_
  refine lv_iconst (v := 1) hx hb dX12_place_7 (by decide) ?_
  obtain ⟨r3, S_1, hq2, hm⟩ := cb_some hm
  refine pw_cz (va_runV (As := [.int x1, .int 1]) (rest := []) ⟨hx, hb, hml, hown, hU⟩ (c_X12_isPlace l C X n (sI S0 1200 a0 0) hw.wf _ a0 x1 1 (Ta0) r3 S_1 hq2) (cwV 2 hU (pq_gV tw1918 tw1920 ts160 tw14 tc_X12_isPlace) rfl rfl rfl cd_X12_isPlace ⟨Nat.le_of_ble_eq_true rfl, Nat.le_of_ble_eq_true rfl⟩) (pw_preV hw Ta0 (by decide) rfl) rfl rfl hl.1 rfl (lv_room (Nat.le_of_ble_eq_true rfl)) dX12_place_8 ⟨Nat.zero_le _, Nat.zero_le _⟩) hw (fun H locs hw hx4 hz5 => ?_)
  have Ta0 : TY S_1 a0 12 := ty_ext hx4 Ta0
  have hE : Ext S0 S_1 := Ext.tr hE hx4
  refine lv_if_eq (tgt := 29) hx hb dX12_place_11 (by decide) (fun h6 => ?_) (fun h6 => ?_)
  · rw [if_pos h6] at hm
    refine lv_iconst (v := 0) hx hb dX12_place_29 (by decide) ?_
    cases hm
    exact pw_iret hx hb hr rfl hlk hw hE dX12_place_30
  · rw [if_neg h6] at hm
    refine lv_aload_n hx hb dX12_place_14 rfl (lv_at hl 0 rfl) ?_
    refine lv_iload_n hx hb dX12_place_15 rfl (lv_at hl 2 rfl) ?_
    refine lv_iconst (v := 0) hx hb dX12_place_16 (by decide) ?_
    refine lv_iconst (v := 5) hx hb dX12_place_17 (by decide) ?_
    obtain ⟨r9, S_7, hq8, hm⟩ := cb_some hm
    refine pw_cz (va_runS (As := [.int x2, .int 0, .int 5]) (rest := [.ref a0]) ⟨hx, hb, hml, hown, hU⟩ (c_X12_within l C X n S_1 hw.wf _ x2 0 5  r9 S_7 hq8) ⟨callB_of 3 hU (pq_g1 tc_X12_within) rfl rfl rfl (hU _ tw14) (hU _ tw1776) cd_X12_within.2 ⟨Nat.le_of_ble_eq_true rfl, Nat.le_of_ble_eq_true rfl⟩, hU _ tw1777⟩ (pw_preS hw) rfl rfl hl.1 rfl (lv_room (Nat.le_of_ble_eq_true rfl)) dX12_place_18 ⟨Nat.zero_le _, Nat.zero_le _⟩) hw (fun H locs hw hx10 hz11 => ?_)
    have Ta0 : TY S_7 a0 12 := ty_ext hx10 Ta0
    have hE : Ext S0 S_7 := Ext.tr hE hx10
    refine lv_iconst (v := 2) hx hb dX12_place_21 (by decide) ?_
    refine lv_iconst (v := 1) hx hb dX12_place_22 (by decide) ?_
    obtain ⟨r14, S_12, hq13, hm⟩ := cb_some hm
    refine pw_cz (va_runV (As := [.int r9, .int 2, .int 1]) (rest := []) ⟨hx, hb, hml, hown, hU⟩ (c_X12_may l C X n S_7 hw.wf _ a0 r9 2 1 (Ta0) r14 S_12 hq13) (cwV 3 hU (pq_gV tw1703 tw1705 ts123 tw14 tc_X12_may) rfl rfl rfl cd_X12_may ⟨Nat.le_of_ble_eq_true rfl, Nat.le_of_ble_eq_true rfl⟩) (pw_preV hw Ta0 (by decide) rfl) rfl rfl hl.1 rfl (lv_room (Nat.le_of_ble_eq_true rfl)) dX12_place_23 ⟨Nat.zero_le _, Nat.zero_le _⟩) hw (fun H locs hw hx15 hz16 => ?_)
    have Ta0 : TY S_12 a0 12 := ty_ext hx15 Ta0
    have hE : Ext S0 S_12 := Ext.tr hE hx15
    refine lv_if_ne (tgt := 31) hx hb dX12_place_26 (by decide) (fun h17 => ?_) (fun h17 => ?_)
    · rw [if_neg h17] at hm
      refine lv_aload_n hx hb dX12_place_31 rfl (lv_at hl 0 rfl) ?_
      obtain ⟨S_18, hq19, hm⟩ := bd_some hm
      refine pw_cv (va_runV (As := []) (rest := []) ⟨hx, hb, hml, hown, hU⟩ (c_X12_take l C X n S_12 hw.wf _ a0 (Ta0) S_18 hq19) (cwV 0 hU (pq_gV tw1922 tw1924 ts161 tw14 tc_X12_take) rfl rfl rfl cd_X12_take ⟨Nat.le_of_ble_eq_true rfl, Nat.le_of_ble_eq_true rfl⟩) (pw_preV hw Ta0 (by decide) rfl) rfl rfl hl.1 rfl (lv_room (Nat.le_of_ble_eq_true rfl)) dX12_place_32 ⟨Nat.zero_le _, Nat.zero_le _⟩) hw (fun H locs hw hx20 => ?_)
      have Ta0 : TY S_18 a0 12 := ty_ext hx20 Ta0
      have hE : Ext S0 S_18 := Ext.tr hE hx20
      refine lv_iload_n hx hb dX12_place_35 rfl (lv_at hl 2 rfl) ?_
      refine lv_iconst (v := 2) hx hb dX12_place_36 (by decide) ?_
      refine lv_icmp_ge (tgt := 64) hx hb dX12_place_37 (by decide) (fun h21 => ?_) (fun h21 => ?_)
      · rw [if_pos h21] at hm
        refine lv_iload_n hx hb dX12_place_64 rfl (lv_at hl 2 rfl) ?_
        refine lv_iconst (v := 4) hx hb dX12_place_65 (by decide) ?_
        refine lv_icmp_ge (tgt := 97) hx hb dX12_place_66 (by decide) (fun h22 => ?_) (fun h22 => ?_)
        · rw [if_pos h22] at hm
          refine lv_iload_n hx hb dX12_place_97 rfl (lv_at hl 2 rfl) ?_
          refine lv_iconst (v := 4) hx hb dX12_place_98 (by decide) ?_
          refine lv_icmp_ne (tgt := 114) hx hb dX12_place_99 (by decide) (fun h23 => ?_) (fun h23 => ?_)
          · rw [if_neg h23] at hm
            refine lv_aload_n hx hb dX12_place_114 rfl (lv_at hl 0 rfl) ?_
            refine lv_iload_n hx hb dX12_place_115 rfl (lv_at hl 1 rfl) ?_
            refine lv_iconst (v := 0) hx hb dX12_place_116 (by decide) ?_
            obtain ⟨r26, S_24, hq25, hm⟩ := cb_some hm
            refine pw_ci (va_runV (As := [.int x1, .int 0]) (rest := []) ⟨hx, hb, hml, hown, hU⟩ (c_X12_hoursOf l C X n S_18 hw.wf _ a0 x1 0 (Ta0) r26 S_24 hq25) (cwV 2 hU (pq_gV tw1926 tw1928 ts162 tw14 tc_X12_hoursOf) rfl rfl rfl cd_X12_hoursOf ⟨Nat.le_of_ble_eq_true rfl, Nat.le_of_ble_eq_true rfl⟩) (pw_preV hw Ta0 (by decide) rfl) rfl rfl hl.1 rfl (lv_room (Nat.le_of_ble_eq_true rfl)) dX12_place_117 ⟨Nat.zero_le _, Nat.zero_le _⟩) hw (fun H locs hw hx27 => ?_)
            have Ta0 : TY S_24 a0 12 := ty_ext hx27 Ta0
            have hE : Ext S0 S_24 := Ext.tr hE hx27
            cases hm
            exact pw_iret hx hb hr rfl hlk hw hE dX12_place_120
          · rw [if_pos h23] at hm
            refine lv_aload_n hx hb dX12_place_102 rfl (lv_at hl 0 rfl) ?_
            obtain ⟨q28, hq28, hm⟩ := bd_some hm
            have Tq28 : TY S_18 q28 14 := hw.wf.ref (k := 12) (j := 47) Ta0 (by decide) (by decide) hq28
            refine pg_rb (k := 12) (j := 47) (f := 1247) hx hb hown hU iu12 hw Ta0 (by decide) rfl (hU _ tw1518) rfl hq28 dX12_place_103 ?_
            refine lv_bipush (v := 12) hx hb dX12_place_106 (by decide) ?_
            refine lv_iload_n hx hb dX12_place_108 rfl (lv_at hl 1 rfl) ?_
            refine lv_iadd hx hb dX12_place_109 ?_
            obtain ⟨hi29, hm⟩ := ck_some hm
            refine pw_iald hx hb hw Tq28 hi29 dX12_place_110 ?_
            refine lv_goto (tgt := 120) hx hb dX12_place_111 (by decide) ?_
            cases hm
            exact pw_iret hx hb hr rfl hlk hw hE dX12_place_120
        · rw [if_neg h22] at hm
          refine lv_iload_n hx hb dX12_place_69 rfl (lv_at hl 2 rfl) ?_
          refine lv_iconst (v := 2) hx hb dX12_place_70 (by decide) ?_
          refine lv_icmp_ne (tgt := 86) hx hb dX12_place_71 (by decide) (fun h30 => ?_) (fun h30 => ?_)
          · rw [if_neg h30] at hm
            refine lv_aload_n hx hb dX12_place_86 rfl (lv_at hl 0 rfl) ?_
            obtain ⟨q31, hq31, hm⟩ := bd_some hm
            have Tq31 : TY S_18 q31 14 := hw.wf.ref (k := 12) (j := 14) Ta0 (by decide) (by decide) hq31
            refine pg_rb (k := 12) (j := 14) (f := 1214) hx hb hown hU iu12 hw Ta0 (by decide) rfl (hU _ tw1485) rfl hq31 dX12_place_87 ?_
            refine lv_iconst (v := 4) hx hb dX12_place_90 (by decide) ?_
            refine lv_iload_n hx hb dX12_place_91 rfl (lv_at hl 1 rfl) ?_
            refine lv_imul hx hb dX12_place_92 ?_
            refine lv_iconst (v := 3) hx hb dX12_place_93 (by decide) ?_
            refine lv_iadd hx hb dX12_place_94 ?_
            obtain ⟨hi32, hm⟩ := ck_some hm
            refine pw_iald hx hb hw Tq31 hi32 dX12_place_95 ?_
            cases hm
            exact pw_iret hx hb hr rfl hlk hw hE dX12_place_96
          · rw [if_pos h30] at hm
            refine lv_aload_n hx hb dX12_place_74 rfl (lv_at hl 0 rfl) ?_
            obtain ⟨q33, hq33, hm⟩ := bd_some hm
            have Tq33 : TY S_18 q33 14 := hw.wf.ref (k := 12) (j := 47) Ta0 (by decide) (by decide) hq33
            refine pg_rb (k := 12) (j := 47) (f := 1247) hx hb hown hU iu12 hw Ta0 (by decide) rfl (hU _ tw1518) rfl hq33 dX12_place_75 ?_
            refine lv_bipush (v := 6) hx hb dX12_place_78 (by decide) ?_
            refine lv_iload_n hx hb dX12_place_80 rfl (lv_at hl 1 rfl) ?_
            refine lv_iadd hx hb dX12_place_81 ?_
            obtain ⟨hi34, hm⟩ := ck_some hm
            refine pw_iald hx hb hw Tq33 hi34 dX12_place_82 ?_
            refine lv_goto (tgt := 96) hx hb dX12_place_83 (by decide) ?_
            cases hm
            exact pw_iret hx hb hr rfl hlk hw hE dX12_place_96
      · rw [if_neg h21] at hm
        refine lv_iload_n hx hb dX12_place_40 rfl (lv_at hl 2 rfl) ?_
        refine lv_if_ne (tgt := 55) hx hb dX12_place_41 (by decide) (fun h35 => ?_) (fun h35 => ?_)
        · rw [if_neg h35] at hm
          refine lv_aload_n hx hb dX12_place_55 rfl (lv_at hl 0 rfl) ?_
          obtain ⟨q36, hq36, hm⟩ := bd_some hm
          have Tq36 : TY S_18 q36 14 := hw.wf.ref (k := 12) (j := 47) Ta0 (by decide) (by decide) hq36
          refine pg_rb (k := 12) (j := 47) (f := 1247) hx hb hown hU iu12 hw Ta0 (by decide) rfl (hU _ tw1518) rfl hq36 dX12_place_56 ?_
          refine lv_iconst (v := 0) hx hb dX12_place_59 (by decide) ?_
          refine lv_iload_n hx hb dX12_place_60 rfl (lv_at hl 1 rfl) ?_
          refine lv_iadd hx hb dX12_place_61 ?_
          obtain ⟨hi37, hm⟩ := ck_some hm
          refine pw_iald hx hb hw Tq36 hi37 dX12_place_62 ?_
          cases hm
          exact pw_iret hx hb hr rfl hlk hw hE dX12_place_63
        · rw [if_pos h35] at hm
          refine lv_aload_n hx hb dX12_place_44 rfl (lv_at hl 0 rfl) ?_
          obtain ⟨q38, hq38, hm⟩ := bd_some hm
          have Tq38 : TY S_18 q38 14 := hw.wf.ref (k := 12) (j := 14) Ta0 (by decide) (by decide) hq38
          refine pg_rb (k := 12) (j := 14) (f := 1214) hx hb hown hU iu12 hw Ta0 (by decide) rfl (hU _ tw1485) rfl hq38 dX12_place_45 ?_
          refine lv_iconst (v := 4) hx hb dX12_place_48 (by decide) ?_
          refine lv_iload_n hx hb dX12_place_49 rfl (lv_at hl 1 rfl) ?_
          refine lv_imul hx hb dX12_place_50 ?_
          obtain ⟨hi39, hm⟩ := ck_some hm
          refine pw_iald hx hb hw Tq38 hi39 dX12_place_51 ?_
          refine lv_goto (tgt := 63) hx hb dX12_place_52 (by decide) ?_
          cases hm
          exact pw_iret hx hb hr rfl hlk hw hE dX12_place_63
    · rw [if_pos h17] at hm
      refine lv_iconst (v := 0) hx hb dX12_place_29 (by decide) ?_
      cases hm
      exact pw_iret hx hb hr rfl hlk hw hE dX12_place_30
abbrev rm_X12_want : Room := { frames := 2, cells := 0, slots := 0, locals := 45 }
def m_X12_want (n : Nat) (a0 : Nat) (x1 : Int32) (x2 : Int32) (S0 : pq_S) : Option (Int32 × pq_S) := cb (m_X12_isWant n a0 x1 1 (sI S0 1200 a0 0)) fun r3 S_1 => if r3 = 0 then some (0, S_1) else cb (m_X12_within n x2 0 5 S_1) fun r9 S_7 => cb (m_X12_may n a0 r9 2 1 S_7) fun r14 S_12 => if r14 = 0 then some (0, S_12) else if 4 ≤ x2 then if x2 = 4 then Option.bind (pR S_12 1246 a0) fun q22 => ck (ix ((18 : Int32) + x1) (pN S_12 q22)) (dix _ _) (some ((pA S_12 q22 (Int32.toNatClampNeg ((18 : Int32) + x1))), S_12)) else Option.bind (pR S_12 1246 a0) fun q20 => ck (ix ((30 : Int32) + x1) (pN S_12 q20)) (dix _ _) (some ((pA S_12 q20 (Int32.toNatClampNeg ((30 : Int32) + x1))), S_12)) else Option.bind (pR S_12 1215 a0) fun q24 => ck (ix (((4 : Int32) * x1) + x2) (pN S_12 q24)) (dix _ _) (some ((pA S_12 q24 (Int32.toNatClampNeg (((4 : Int32) * x1) + x2))), S_12))
theorem tc_X12_want : Cond.code yX12_want cX12_want 3 (some .int) ∈ pq_U := tw1933
theorem cd_X12_want : yX12_want.cls = RX12 ∧ yX12_want.cls ≠ "java/lang/invoke/MethodHandle" ∧ yX12_want.cls ≠ "java/lang/invoke/VarHandle" ∧ (parseMethodDescriptor yX12_want.desc).map (fun d => d.parameters.length) = some 2 := by decide +kernel
set_option maxHeartbeats 4000000 in
set_option maxRecDepth 100000 in
theorem c_X12_want (l : Launch) (C : pq_C) (X : va_W) (n : Nat) (S0 : pq_S) (hF : WF S0) (sz : Nat) (a0 : Nat) (x1 : Int32) (x2 : Int32) (Ta0 : TY S0 a0 12) (r : Int32) (S1 : pq_S) (hm : m_X12_want n a0 x1 x2 S0 = some (r, S1)) : MI l yX12_want (.code yX12_want cX12_want 3 (some .int) :: pq_U) rm_X12_want C X S0 sz [.ref a0, .int x1, .int x2] r S1 0 0 := by
  refine Met.ofW (cc := cX12_want) (maxL := 3) (ret := (some .int)) (by decide) rfl ?_
  intro p e s m args below meth c s₁ B hml hv
  obtain ⟨rfl, hv⟩ := hv
  have hsz := hv.1
  subst hsz
  have hw := pw_entry hF hv
  have hts := atoms_spec (ws := .code yX12_want cX12_want 3 (some .int) :: pq_U) B.pre
  have hU : ∀ w ∈ pq_U, w.before _ s = true := fun w h => hts w (List.mem_cons_of_mem _ h)
  have hx := B.exec
  have hb := B.bytes
  have hr := B.returns
  have hown : s.vm.findClass RX12 = some m.cls := findClass_of_methodNamed B.named
  have hlk := B.notSynchronized
  have hl := lv_entry ([.ref a0, .int x1, .int x2]) (n := 3) (Nat.le_of_ble_eq_true rfl)
  rw [lg_entry_eq]
  generalize (lg_sl ([.ref a0, .int x1, .int x2]) ++ List.replicate (3 - (lg_sl ([.ref a0, .int x1, .int x2])).length) Slot.unset).toArray = ls at hl ⊢
  have hl : lv_has ls 3 [(0, .ref a0), (1, .int x1), (2, .int x2)] := hl
  have hE : Ext S0 S0 := Ext.rf _
  have cx : Cx p s m _ meth c cX12_want 3 RX12 (some .int) := ⟨hx, hb, hml, hown, hU, hr, hlk⟩
  rw [m_X12_want] at hm
  refine lv_aload_n hx hb dX12_want_0 rfl (lv_at hl 0 rfl) ?_
  refine lv_iconst (v := 0) hx hb dX12_want_1 (by decide) ?_
  refine pp_i (k := 12) (j := 0) (f := 1200) hx hb hown hU iu12 tyX12_ok nmX12 hw Ta0 (by decide) rfl (hU _ tw1471) rfl rfl rfl dX12_want_2 (fun H locs hw => ?_)
  refine lv_aload_n hx hb dX12_want_5 rfl (lv_at hl 0 rfl) ?_
  refine lv_iload_n hx hb dX12_want_6 rfl (lv_at hl 1 rfl) ?_
  refine lv_iconst (v := 1) hx hb dX12_want_7 (by decide) ?_
  obtain ⟨r3, S_1, hq2, hm⟩ := cb_some hm
  refine pw_cz (va_runV (As := [.int x1, .int 1]) (rest := []) ⟨hx, hb, hml, hown, hU⟩ (c_X12_isWant l C X n (sI S0 1200 a0 0) hw.wf _ a0 x1 1 (Ta0) r3 S_1 hq2) (cwV 2 hU (pq_gV tw1934 tw1936 ts163 tw14 tc_X12_isWant) rfl rfl rfl cd_X12_isWant ⟨Nat.le_of_ble_eq_true rfl, Nat.le_of_ble_eq_true rfl⟩) (pw_preV hw Ta0 (by decide) rfl) rfl rfl hl.1 rfl (lv_room (Nat.le_of_ble_eq_true rfl)) dX12_want_8 ⟨Nat.zero_le _, Nat.zero_le _⟩) hw (fun H locs hw hx4 hz5 => ?_)
  have Ta0 : TY S_1 a0 12 := ty_ext hx4 Ta0
  have hE : Ext S0 S_1 := Ext.tr hE hx4
  refine lv_if_eq (tgt := 29) hx hb dX12_want_11 (by decide) (fun h6 => ?_) (fun h6 => ?_)
  · rw [if_pos h6] at hm
    refine lv_iconst (v := 0) hx hb dX12_want_29 (by decide) ?_
    cases hm
    exact pw_iret hx hb hr rfl hlk hw hE dX12_want_30
  · rw [if_neg h6] at hm
    refine lv_aload_n hx hb dX12_want_14 rfl (lv_at hl 0 rfl) ?_
    refine lv_iload_n hx hb dX12_want_15 rfl (lv_at hl 2 rfl) ?_
    refine lv_iconst (v := 0) hx hb dX12_want_16 (by decide) ?_
    refine lv_iconst (v := 5) hx hb dX12_want_17 (by decide) ?_
    obtain ⟨r9, S_7, hq8, hm⟩ := cb_some hm
    refine pw_cz (va_runS (As := [.int x2, .int 0, .int 5]) (rest := [.ref a0]) ⟨hx, hb, hml, hown, hU⟩ (c_X12_within l C X n S_1 hw.wf _ x2 0 5  r9 S_7 hq8) ⟨callB_of 3 hU (pq_g1 tc_X12_within) rfl rfl rfl (hU _ tw14) (hU _ tw1776) cd_X12_within.2 ⟨Nat.le_of_ble_eq_true rfl, Nat.le_of_ble_eq_true rfl⟩, hU _ tw1777⟩ (pw_preS hw) rfl rfl hl.1 rfl (lv_room (Nat.le_of_ble_eq_true rfl)) dX12_want_18 ⟨Nat.zero_le _, Nat.zero_le _⟩) hw (fun H locs hw hx10 hz11 => ?_)
    have Ta0 : TY S_7 a0 12 := ty_ext hx10 Ta0
    have hE : Ext S0 S_7 := Ext.tr hE hx10
    refine lv_iconst (v := 2) hx hb dX12_want_21 (by decide) ?_
    refine lv_iconst (v := 1) hx hb dX12_want_22 (by decide) ?_
    obtain ⟨r14, S_12, hq13, hm⟩ := cb_some hm
    refine pw_cz (va_runV (As := [.int r9, .int 2, .int 1]) (rest := []) ⟨hx, hb, hml, hown, hU⟩ (c_X12_may l C X n S_7 hw.wf _ a0 r9 2 1 (Ta0) r14 S_12 hq13) (cwV 3 hU (pq_gV tw1703 tw1705 ts123 tw14 tc_X12_may) rfl rfl rfl cd_X12_may ⟨Nat.le_of_ble_eq_true rfl, Nat.le_of_ble_eq_true rfl⟩) (pw_preV hw Ta0 (by decide) rfl) rfl rfl hl.1 rfl (lv_room (Nat.le_of_ble_eq_true rfl)) dX12_want_23 ⟨Nat.zero_le _, Nat.zero_le _⟩) hw (fun H locs hw hx15 hz16 => ?_)
    have Ta0 : TY S_12 a0 12 := ty_ext hx15 Ta0
    have hE : Ext S0 S_12 := Ext.tr hE hx15
    refine lv_if_ne (tgt := 31) hx hb dX12_want_26 (by decide) (fun h17 => ?_) (fun h17 => ?_)
    · rw [if_neg h17] at hm
      refine lv_iload_n hx hb dX12_want_31 rfl (lv_at hl 2 rfl) ?_
      refine lv_iconst (v := 4) hx hb dX12_want_32 (by decide) ?_
      refine lv_icmp_ge (tgt := 49) hx hb dX12_want_33 (by decide) (fun h18 => ?_) (fun h18 => ?_)
      · rw [if_pos h18] at hm
        refine lv_iload_n hx hb dX12_want_49 rfl (lv_at hl 2 rfl) ?_
        refine lv_iconst (v := 4) hx hb dX12_want_50 (by decide) ?_
        refine lv_icmp_ne (tgt := 66) hx hb dX12_want_51 (by decide) (fun h19 => ?_) (fun h19 => ?_)
        · rw [if_neg h19] at hm
          refine lv_aload_n hx hb dX12_want_66 rfl (lv_at hl 0 rfl) ?_
          obtain ⟨q20, hq20, hm⟩ := bd_some hm
          have Tq20 : TY S_12 q20 14 := hw.wf.ref (k := 12) (j := 46) Ta0 (by decide) (by decide) hq20
          refine pg_rb (k := 12) (j := 46) (f := 1246) hx hb hown hU iu12 hw Ta0 (by decide) rfl (hU _ tw1517) rfl hq20 dX12_want_67 ?_
          refine lv_bipush (v := 30) hx hb dX12_want_70 (by decide) ?_
          refine lv_iload_n hx hb dX12_want_72 rfl (lv_at hl 1 rfl) ?_
          refine lv_iadd hx hb dX12_want_73 ?_
          obtain ⟨hi21, hm⟩ := ck_some hm
          refine pw_iald hx hb hw Tq20 hi21 dX12_want_74 ?_
          cases hm
          exact pw_iret hx hb hr rfl hlk hw hE dX12_want_75
        · rw [if_pos h19] at hm
          refine lv_aload_n hx hb dX12_want_54 rfl (lv_at hl 0 rfl) ?_
          obtain ⟨q22, hq22, hm⟩ := bd_some hm
          have Tq22 : TY S_12 q22 14 := hw.wf.ref (k := 12) (j := 46) Ta0 (by decide) (by decide) hq22
          refine pg_rb (k := 12) (j := 46) (f := 1246) hx hb hown hU iu12 hw Ta0 (by decide) rfl (hU _ tw1517) rfl hq22 dX12_want_55 ?_
          refine lv_bipush (v := 18) hx hb dX12_want_58 (by decide) ?_
          refine lv_iload_n hx hb dX12_want_60 rfl (lv_at hl 1 rfl) ?_
          refine lv_iadd hx hb dX12_want_61 ?_
          obtain ⟨hi23, hm⟩ := ck_some hm
          refine pw_iald hx hb hw Tq22 hi23 dX12_want_62 ?_
          refine lv_goto (tgt := 75) hx hb dX12_want_63 (by decide) ?_
          cases hm
          exact pw_iret hx hb hr rfl hlk hw hE dX12_want_75
      · rw [if_neg h18] at hm
        refine lv_aload_n hx hb dX12_want_36 rfl (lv_at hl 0 rfl) ?_
        obtain ⟨q24, hq24, hm⟩ := bd_some hm
        have Tq24 : TY S_12 q24 14 := hw.wf.ref (k := 12) (j := 15) Ta0 (by decide) (by decide) hq24
        refine pg_rb (k := 12) (j := 15) (f := 1215) hx hb hown hU iu12 hw Ta0 (by decide) rfl (hU _ tw1486) rfl hq24 dX12_want_37 ?_
        refine lv_iconst (v := 4) hx hb dX12_want_40 (by decide) ?_
        refine lv_iload_n hx hb dX12_want_41 rfl (lv_at hl 1 rfl) ?_
        refine lv_imul hx hb dX12_want_42 ?_
        refine lv_iload_n hx hb dX12_want_43 rfl (lv_at hl 2 rfl) ?_
        refine lv_iadd hx hb dX12_want_44 ?_
        obtain ⟨hi25, hm⟩ := ck_some hm
        refine pw_iald hx hb hw Tq24 hi25 dX12_want_45 ?_
        refine lv_goto (tgt := 75) hx hb dX12_want_46 (by decide) ?_
        cases hm
        exact pw_iret hx hb hr rfl hlk hw hE dX12_want_75
    · rw [if_pos h17] at hm
      refine lv_iconst (v := 0) hx hb dX12_want_29 (by decide) ?_
      cases hm
      exact pw_iret hx hb hr rfl hlk hw hE dX12_want_30
abbrev rm_X12_mine : Room := { frames := 2, cells := 0, slots := 0, locals := 45 }
def m_X12_mine (n : Nat) (a0 : Nat) (x1 : Int32) (x2 : Int32) (S0 : pq_S) : Option (Int32 × pq_S) := cb (m_X12_isMine n a0 x1 1 (sI S0 1200 a0 0)) fun r3 S_1 => if r3 = 0 then some (0, S_1) else cb (m_X12_within n x2 0 4 S_1) fun r9 S_7 => cb (m_X12_may n a0 r9 2 1 S_7) fun r14 S_12 => if r14 = 0 then some (0, S_12) else Option.bind (m_X12_take n a0 S_12) fun S_18 => if 2 ≤ x2 then if x2 = 2 then Option.bind (pR S_18 1216 a0) fun q32 => ck (ix (((3 : Int32) * x1) + (2 : Int32)) (pN S_18 q32)) (dix _ _) (some ((pA S_18 q32 (Int32.toNatClampNeg (((3 : Int32) * x1) + (2 : Int32)))), S_18)) else if x2 = 3 then cb (m_X12_isOpenMine n a0 x1 S_18) fun r28 S_26 => if r28 = 0 then some (0, S_26) else some (1, S_26) else Option.bind (pR S_18 1247 a0) fun q24 => ck (ix ((45 : Int32) + x1) (pN S_18 q24)) (dix _ _) (some ((pA S_18 q24 (Int32.toNatClampNeg ((45 : Int32) + x1))), S_18)) else if x2 = 0 then Option.bind (pR S_18 1216 a0) fun q37 => ck (ix ((3 : Int32) * x1) (pN S_18 q37)) (dix _ _) (some ((pA S_18 q37 (Int32.toNatClampNeg ((3 : Int32) * x1))), S_18)) else Option.bind (pR S_18 1247 a0) fun q35 => ck (ix ((42 : Int32) + x1) (pN S_18 q35)) (dix _ _) (some ((pA S_18 q35 (Int32.toNatClampNeg ((42 : Int32) + x1))), S_18))
theorem tc_X12_mine : Cond.code yX12_mine cX12_mine 3 (some .int) ∈ pq_U := tw1941
theorem cd_X12_mine : yX12_mine.cls = RX12 ∧ yX12_mine.cls ≠ "java/lang/invoke/MethodHandle" ∧ yX12_mine.cls ≠ "java/lang/invoke/VarHandle" ∧ (parseMethodDescriptor yX12_mine.desc).map (fun d => d.parameters.length) = some 2 := by decide +kernel
set_option maxHeartbeats 4000000 in
set_option maxRecDepth 100000 in
theorem c_X12_mine (l : Launch) (C : pq_C) (X : va_W) (n : Nat) (S0 : pq_S) (hF : WF S0) (sz : Nat) (a0 : Nat) (x1 : Int32) (x2 : Int32) (Ta0 : TY S0 a0 12) (r : Int32) (S1 : pq_S) (hm : m_X12_mine n a0 x1 x2 S0 = some (r, S1)) : MI l yX12_mine (.code yX12_mine cX12_mine 3 (some .int) :: pq_U) rm_X12_mine C X S0 sz [.ref a0, .int x1, .int x2] r S1 0 0 := by
  refine Met.ofW (cc := cX12_mine) (maxL := 3) (ret := (some .int)) (by decide) rfl ?_
  intro p e s m args below meth c s₁ B hml hv
  obtain ⟨rfl, hv⟩ := hv
  have hsz := hv.1
  subst hsz
  have hw := pw_entry hF hv
  have hts := atoms_spec (ws := .code yX12_mine cX12_mine 3 (some .int) :: pq_U) B.pre
  have hU : ∀ w ∈ pq_U, w.before _ s = true := fun w h => hts w (List.mem_cons_of_mem _ h)
  have hx := B.exec
  have hb := B.bytes
  have hr := B.returns
  have hown : s.vm.findClass RX12 = some m.cls := findClass_of_methodNamed B.named
  have hlk := B.notSynchronized
  have hl := lv_entry ([.ref a0, .int x1, .int x2]) (n := 3) (Nat.le_of_ble_eq_true rfl)
  rw [lg_entry_eq]
  generalize (lg_sl ([.ref a0, .int x1, .int x2]) ++ List.replicate (3 - (lg_sl ([.ref a0, .int x1, .int x2])).length) Slot.unset).toArray = ls at hl ⊢
  have hl : lv_has ls 3 [(0, .ref a0), (1, .int x1), (2, .int x2)] := hl
  have hE : Ext S0 S0 := Ext.rf _
  have cx : Cx p s m _ meth c cX12_mine 3 RX12 (some .int) := ⟨hx, hb, hml, hown, hU, hr, hlk⟩
  rw [m_X12_mine] at hm
  refine lv_aload_n hx hb dX12_mine_0 rfl (lv_at hl 0 rfl) ?_
  refine lv_iconst (v := 0) hx hb dX12_mine_1 (by decide) ?_
  refine pp_i (k := 12) (j := 0) (f := 1200) hx hb hown hU iu12 tyX12_ok nmX12 hw Ta0 (by decide) rfl (hU _ tw1471) rfl rfl rfl dX12_mine_2 (fun H locs hw => ?_)
  refine lv_aload_n hx hb dX12_mine_5 rfl (lv_at hl 0 rfl) ?_
  refine lv_iload_n hx hb dX12_mine_6 rfl (lv_at hl 1 rfl) ?_
  refine lv_iconst (v := 1) hx hb dX12_mine_7 (by decide) ?_
  obtain ⟨r3, S_1, hq2, hm⟩ := cb_some hm
  refine pw_cz (va_runV (As := [.int x1, .int 1]) (rest := []) ⟨hx, hb, hml, hown, hU⟩ (c_X12_isMine l C X n (sI S0 1200 a0 0) hw.wf _ a0 x1 1 (Ta0) r3 S_1 hq2) (cwV 2 hU (pq_gV tw1942 tw1944 ts164 tw14 tc_X12_isMine) rfl rfl rfl cd_X12_isMine ⟨Nat.le_of_ble_eq_true rfl, Nat.le_of_ble_eq_true rfl⟩) (pw_preV hw Ta0 (by decide) rfl) rfl rfl hl.1 rfl (lv_room (Nat.le_of_ble_eq_true rfl)) dX12_mine_8 ⟨Nat.zero_le _, Nat.zero_le _⟩) hw (fun H locs hw hx4 hz5 => ?_)
  have Ta0 : TY S_1 a0 12 := ty_ext hx4 Ta0
  have hE : Ext S0 S_1 := Ext.tr hE hx4
  refine lv_if_eq (tgt := 29) hx hb dX12_mine_11 (by decide) (fun h6 => ?_) (fun h6 => ?_)
  · rw [if_pos h6] at hm
    refine lv_iconst (v := 0) hx hb dX12_mine_29 (by decide) ?_
    cases hm
    exact pw_iret hx hb hr rfl hlk hw hE dX12_mine_30
  · rw [if_neg h6] at hm
    refine lv_aload_n hx hb dX12_mine_14 rfl (lv_at hl 0 rfl) ?_
    refine lv_iload_n hx hb dX12_mine_15 rfl (lv_at hl 2 rfl) ?_
    refine lv_iconst (v := 0) hx hb dX12_mine_16 (by decide) ?_
    refine lv_iconst (v := 4) hx hb dX12_mine_17 (by decide) ?_
    obtain ⟨r9, S_7, hq8, hm⟩ := cb_some hm
    refine pw_cz (va_runS (As := [.int x2, .int 0, .int 4]) (rest := [.ref a0]) ⟨hx, hb, hml, hown, hU⟩ (c_X12_within l C X n S_1 hw.wf _ x2 0 4  r9 S_7 hq8) ⟨callB_of 3 hU (pq_g1 tc_X12_within) rfl rfl rfl (hU _ tw14) (hU _ tw1776) cd_X12_within.2 ⟨Nat.le_of_ble_eq_true rfl, Nat.le_of_ble_eq_true rfl⟩, hU _ tw1777⟩ (pw_preS hw) rfl rfl hl.1 rfl (lv_room (Nat.le_of_ble_eq_true rfl)) dX12_mine_18 ⟨Nat.zero_le _, Nat.zero_le _⟩) hw (fun H locs hw hx10 hz11 => ?_)
    have Ta0 : TY S_7 a0 12 := ty_ext hx10 Ta0
    have hE : Ext S0 S_7 := Ext.tr hE hx10
    refine lv_iconst (v := 2) hx hb dX12_mine_21 (by decide) ?_
    refine lv_iconst (v := 1) hx hb dX12_mine_22 (by decide) ?_
    obtain ⟨r14, S_12, hq13, hm⟩ := cb_some hm
    refine pw_cz (va_runV (As := [.int r9, .int 2, .int 1]) (rest := []) ⟨hx, hb, hml, hown, hU⟩ (c_X12_may l C X n S_7 hw.wf _ a0 r9 2 1 (Ta0) r14 S_12 hq13) (cwV 3 hU (pq_gV tw1703 tw1705 ts123 tw14 tc_X12_may) rfl rfl rfl cd_X12_may ⟨Nat.le_of_ble_eq_true rfl, Nat.le_of_ble_eq_true rfl⟩) (pw_preV hw Ta0 (by decide) rfl) rfl rfl hl.1 rfl (lv_room (Nat.le_of_ble_eq_true rfl)) dX12_mine_23 ⟨Nat.zero_le _, Nat.zero_le _⟩) hw (fun H locs hw hx15 hz16 => ?_)
    have Ta0 : TY S_12 a0 12 := ty_ext hx15 Ta0
    have hE : Ext S0 S_12 := Ext.tr hE hx15
    refine lv_if_ne (tgt := 31) hx hb dX12_mine_26 (by decide) (fun h17 => ?_) (fun h17 => ?_)
    · rw [if_neg h17] at hm
      refine lv_aload_n hx hb dX12_mine_31 rfl (lv_at hl 0 rfl) ?_
      obtain ⟨S_18, hq19, hm⟩ := bd_some hm
      refine pw_cv (va_runV (As := []) (rest := []) ⟨hx, hb, hml, hown, hU⟩ (c_X12_take l C X n S_12 hw.wf _ a0 (Ta0) S_18 hq19) (cwV 0 hU (pq_gV tw1922 tw1924 ts161 tw14 tc_X12_take) rfl rfl rfl cd_X12_take ⟨Nat.le_of_ble_eq_true rfl, Nat.le_of_ble_eq_true rfl⟩) (pw_preV hw Ta0 (by decide) rfl) rfl rfl hl.1 rfl (lv_room (Nat.le_of_ble_eq_true rfl)) dX12_mine_32 ⟨Nat.zero_le _, Nat.zero_le _⟩) hw (fun H locs hw hx20 => ?_)
      have Ta0 : TY S_18 a0 12 := ty_ext hx20 Ta0
      have hE : Ext S0 S_18 := Ext.tr hE hx20
      refine lv_iload_n hx hb dX12_mine_35 rfl (lv_at hl 2 rfl) ?_
      refine lv_iconst (v := 2) hx hb dX12_mine_36 (by decide) ?_
      refine lv_icmp_ge (tgt := 65) hx hb dX12_mine_37 (by decide) (fun h21 => ?_) (fun h21 => ?_)
      · rw [if_pos h21] at hm
        refine lv_iload_n hx hb dX12_mine_65 rfl (lv_at hl 2 rfl) ?_
        refine lv_iconst (v := 2) hx hb dX12_mine_66 (by decide) ?_
        refine lv_icmp_ne (tgt := 83) hx hb dX12_mine_67 (by decide) (fun h22 => ?_) (fun h22 => ?_)
        · rw [if_neg h22] at hm
          refine lv_iload_n hx hb dX12_mine_83 rfl (lv_at hl 2 rfl) ?_
          refine lv_iconst (v := 3) hx hb dX12_mine_84 (by decide) ?_
          refine lv_icmp_ne (tgt := 104) hx hb dX12_mine_85 (by decide) (fun h23 => ?_) (fun h23 => ?_)
          · rw [if_neg h23] at hm
            refine lv_aload_n hx hb dX12_mine_104 rfl (lv_at hl 0 rfl) ?_
            obtain ⟨q24, hq24, hm⟩ := bd_some hm
            have Tq24 : TY S_18 q24 14 := hw.wf.ref (k := 12) (j := 47) Ta0 (by decide) (by decide) hq24
            refine pg_rb (k := 12) (j := 47) (f := 1247) hx hb hown hU iu12 hw Ta0 (by decide) rfl (hU _ tw1518) rfl hq24 dX12_mine_105 ?_
            refine lv_bipush (v := 45) hx hb dX12_mine_108 (by decide) ?_
            refine lv_iload_n hx hb dX12_mine_110 rfl (lv_at hl 1 rfl) ?_
            refine lv_iadd hx hb dX12_mine_111 ?_
            obtain ⟨hi25, hm⟩ := ck_some hm
            refine pw_iald hx hb hw Tq24 hi25 dX12_mine_112 ?_
            cases hm
            exact pw_iret hx hb hr rfl hlk hw hE dX12_mine_113
          · rw [if_pos h23] at hm
            refine lv_aload_n hx hb dX12_mine_88 rfl (lv_at hl 0 rfl) ?_
            refine lv_iload_n hx hb dX12_mine_89 rfl (lv_at hl 1 rfl) ?_
            obtain ⟨r28, S_26, hq27, hm⟩ := cb_some hm
            refine pw_cz (va_runV (As := [.int x1]) (rest := []) ⟨hx, hb, hml, hown, hU⟩ (c_X12_isOpenMine l C X n S_18 hw.wf _ a0 x1 (Ta0) r28 S_26 hq27) (cwV 1 hU (pq_gV tw1886 tw1888 ts156 tw14 tc_X12_isOpenMine) rfl rfl rfl cd_X12_isOpenMine ⟨Nat.le_of_ble_eq_true rfl, Nat.le_of_ble_eq_true rfl⟩) (pw_preV hw Ta0 (by decide) rfl) rfl rfl hl.1 rfl (lv_room (Nat.le_of_ble_eq_true rfl)) dX12_mine_90 ⟨Nat.zero_le _, Nat.zero_le _⟩) hw (fun H locs hw hx29 hz30 => ?_)
            have Ta0 : TY S_26 a0 12 := ty_ext hx29 Ta0
            have hE : Ext S0 S_26 := Ext.tr hE hx29
            refine lv_if_eq (tgt := 100) hx hb dX12_mine_93 (by decide) (fun h31 => ?_) (fun h31 => ?_)
            · rw [if_pos h31] at hm
              refine lv_iconst (v := 0) hx hb dX12_mine_100 (by decide) ?_
              refine lv_goto (tgt := 113) hx hb dX12_mine_101 (by decide) ?_
              cases hm
              exact pw_iret hx hb hr rfl hlk hw hE dX12_mine_113
            · rw [if_neg h31] at hm
              refine lv_iconst (v := 1) hx hb dX12_mine_96 (by decide) ?_
              refine lv_goto (tgt := 113) hx hb dX12_mine_97 (by decide) ?_
              cases hm
              exact pw_iret hx hb hr rfl hlk hw hE dX12_mine_113
        · rw [if_pos h22] at hm
          refine lv_aload_n hx hb dX12_mine_70 rfl (lv_at hl 0 rfl) ?_
          obtain ⟨q32, hq32, hm⟩ := bd_some hm
          have Tq32 : TY S_18 q32 14 := hw.wf.ref (k := 12) (j := 16) Ta0 (by decide) (by decide) hq32
          refine pg_rb (k := 12) (j := 16) (f := 1216) hx hb hown hU iu12 hw Ta0 (by decide) rfl (hU _ tw1487) rfl hq32 dX12_mine_71 ?_
          refine lv_iconst (v := 3) hx hb dX12_mine_74 (by decide) ?_
          refine lv_iload_n hx hb dX12_mine_75 rfl (lv_at hl 1 rfl) ?_
          refine lv_imul hx hb dX12_mine_76 ?_
          refine lv_iconst (v := 2) hx hb dX12_mine_77 (by decide) ?_
          refine lv_iadd hx hb dX12_mine_78 ?_
          obtain ⟨hi33, hm⟩ := ck_some hm
          refine pw_iald hx hb hw Tq32 hi33 dX12_mine_79 ?_
          refine lv_goto (tgt := 113) hx hb dX12_mine_80 (by decide) ?_
          cases hm
          exact pw_iret hx hb hr rfl hlk hw hE dX12_mine_113
      · rw [if_neg h21] at hm
        refine lv_iload_n hx hb dX12_mine_40 rfl (lv_at hl 2 rfl) ?_
        refine lv_if_ne (tgt := 55) hx hb dX12_mine_41 (by decide) (fun h34 => ?_) (fun h34 => ?_)
        · rw [if_neg h34] at hm
          refine lv_aload_n hx hb dX12_mine_55 rfl (lv_at hl 0 rfl) ?_
          obtain ⟨q35, hq35, hm⟩ := bd_some hm
          have Tq35 : TY S_18 q35 14 := hw.wf.ref (k := 12) (j := 47) Ta0 (by decide) (by decide) hq35
          refine pg_rb (k := 12) (j := 47) (f := 1247) hx hb hown hU iu12 hw Ta0 (by decide) rfl (hU _ tw1518) rfl hq35 dX12_mine_56 ?_
          refine lv_bipush (v := 42) hx hb dX12_mine_59 (by decide) ?_
          refine lv_iload_n hx hb dX12_mine_61 rfl (lv_at hl 1 rfl) ?_
          refine lv_iadd hx hb dX12_mine_62 ?_
          obtain ⟨hi36, hm⟩ := ck_some hm
          refine pw_iald hx hb hw Tq35 hi36 dX12_mine_63 ?_
          cases hm
          exact pw_iret hx hb hr rfl hlk hw hE dX12_mine_64
        · rw [if_pos h34] at hm
          refine lv_aload_n hx hb dX12_mine_44 rfl (lv_at hl 0 rfl) ?_
          obtain ⟨q37, hq37, hm⟩ := bd_some hm
          have Tq37 : TY S_18 q37 14 := hw.wf.ref (k := 12) (j := 16) Ta0 (by decide) (by decide) hq37
          refine pg_rb (k := 12) (j := 16) (f := 1216) hx hb hown hU iu12 hw Ta0 (by decide) rfl (hU _ tw1487) rfl hq37 dX12_mine_45 ?_
          refine lv_iconst (v := 3) hx hb dX12_mine_48 (by decide) ?_
          refine lv_iload_n hx hb dX12_mine_49 rfl (lv_at hl 1 rfl) ?_
          refine lv_imul hx hb dX12_mine_50 ?_
          obtain ⟨hi38, hm⟩ := ck_some hm
          refine pw_iald hx hb hw Tq37 hi38 dX12_mine_51 ?_
          refine lv_goto (tgt := 64) hx hb dX12_mine_52 (by decide) ?_
          cases hm
          exact pw_iret hx hb hr rfl hlk hw hE dX12_mine_64
    · rw [if_pos h17] at hm
      refine lv_iconst (v := 0) hx hb dX12_mine_29 (by decide) ?_
      cases hm
      exact pw_iret hx hb hr rfl hlk hw hE dX12_mine_30
abbrev rm_X12_can : Room := { frames := 2, cells := 0, slots := 0, locals := 45 }
def m_X12_can (n : Nat) (a0 : Nat) (x1 : Int32) (S0 : pq_S) : Option (Int32 × pq_S) := cb (m_X12_isWant n a0 x1 1 (sI S0 1200 a0 0)) fun r3 S_1 => if r3 = 0 then some (0, S_1) else Option.bind (m_X12_take n a0 S_1) fun S_7 => cb (m_X12_canSell n a0 x1 S_7) fun r12 S_10 => some (r12, S_10)
theorem tc_X12_can : Cond.code yX12_can cX12_can 2 (some .boolean) ∈ pq_U := tw1957
theorem cd_X12_can : yX12_can.cls = RX12 ∧ yX12_can.cls ≠ "java/lang/invoke/MethodHandle" ∧ yX12_can.cls ≠ "java/lang/invoke/VarHandle" ∧ (parseMethodDescriptor yX12_can.desc).map (fun d => d.parameters.length) = some 1 := by decide +kernel
set_option maxHeartbeats 4000000 in
set_option maxRecDepth 100000 in
theorem c_X12_can (l : Launch) (C : pq_C) (X : va_W) (n : Nat) (S0 : pq_S) (hF : WF S0) (sz : Nat) (a0 : Nat) (x1 : Int32) (Ta0 : TY S0 a0 12) (r : Int32) (S1 : pq_S) (hm : m_X12_can n a0 x1 S0 = some (r, S1)) : MZ l yX12_can (.code yX12_can cX12_can 2 (some .boolean) :: pq_U) rm_X12_can C X S0 sz [.ref a0, .int x1] r S1 0 0 := by
  refine Met.ofW (cc := cX12_can) (maxL := 2) (ret := (some .boolean)) (by decide) rfl ?_
  intro p e s m args below meth c s₁ B hml hv
  obtain ⟨rfl, hv⟩ := hv
  have hsz := hv.1
  subst hsz
  have hw := pw_entry hF hv
  have hts := atoms_spec (ws := .code yX12_can cX12_can 2 (some .boolean) :: pq_U) B.pre
  have hU : ∀ w ∈ pq_U, w.before _ s = true := fun w h => hts w (List.mem_cons_of_mem _ h)
  have hx := B.exec
  have hb := B.bytes
  have hr := B.returns
  have hown : s.vm.findClass RX12 = some m.cls := findClass_of_methodNamed B.named
  have hlk := B.notSynchronized
  have hl := lv_entry ([.ref a0, .int x1]) (n := 2) (Nat.le_of_ble_eq_true rfl)
  rw [lg_entry_eq]
  generalize (lg_sl ([.ref a0, .int x1]) ++ List.replicate (2 - (lg_sl ([.ref a0, .int x1])).length) Slot.unset).toArray = ls at hl ⊢
  have hl : lv_has ls 2 [(0, .ref a0), (1, .int x1)] := hl
  have hE : Ext S0 S0 := Ext.rf _
  have cx : Cx p s m _ meth c cX12_can 2 RX12 (some .boolean) := ⟨hx, hb, hml, hown, hU, hr, hlk⟩
  rw [m_X12_can] at hm
  refine lv_aload_n hx hb dX12_can_0 rfl (lv_at hl 0 rfl) ?_
  refine lv_iconst (v := 0) hx hb dX12_can_1 (by decide) ?_
  refine pp_i (k := 12) (j := 0) (f := 1200) hx hb hown hU iu12 tyX12_ok nmX12 hw Ta0 (by decide) rfl (hU _ tw1471) rfl rfl rfl dX12_can_2 (fun H locs hw => ?_)
  refine lv_aload_n hx hb dX12_can_5 rfl (lv_at hl 0 rfl) ?_
  refine lv_iload_n hx hb dX12_can_6 rfl (lv_at hl 1 rfl) ?_
  refine lv_iconst (v := 1) hx hb dX12_can_7 (by decide) ?_
  obtain ⟨r3, S_1, hq2, hm⟩ := cb_some hm
  refine pw_cz (va_runV (As := [.int x1, .int 1]) (rest := []) ⟨hx, hb, hml, hown, hU⟩ (c_X12_isWant l C X n (sI S0 1200 a0 0) hw.wf _ a0 x1 1 (Ta0) r3 S_1 hq2) (cwV 2 hU (pq_gV tw1934 tw1936 ts163 tw14 tc_X12_isWant) rfl rfl rfl cd_X12_isWant ⟨Nat.le_of_ble_eq_true rfl, Nat.le_of_ble_eq_true rfl⟩) (pw_preV hw Ta0 (by decide) rfl) rfl rfl hl.1 rfl (lv_room (Nat.le_of_ble_eq_true rfl)) dX12_can_8 ⟨Nat.zero_le _, Nat.zero_le _⟩) hw (fun H locs hw hx4 hz5 => ?_)
  have Ta0 : TY S_1 a0 12 := ty_ext hx4 Ta0
  have hE : Ext S0 S_1 := Ext.tr hE hx4
  refine lv_if_ne (tgt := 16) hx hb dX12_can_11 (by decide) (fun h6 => ?_) (fun h6 => ?_)
  · rw [if_neg h6] at hm
    refine lv_aload_n hx hb dX12_can_16 rfl (lv_at hl 0 rfl) ?_
    obtain ⟨S_7, hq8, hm⟩ := bd_some hm
    refine pw_cv (va_runV (As := []) (rest := []) ⟨hx, hb, hml, hown, hU⟩ (c_X12_take l C X n S_1 hw.wf _ a0 (Ta0) S_7 hq8) (cwV 0 hU (pq_gV tw1922 tw1924 ts161 tw14 tc_X12_take) rfl rfl rfl cd_X12_take ⟨Nat.le_of_ble_eq_true rfl, Nat.le_of_ble_eq_true rfl⟩) (pw_preV hw Ta0 (by decide) rfl) rfl rfl hl.1 rfl (lv_room (Nat.le_of_ble_eq_true rfl)) dX12_can_17 ⟨Nat.zero_le _, Nat.zero_le _⟩) hw (fun H locs hw hx9 => ?_)
    have Ta0 : TY S_7 a0 12 := ty_ext hx9 Ta0
    have hE : Ext S0 S_7 := Ext.tr hE hx9
    refine lv_aload_n hx hb dX12_can_20 rfl (lv_at hl 0 rfl) ?_
    refine lv_iload_n hx hb dX12_can_21 rfl (lv_at hl 1 rfl) ?_
    obtain ⟨r12, S_10, hq11, hm⟩ := cb_some hm
    refine pw_cz (va_runV (As := [.int x1]) (rest := []) ⟨hx, hb, hml, hown, hU⟩ (c_X12_canSell l C X n S_7 hw.wf _ a0 x1 (Ta0) r12 S_10 hq11) (cwV 1 hU (pq_gV tw1878 tw1880 ts154 tw14 tc_X12_canSell) rfl rfl rfl cd_X12_canSell ⟨Nat.le_of_ble_eq_true rfl, Nat.le_of_ble_eq_true rfl⟩) (pw_preV hw Ta0 (by decide) rfl) rfl rfl hl.1 rfl (lv_room (Nat.le_of_ble_eq_true rfl)) dX12_can_22 ⟨Nat.zero_le _, Nat.zero_le _⟩) hw (fun H locs hw hx13 hz14 => ?_)
    have Ta0 : TY S_10 a0 12 := ty_ext hx13 Ta0
    have hE : Ext S0 S_10 := Ext.tr hE hx13
    cases hm
    exact pw_zret hx hb hr hz14 hlk hw hE dX12_can_25
  · rw [if_pos h6] at hm
    refine lv_iconst (v := 0) hx hb dX12_can_14 (by decide) ?_
    cases hm
    exact pw_zret hx hb hr bz_0 hlk hw hE dX12_can_15
abbrev rm_X12_findSales : Room := { frames := 0, cells := 0, slots := 0, locals := 0 }
def b_X12_findSales_69 (n : Nat) (k8 : Nat → Int32 → pq_S → Option pq_S) (k16 : Nat → Int32 → Int32 → Int32 → pq_S → Option pq_S) (a0 : Nat) (x1 : Int32) (x2 : Int32) (x3 : Int32) (S : pq_S) : Option pq_S := k16 a0 x1 x2 (x3 + 1) S
set_option maxHeartbeats 4000000 in
set_option maxRecDepth 100000 in
theorem wb_X12_findSales_69 {p : Program} {l : Launch} {e : Env} {s : State} {m : MethodId} {args : Array Value} {below : List Frame} {meth : Method} {c : Code} (cx : Cx p s m args meth c cX12_findSales 11 RX12 none) (C : pq_C) (X : va_W) (S0 : pq_S) (n : Nat) (S1 : pq_S) (k8 : Nat → Int32 → pq_S → Option pq_S) (hk8 : ∀ (a0 : Nat) (x1 : Int32) (S : pq_S) (H : Heap) (locs : List Loc) (ls : Array Slot), PW C X S (pq_F C X S0 s.heap.size) H locs s → Ext S0 S → TY S a0 12 → lv_has ls 11 [(0, .ref a0), (1, .int x1)] → k8 a0 x1 S = some S1 → W p l e rm_X12_findSales s m args below meth c H locs 0 0 (MQ below (QcV C X S0 s.heap.size S1) args s 0 0 (pq_F C X S0 s.heap.size)) (F0 m 12 ls [])) (k16 : Nat → Int32 → Int32 → Int32 → pq_S → Option pq_S) (hk16 : ∀ (a0 : Nat) (x1 : Int32) (x2 : Int32) (x3 : Int32) (S : pq_S) (H : Heap) (locs : List Loc) (ls : Array Slot), PW C X S (pq_F C X S0 s.heap.size) H locs s → Ext S0 S → TY S a0 12 → lv_has ls 11 [(0, .ref a0), (1, .int x1), (2, .int x2), (3, .int x3)] → k16 a0 x1 x2 x3 S = some S1 → W p l e rm_X12_findSales s m args below meth c H locs 0 0 (MQ below (QcV C X S0 s.heap.size S1) args s 0 0 (pq_F C X S0 s.heap.size)) (F0 m 24 ls [])) : ∀ (a0 : Nat) (x1 : Int32) (x2 : Int32) (x3 : Int32) (S : pq_S) (H : Heap) (locs : List Loc) (ls : Array Slot), PW C X S (pq_F C X S0 s.heap.size) H locs s → Ext S0 S → TY S a0 12 → lv_has ls 11 [(0, .ref a0), (1, .int x1), (2, .int x2), (3, .int x3)] → b_X12_findSales_69 n k8 k16 a0 x1 x2 x3 S = some S1 → W p l e rm_X12_findSales s m args below meth c H locs 0 0 (MQ below (QcV C X S0 s.heap.size S1) args s 0 0 (pq_F C X S0 s.heap.size)) (F0 m 69 ls []) := by
  obtain ⟨hx, hb, hml, hown, hU, hr, hlk⟩ := id cx
  intro a0 x1 x2 x3 S H locs ls hw hE Ta0 hl hm
  rw [b_X12_findSales_69] at hm
  refine lv_iinc (v := (x3 + 1)) (lv' := [(3, .int (x3 + 1)), (0, .ref a0), (1, .int x1), (2, .int x2)]) hx hb dX12_findSales_69 hl (k := 3) rfl rfl (by decide) rfl (fun ls hl => ?_)
  refine lv_goto (tgt := 24) hx hb dX12_findSales_72 (by decide) ?_
  exact hk16 a0 x1 x2 (x3 + 1) S _ _ _ hw hE Ta0 (lv_sub hl [1, 2, 3, 0] rfl) hm
def b_X12_findSales_306 (n : Nat) (k8 : Nat → Int32 → pq_S → Option pq_S) (a0 : Nat) (x1 : Int32) (S : pq_S) : Option pq_S := k8 a0 (x1 + 1) S
set_option maxHeartbeats 4000000 in
set_option maxRecDepth 100000 in
theorem wb_X12_findSales_306 {p : Program} {l : Launch} {e : Env} {s : State} {m : MethodId} {args : Array Value} {below : List Frame} {meth : Method} {c : Code} (cx : Cx p s m args meth c cX12_findSales 11 RX12 none) (C : pq_C) (X : va_W) (S0 : pq_S) (n : Nat) (S1 : pq_S) (k8 : Nat → Int32 → pq_S → Option pq_S) (hk8 : ∀ (a0 : Nat) (x1 : Int32) (S : pq_S) (H : Heap) (locs : List Loc) (ls : Array Slot), PW C X S (pq_F C X S0 s.heap.size) H locs s → Ext S0 S → TY S a0 12 → lv_has ls 11 [(0, .ref a0), (1, .int x1)] → k8 a0 x1 S = some S1 → W p l e rm_X12_findSales s m args below meth c H locs 0 0 (MQ below (QcV C X S0 s.heap.size S1) args s 0 0 (pq_F C X S0 s.heap.size)) (F0 m 12 ls [])) : ∀ (a0 : Nat) (x1 : Int32) (S : pq_S) (H : Heap) (locs : List Loc) (ls : Array Slot), PW C X S (pq_F C X S0 s.heap.size) H locs s → Ext S0 S → TY S a0 12 → lv_has ls 11 [(0, .ref a0), (1, .int x1)] → b_X12_findSales_306 n k8 a0 x1 S = some S1 → W p l e rm_X12_findSales s m args below meth c H locs 0 0 (MQ below (QcV C X S0 s.heap.size S1) args s 0 0 (pq_F C X S0 s.heap.size)) (F0 m 306 ls []) := by
  obtain ⟨hx, hb, hml, hown, hU, hr, hlk⟩ := id cx
  intro a0 x1 S H locs ls hw hE Ta0 hl hm
  rw [b_X12_findSales_306] at hm
  refine lv_iinc (v := (x1 + 1)) (lv' := [(1, .int (x1 + 1)), (0, .ref a0)]) hx hb dX12_findSales_306 hl (k := 1) rfl rfl (by decide) rfl (fun ls hl => ?_)
  refine lv_goto (tgt := 12) hx hb dX12_findSales_309 (by decide) ?_
  exact hk8 a0 (x1 + 1) S _ _ _ hw hE Ta0 (lv_sub hl [1, 0] rfl) hm
def b_X12_findSales_271 (n : Nat) (k8 : Nat → Int32 → pq_S → Option pq_S) : Nat → Nat → Int32 → Int32 → Int32 → Int32 → pq_S → Option pq_S
  | 0, _, _, _, _, _, _ => none
  | f + 1, a0, x1, x2, x3, x5, S => if x2 ≤ x5 then b_X12_findSales_306 n k8 a0 x1 S else Option.bind (pR S 1252 a0) fun q38 => ck (ix x5 (pN S q38)) (dix _ _) (lt_ (sI S 1254 a0 ((pI S 1254 a0) ||| (((x3 >>> (x5 &&& (31 : Int32))) &&& (1 : Int32)) <<< ((pA S q38 (Int32.toNatClampNeg x5)) &&& (31 : Int32))))) fun S_40 => b_X12_findSales_271 n k8 f a0 x1 x2 x3 (x5 + 1) S_40)
set_option maxHeartbeats 4000000 in
set_option maxRecDepth 100000 in
theorem wb_X12_findSales_271 {p : Program} {l : Launch} {e : Env} {s : State} {m : MethodId} {args : Array Value} {below : List Frame} {meth : Method} {c : Code} (cx : Cx p s m args meth c cX12_findSales 11 RX12 none) (C : pq_C) (X : va_W) (S0 : pq_S) (n : Nat) (S1 : pq_S) (k8 : Nat → Int32 → pq_S → Option pq_S) (hk8 : ∀ (a0 : Nat) (x1 : Int32) (S : pq_S) (H : Heap) (locs : List Loc) (ls : Array Slot), PW C X S (pq_F C X S0 s.heap.size) H locs s → Ext S0 S → TY S a0 12 → lv_has ls 11 [(0, .ref a0), (1, .int x1)] → k8 a0 x1 S = some S1 → W p l e rm_X12_findSales s m args below meth c H locs 0 0 (MQ below (QcV C X S0 s.heap.size S1) args s 0 0 (pq_F C X S0 s.heap.size)) (F0 m 12 ls [])) : ∀ (f : Nat) (a0 : Nat) (x1 : Int32) (x2 : Int32) (x3 : Int32) (x5 : Int32) (S : pq_S) (H : Heap) (locs : List Loc) (ls : Array Slot), PW C X S (pq_F C X S0 s.heap.size) H locs s → Ext S0 S → TY S a0 12 → lv_has ls 11 [(0, .ref a0), (1, .int x1), (2, .int x2), (3, .int x3), (5, .int x5)] → b_X12_findSales_271 n k8 f a0 x1 x2 x3 x5 S = some S1 → W p l e rm_X12_findSales s m args below meth c H locs 0 0 (MQ below (QcV C X S0 s.heap.size S1) args s 0 0 (pq_F C X S0 s.heap.size)) (F0 m 271 ls []) := by
  obtain ⟨hx, hb, hml, hown, hU, hr, hlk⟩ := id cx
  intro f
  induction f with
  | zero =>
    intro a0 x1 x2 x3 x5 S H locs ls hw hE Ta0 hl hm
    cases hm
  | succ f ih =>
    intro a0 x1 x2 x3 x5 S H locs ls hw hE Ta0 hl hm
    rw [b_X12_findSales_271] at hm
    refine lv_iload hx hb dX12_findSales_271 (lv_at hl 4 rfl) ?_
    refine lv_iload_n hx hb dX12_findSales_273 rfl (lv_at hl 2 rfl) ?_
    refine lv_icmp_ge (tgt := 306) hx hb dX12_findSales_274 (by decide) (fun h37 => ?_) (fun h37 => ?_)
    · rw [if_pos h37] at hm
      exact wb_X12_findSales_306 cx C X S0 n S1 _ hk8 a0 x1 S _ _ _ hw hE Ta0 (lv_sub hl [0, 1] rfl) hm
    · rw [if_neg h37] at hm
      refine lv_aload_n hx hb dX12_findSales_277 rfl (lv_at hl 0 rfl) ?_
      refine lv_dup hx hb dX12_findSales_278 rfl ?_
      refine pg_i (k := 12) (j := 54) (f := 1254) hx hb hown hU iu12 hw Ta0 (by decide) rfl (hU _ tw1525) rfl dX12_findSales_279 ?_
      refine lv_iload_n hx hb dX12_findSales_282 rfl (lv_at hl 3 rfl) ?_
      refine lv_iload hx hb dX12_findSales_283 (lv_at hl 4 rfl) ?_
      refine lv_ishr hx hb dX12_findSales_285 ?_
      refine lv_iconst (v := 1) hx hb dX12_findSales_286 (by decide) ?_
      refine lv_iand hx hb dX12_findSales_287 ?_
      refine lv_aload_n hx hb dX12_findSales_288 rfl (lv_at hl 0 rfl) ?_
      obtain ⟨q38, hq38, hm⟩ := bd_some hm
      have Tq38 : TY S q38 14 := hw.wf.ref (k := 12) (j := 52) Ta0 (by decide) (by decide) hq38
      refine pg_rb (k := 12) (j := 52) (f := 1252) hx hb hown hU iu12 hw Ta0 (by decide) rfl (hU _ tw1523) rfl hq38 dX12_findSales_289 ?_
      refine lv_iload hx hb dX12_findSales_292 (lv_at hl 4 rfl) ?_
      obtain ⟨hi39, hm⟩ := ck_some hm
      refine pw_iald hx hb hw Tq38 hi39 dX12_findSales_294 ?_
      refine lv_ishl hx hb dX12_findSales_295 ?_
      refine lv_ior hx hb dX12_findSales_296 ?_
      refine pp_i (k := 12) (j := 54) (f := 1254) hx hb hown hU iu12 tyX12_ok nmX12 hw Ta0 (by decide) rfl (hU _ tw1525) rfl rfl rfl dX12_findSales_297 (fun H locs hw => ?_)
      obtain ⟨S_40, eS_40, hm⟩ := lt_some hm
      rw [← eS_40] at hw
      have Ta0 : TY S_40 a0 12 := by rw [eS_40]; exact Ta0
      have hE : Ext S0 S_40 := by rw [eS_40]; exact hE
      refine lv_iinc (v := (x5 + 1)) (lv' := [(5, .int (x5 + 1)), (0, .ref a0), (1, .int x1), (2, .int x2), (3, .int x3)]) hx hb dX12_findSales_300 hl (k := 4) rfl rfl (by decide) rfl (fun ls hl => ?_)
      refine lv_goto (tgt := 271) hx hb dX12_findSales_303 (by decide) ?_
      exact ih a0 x1 x2 x3 (x5 + 1) S_40 _ _ _ hw hE Ta0 (lv_sub hl [1, 2, 3, 4, 0] rfl) hm
def b_X12_findSales_257 (n : Nat) (k8 : Nat → Int32 → pq_S → Option pq_S) (a0 : Nat) (x1 : Int32) (x2 : Int32) (x3 : Int32) (x4 : Int32) (S : pq_S) : Option pq_S := b_X12_findSales_271 n k8 n a0 x1 x2 x3 0 (sI S 1253 a0 ((pI S 1253 a0) + x4))
set_option maxHeartbeats 4000000 in
set_option maxRecDepth 100000 in
theorem wb_X12_findSales_257 {p : Program} {l : Launch} {e : Env} {s : State} {m : MethodId} {args : Array Value} {below : List Frame} {meth : Method} {c : Code} (cx : Cx p s m args meth c cX12_findSales 11 RX12 none) (C : pq_C) (X : va_W) (S0 : pq_S) (n : Nat) (S1 : pq_S) (k8 : Nat → Int32 → pq_S → Option pq_S) (hk8 : ∀ (a0 : Nat) (x1 : Int32) (S : pq_S) (H : Heap) (locs : List Loc) (ls : Array Slot), PW C X S (pq_F C X S0 s.heap.size) H locs s → Ext S0 S → TY S a0 12 → lv_has ls 11 [(0, .ref a0), (1, .int x1)] → k8 a0 x1 S = some S1 → W p l e rm_X12_findSales s m args below meth c H locs 0 0 (MQ below (QcV C X S0 s.heap.size S1) args s 0 0 (pq_F C X S0 s.heap.size)) (F0 m 12 ls [])) : ∀ (a0 : Nat) (x1 : Int32) (x2 : Int32) (x3 : Int32) (x4 : Int32) (S : pq_S) (H : Heap) (locs : List Loc) (ls : Array Slot), PW C X S (pq_F C X S0 s.heap.size) H locs s → Ext S0 S → TY S a0 12 → lv_has ls 11 [(0, .ref a0), (1, .int x1), (2, .int x2), (3, .int x3), (4, .int x4)] → b_X12_findSales_257 n k8 a0 x1 x2 x3 x4 S = some S1 → W p l e rm_X12_findSales s m args below meth c H locs 0 0 (MQ below (QcV C X S0 s.heap.size S1) args s 0 0 (pq_F C X S0 s.heap.size)) (F0 m 257 ls []) := by
  obtain ⟨hx, hb, hml, hown, hU, hr, hlk⟩ := id cx
  intro a0 x1 x2 x3 x4 S H locs ls hw hE Ta0 hl hm
  rw [b_X12_findSales_257] at hm
  refine lv_aload_n hx hb dX12_findSales_257 rfl (lv_at hl 0 rfl) ?_
  refine lv_dup hx hb dX12_findSales_258 rfl ?_
  refine pg_i (k := 12) (j := 53) (f := 1253) hx hb hown hU iu12 hw Ta0 (by decide) rfl (hU _ tw1524) rfl dX12_findSales_259 ?_
  refine lv_iload hx hb dX12_findSales_262 (lv_at hl 4 rfl) ?_
  refine lv_iadd hx hb dX12_findSales_264 ?_
  refine pp_i (k := 12) (j := 53) (f := 1253) hx hb hown hU iu12 tyX12_ok nmX12 hw Ta0 (by decide) rfl (hU _ tw1524) rfl rfl rfl dX12_findSales_265 (fun H locs hw => ?_)
  refine lv_iconst (v := 0) hx hb dX12_findSales_268 (by decide) ?_
  refine lv_istore (lv' := [(5, .int 0), (0, .ref a0), (1, .int x1), (2, .int x2), (3, .int x3), (4, .int x4)]) hx hb dX12_findSales_269 hl (by decide) rfl (fun ls hl => ?_)
  exact wb_X12_findSales_271 cx C X S0 n S1 _ hk8 n a0 x1 x2 x3 0 (sI S 1253 a0 ((pI S 1253 a0) + x4)) _ _ _ hw hE Ta0 (lv_sub hl [1, 2, 3, 4, 0] rfl) hm
def b_X12_findSales_192 (n : Nat) (k8 : Nat → Int32 → pq_S → Option pq_S) (k50 : Nat → Int32 → Int32 → Int32 → Int32 → Int32 → pq_S → Option pq_S) (k63 : Nat → Int32 → Int32 → Int32 → Int32 → Int32 → Int32 → Int32 → Int32 → Int32 → pq_S → Option pq_S) (a0 : Nat) (x1 : Int32) (x2 : Int32) (x3 : Int32) (x4 : Int32) (x5 : Int32) (x6 : Int32) (x7 : Int32) (x8 : Int32) (x9 : Int32) (S : pq_S) : Option pq_S := k63 a0 x1 x2 x3 x4 x5 x6 x7 x8 (x9 + 1) S
set_option maxHeartbeats 4000000 in
set_option maxRecDepth 100000 in
theorem wb_X12_findSales_192 {p : Program} {l : Launch} {e : Env} {s : State} {m : MethodId} {args : Array Value} {below : List Frame} {meth : Method} {c : Code} (cx : Cx p s m args meth c cX12_findSales 11 RX12 none) (C : pq_C) (X : va_W) (S0 : pq_S) (n : Nat) (S1 : pq_S) (k8 : Nat → Int32 → pq_S → Option pq_S) (hk8 : ∀ (a0 : Nat) (x1 : Int32) (S : pq_S) (H : Heap) (locs : List Loc) (ls : Array Slot), PW C X S (pq_F C X S0 s.heap.size) H locs s → Ext S0 S → TY S a0 12 → lv_has ls 11 [(0, .ref a0), (1, .int x1)] → k8 a0 x1 S = some S1 → W p l e rm_X12_findSales s m args below meth c H locs 0 0 (MQ below (QcV C X S0 s.heap.size S1) args s 0 0 (pq_F C X S0 s.heap.size)) (F0 m 12 ls [])) (k50 : Nat → Int32 → Int32 → Int32 → Int32 → Int32 → pq_S → Option pq_S) (hk50 : ∀ (a0 : Nat) (x1 : Int32) (x2 : Int32) (x3 : Int32) (x4 : Int32) (x5 : Int32) (S : pq_S) (H : Heap) (locs : List Loc) (ls : Array Slot), PW C X S (pq_F C X S0 s.heap.size) H locs s → Ext S0 S → TY S a0 12 → lv_has ls 11 [(0, .ref a0), (1, .int x1), (2, .int x2), (3, .int x3), (4, .int x4), (5, .int x5)] → k50 a0 x1 x2 x3 x4 x5 S = some S1 → W p l e rm_X12_findSales s m args below meth c H locs 0 0 (MQ below (QcV C X S0 s.heap.size S1) args s 0 0 (pq_F C X S0 s.heap.size)) (F0 m 83 ls [])) (k63 : Nat → Int32 → Int32 → Int32 → Int32 → Int32 → Int32 → Int32 → Int32 → Int32 → pq_S → Option pq_S) (hk63 : ∀ (a0 : Nat) (x1 : Int32) (x2 : Int32) (x3 : Int32) (x4 : Int32) (x5 : Int32) (x6 : Int32) (x7 : Int32) (x8 : Int32) (x9 : Int32) (S : pq_S) (H : Heap) (locs : List Loc) (ls : Array Slot), PW C X S (pq_F C X S0 s.heap.size) H locs s → Ext S0 S → TY S a0 12 → lv_has ls 11 [(0, .ref a0), (1, .int x1), (2, .int x2), (3, .int x3), (4, .int x4), (5, .int x5), (6, .int x6), (7, .int x7), (8, .int x8), (9, .int x9)] → k63 a0 x1 x2 x3 x4 x5 x6 x7 x8 x9 S = some S1 → W p l e rm_X12_findSales s m args below meth c H locs 0 0 (MQ below (QcV C X S0 s.heap.size S1) args s 0 0 (pq_F C X S0 s.heap.size)) (F0 m 103 ls [])) : ∀ (a0 : Nat) (x1 : Int32) (x2 : Int32) (x3 : Int32) (x4 : Int32) (x5 : Int32) (x6 : Int32) (x7 : Int32) (x8 : Int32) (x9 : Int32) (S : pq_S) (H : Heap) (locs : List Loc) (ls : Array Slot), PW C X S (pq_F C X S0 s.heap.size) H locs s → Ext S0 S → TY S a0 12 → lv_has ls 11 [(0, .ref a0), (1, .int x1), (2, .int x2), (3, .int x3), (4, .int x4), (5, .int x5), (6, .int x6), (7, .int x7), (8, .int x8), (9, .int x9)] → b_X12_findSales_192 n k8 k50 k63 a0 x1 x2 x3 x4 x5 x6 x7 x8 x9 S = some S1 → W p l e rm_X12_findSales s m args below meth c H locs 0 0 (MQ below (QcV C X S0 s.heap.size S1) args s 0 0 (pq_F C X S0 s.heap.size)) (F0 m 192 ls []) := by
  obtain ⟨hx, hb, hml, hown, hU, hr, hlk⟩ := id cx
  intro a0 x1 x2 x3 x4 x5 x6 x7 x8 x9 S H locs ls hw hE Ta0 hl hm
  rw [b_X12_findSales_192] at hm
  refine lv_iinc (v := (x9 + 1)) (lv' := [(9, .int (x9 + 1)), (0, .ref a0), (1, .int x1), (2, .int x2), (3, .int x3), (4, .int x4), (5, .int x5), (6, .int x6), (7, .int x7), (8, .int x8)]) hx hb dX12_findSales_192 hl (k := 9) rfl rfl (by decide) rfl (fun ls hl => ?_)
  refine lv_goto (tgt := 103) hx hb dX12_findSales_195 (by decide) ?_
  exact hk63 a0 x1 x2 x3 x4 x5 x6 x7 x8 (x9 + 1) S _ _ _ hw hE Ta0 (lv_sub hl [1, 2, 3, 4, 5, 6, 7, 8, 9, 0] rfl) hm
def b_X12_findSales_175 (n : Nat) (k8 : Nat → Int32 → pq_S → Option pq_S) (k50 : Nat → Int32 → Int32 → Int32 → Int32 → Int32 → pq_S → Option pq_S) (k63 : Nat → Int32 → Int32 → Int32 → Int32 → Int32 → Int32 → Int32 → Int32 → Int32 → pq_S → Option pq_S) (a0 : Nat) (x1 : Int32) (x2 : Int32) (x3 : Int32) (x4 : Int32) (x5 : Int32) (x7 : Int32) (x8 : Int32) (x9 : Int32) (x10 : Int32) (z0 : Int32) (z1 : Int32) (S : pq_S) : Option pq_S := Option.bind (pR S 1215 a0) fun q25 => ck (ix (x10 + (3 : Int32)) (pN S q25)) (dix _ _) (lt_ (x8 + (pA S q25 (Int32.toNatClampNeg (x10 + (3 : Int32))))) fun v27 => b_X12_findSales_192 n k8 k50 k63 a0 x1 x2 x3 x4 x5 (z0 + z1) x7 v27 x9 S)
set_option maxHeartbeats 4000000 in
set_option maxRecDepth 100000 in
theorem wb_X12_findSales_175 {p : Program} {l : Launch} {e : Env} {s : State} {m : MethodId} {args : Array Value} {below : List Frame} {meth : Method} {c : Code} (cx : Cx p s m args meth c cX12_findSales 11 RX12 none) (C : pq_C) (X : va_W) (S0 : pq_S) (n : Nat) (S1 : pq_S) (k8 : Nat → Int32 → pq_S → Option pq_S) (hk8 : ∀ (a0 : Nat) (x1 : Int32) (S : pq_S) (H : Heap) (locs : List Loc) (ls : Array Slot), PW C X S (pq_F C X S0 s.heap.size) H locs s → Ext S0 S → TY S a0 12 → lv_has ls 11 [(0, .ref a0), (1, .int x1)] → k8 a0 x1 S = some S1 → W p l e rm_X12_findSales s m args below meth c H locs 0 0 (MQ below (QcV C X S0 s.heap.size S1) args s 0 0 (pq_F C X S0 s.heap.size)) (F0 m 12 ls [])) (k50 : Nat → Int32 → Int32 → Int32 → Int32 → Int32 → pq_S → Option pq_S) (hk50 : ∀ (a0 : Nat) (x1 : Int32) (x2 : Int32) (x3 : Int32) (x4 : Int32) (x5 : Int32) (S : pq_S) (H : Heap) (locs : List Loc) (ls : Array Slot), PW C X S (pq_F C X S0 s.heap.size) H locs s → Ext S0 S → TY S a0 12 → lv_has ls 11 [(0, .ref a0), (1, .int x1), (2, .int x2), (3, .int x3), (4, .int x4), (5, .int x5)] → k50 a0 x1 x2 x3 x4 x5 S = some S1 → W p l e rm_X12_findSales s m args below meth c H locs 0 0 (MQ below (QcV C X S0 s.heap.size S1) args s 0 0 (pq_F C X S0 s.heap.size)) (F0 m 83 ls [])) (k63 : Nat → Int32 → Int32 → Int32 → Int32 → Int32 → Int32 → Int32 → Int32 → Int32 → pq_S → Option pq_S) (hk63 : ∀ (a0 : Nat) (x1 : Int32) (x2 : Int32) (x3 : Int32) (x4 : Int32) (x5 : Int32) (x6 : Int32) (x7 : Int32) (x8 : Int32) (x9 : Int32) (S : pq_S) (H : Heap) (locs : List Loc) (ls : Array Slot), PW C X S (pq_F C X S0 s.heap.size) H locs s → Ext S0 S → TY S a0 12 → lv_has ls 11 [(0, .ref a0), (1, .int x1), (2, .int x2), (3, .int x3), (4, .int x4), (5, .int x5), (6, .int x6), (7, .int x7), (8, .int x8), (9, .int x9)] → k63 a0 x1 x2 x3 x4 x5 x6 x7 x8 x9 S = some S1 → W p l e rm_X12_findSales s m args below meth c H locs 0 0 (MQ below (QcV C X S0 s.heap.size S1) args s 0 0 (pq_F C X S0 s.heap.size)) (F0 m 103 ls [])) : ∀ (a0 : Nat) (x1 : Int32) (x2 : Int32) (x3 : Int32) (x4 : Int32) (x5 : Int32) (x7 : Int32) (x8 : Int32) (x9 : Int32) (x10 : Int32) (z0 : Int32) (z1 : Int32) (S : pq_S) (H : Heap) (locs : List Loc) (ls : Array Slot), PW C X S (pq_F C X S0 s.heap.size) H locs s → Ext S0 S → TY S a0 12 → lv_has ls 11 [(0, .ref a0), (1, .int x1), (2, .int x2), (3, .int x3), (4, .int x4), (5, .int x5), (7, .int x7), (8, .int x8), (9, .int x9), (10, .int x10)] → b_X12_findSales_175 n k8 k50 k63 a0 x1 x2 x3 x4 x5 x7 x8 x9 x10 z0 z1 S = some S1 → W p l e rm_X12_findSales s m args below meth c H locs 0 0 (MQ below (QcV C X S0 s.heap.size S1) args s 0 0 (pq_F C X S0 s.heap.size)) (F0 m 175 ls [.int z1, .int z0]) := by
  obtain ⟨hx, hb, hml, hown, hU, hr, hlk⟩ := id cx
  intro a0 x1 x2 x3 x4 x5 x7 x8 x9 x10 z0 z1 S H locs ls hw hE Ta0 hl hm
  rw [b_X12_findSales_175] at hm
  refine lv_iadd hx hb dX12_findSales_175 ?_
  refine lv_istore (lv' := [(6, .int (z0 + z1)), (0, .ref a0), (1, .int x1), (2, .int x2), (3, .int x3), (4, .int x4), (5, .int x5), (7, .int x7), (8, .int x8), (9, .int x9), (10, .int x10)]) hx hb dX12_findSales_176 hl (by decide) rfl (fun ls hl => ?_)
  refine lv_iload hx hb dX12_findSales_178 (lv_at hl 8 rfl) ?_
  refine lv_aload_n hx hb dX12_findSales_180 rfl (lv_at hl 1 rfl) ?_
  obtain ⟨q25, hq25, hm⟩ := bd_some hm
  have Tq25 : TY S q25 14 := hw.wf.ref (k := 12) (j := 15) Ta0 (by decide) (by decide) hq25
  refine pg_rb (k := 12) (j := 15) (f := 1215) hx hb hown hU iu12 hw Ta0 (by decide) rfl (hU _ tw1486) rfl hq25 dX12_findSales_181 ?_
  refine lv_iload hx hb dX12_findSales_184 (lv_at hl 10 rfl) ?_
  refine lv_iconst (v := 3) hx hb dX12_findSales_186 (by decide) ?_
  refine lv_iadd hx hb dX12_findSales_187 ?_
  obtain ⟨hi26, hm⟩ := ck_some hm
  refine pw_iald hx hb hw Tq25 hi26 dX12_findSales_188 ?_
  refine lv_iadd hx hb dX12_findSales_189 ?_
  obtain ⟨v27, ev27, hm⟩ := lt_some hm
  refine lv_nmI ev27 ?_
  refine lv_istore (lv' := [(8, .int v27), (6, .int (z0 + z1)), (0, .ref a0), (1, .int x1), (2, .int x2), (3, .int x3), (4, .int x4), (5, .int x5), (7, .int x7), (9, .int x9), (10, .int x10)]) hx hb dX12_findSales_190 hl (by decide) rfl (fun ls hl => ?_)
  exact wb_X12_findSales_192 cx C X S0 n S1 _ hk8 _ hk50 _ hk63 a0 x1 x2 x3 x4 x5 (z0 + z1) x7 v27 x9 S _ _ _ hw hE Ta0 (lv_sub hl [2, 3, 4, 5, 6, 7, 1, 8, 0, 9] rfl) hm
def b_X12_findSales_251 (n : Nat) (k8 : Nat → Int32 → pq_S → Option pq_S) (k50 : Nat → Int32 → Int32 → Int32 → Int32 → Int32 → pq_S → Option pq_S) (a0 : Nat) (x1 : Int32) (x2 : Int32) (x3 : Int32) (x4 : Int32) (x5 : Int32) (S : pq_S) : Option pq_S := k50 a0 x1 x2 x3 x4 (x5 + 1) S
set_option maxHeartbeats 4000000 in
set_option maxRecDepth 100000 in
theorem wb_X12_findSales_251 {p : Program} {l : Launch} {e : Env} {s : State} {m : MethodId} {args : Array Value} {below : List Frame} {meth : Method} {c : Code} (cx : Cx p s m args meth c cX12_findSales 11 RX12 none) (C : pq_C) (X : va_W) (S0 : pq_S) (n : Nat) (S1 : pq_S) (k8 : Nat → Int32 → pq_S → Option pq_S) (hk8 : ∀ (a0 : Nat) (x1 : Int32) (S : pq_S) (H : Heap) (locs : List Loc) (ls : Array Slot), PW C X S (pq_F C X S0 s.heap.size) H locs s → Ext S0 S → TY S a0 12 → lv_has ls 11 [(0, .ref a0), (1, .int x1)] → k8 a0 x1 S = some S1 → W p l e rm_X12_findSales s m args below meth c H locs 0 0 (MQ below (QcV C X S0 s.heap.size S1) args s 0 0 (pq_F C X S0 s.heap.size)) (F0 m 12 ls [])) (k50 : Nat → Int32 → Int32 → Int32 → Int32 → Int32 → pq_S → Option pq_S) (hk50 : ∀ (a0 : Nat) (x1 : Int32) (x2 : Int32) (x3 : Int32) (x4 : Int32) (x5 : Int32) (S : pq_S) (H : Heap) (locs : List Loc) (ls : Array Slot), PW C X S (pq_F C X S0 s.heap.size) H locs s → Ext S0 S → TY S a0 12 → lv_has ls 11 [(0, .ref a0), (1, .int x1), (2, .int x2), (3, .int x3), (4, .int x4), (5, .int x5)] → k50 a0 x1 x2 x3 x4 x5 S = some S1 → W p l e rm_X12_findSales s m args below meth c H locs 0 0 (MQ below (QcV C X S0 s.heap.size S1) args s 0 0 (pq_F C X S0 s.heap.size)) (F0 m 83 ls [])) : ∀ (a0 : Nat) (x1 : Int32) (x2 : Int32) (x3 : Int32) (x4 : Int32) (x5 : Int32) (S : pq_S) (H : Heap) (locs : List Loc) (ls : Array Slot), PW C X S (pq_F C X S0 s.heap.size) H locs s → Ext S0 S → TY S a0 12 → lv_has ls 11 [(0, .ref a0), (1, .int x1), (2, .int x2), (3, .int x3), (4, .int x4), (5, .int x5)] → b_X12_findSales_251 n k8 k50 a0 x1 x2 x3 x4 x5 S = some S1 → W p l e rm_X12_findSales s m args below meth c H locs 0 0 (MQ below (QcV C X S0 s.heap.size S1) args s 0 0 (pq_F C X S0 s.heap.size)) (F0 m 251 ls []) := by
  obtain ⟨hx, hb, hml, hown, hU, hr, hlk⟩ := id cx
  intro a0 x1 x2 x3 x4 x5 S H locs ls hw hE Ta0 hl hm
  rw [b_X12_findSales_251] at hm
  refine lv_iinc (v := (x5 + 1)) (lv' := [(5, .int (x5 + 1)), (0, .ref a0), (1, .int x1), (2, .int x2), (3, .int x3), (4, .int x4)]) hx hb dX12_findSales_251 hl (k := 5) rfl rfl (by decide) rfl (fun ls hl => ?_)
  refine lv_goto (tgt := 83) hx hb dX12_findSales_254 (by decide) ?_
  exact hk50 a0 x1 x2 x3 x4 (x5 + 1) S _ _ _ hw hE Ta0 (lv_sub hl [1, 2, 3, 4, 5, 0] rfl) hm
def b_X12_findSales_198 (n : Nat) (k8 : Nat → Int32 → pq_S → Option pq_S) (k50 : Nat → Int32 → Int32 → Int32 → Int32 → Int32 → pq_S → Option pq_S) (a0 : Nat) (x1 : Int32) (x2 : Int32) (x3 : Int32) (x4 : Int32) (x5 : Int32) (x6 : Int32) (x7 : Int32) (x8 : Int32) (S : pq_S) : Option pq_S := Option.bind (pR S 1247 a0) fun q28 => ck (ix ((0 : Int32) + x1) (pN S q28)) (dix _ _) (if (pA S q28 (Int32.toNatClampNeg ((0 : Int32) + x1))) < x6 then b_X12_findSales_251 n k8 k50 a0 x1 x2 x3 x4 x5 S else Option.bind (pR S 1247 a0) fun q31 => ck (ix ((0 : Int32) + x1) (pN S q31)) (dix _ _) (Option.bind (pR S 1247 a0) fun q33 => ck (ix ((6 : Int32) + x1) (pN S q33)) (dix _ _) (if ((pA S q31 (Int32.toNatClampNeg ((0 : Int32) + x1))) + (pA S q33 (Int32.toNatClampNeg ((6 : Int32) + x1)))) < x7 then b_X12_findSales_251 n k8 k50 a0 x1 x2 x3 x4 x5 S else if x4 < x8 then b_X12_findSales_251 n k8 k50 a0 x1 x2 x5 x8 x5 S else b_X12_findSales_251 n k8 k50 a0 x1 x2 x3 x4 x5 S)))
set_option maxHeartbeats 4000000 in
set_option maxRecDepth 100000 in
theorem wb_X12_findSales_198 {p : Program} {l : Launch} {e : Env} {s : State} {m : MethodId} {args : Array Value} {below : List Frame} {meth : Method} {c : Code} (cx : Cx p s m args meth c cX12_findSales 11 RX12 none) (C : pq_C) (X : va_W) (S0 : pq_S) (n : Nat) (S1 : pq_S) (k8 : Nat → Int32 → pq_S → Option pq_S) (hk8 : ∀ (a0 : Nat) (x1 : Int32) (S : pq_S) (H : Heap) (locs : List Loc) (ls : Array Slot), PW C X S (pq_F C X S0 s.heap.size) H locs s → Ext S0 S → TY S a0 12 → lv_has ls 11 [(0, .ref a0), (1, .int x1)] → k8 a0 x1 S = some S1 → W p l e rm_X12_findSales s m args below meth c H locs 0 0 (MQ below (QcV C X S0 s.heap.size S1) args s 0 0 (pq_F C X S0 s.heap.size)) (F0 m 12 ls [])) (k50 : Nat → Int32 → Int32 → Int32 → Int32 → Int32 → pq_S → Option pq_S) (hk50 : ∀ (a0 : Nat) (x1 : Int32) (x2 : Int32) (x3 : Int32) (x4 : Int32) (x5 : Int32) (S : pq_S) (H : Heap) (locs : List Loc) (ls : Array Slot), PW C X S (pq_F C X S0 s.heap.size) H locs s → Ext S0 S → TY S a0 12 → lv_has ls 11 [(0, .ref a0), (1, .int x1), (2, .int x2), (3, .int x3), (4, .int x4), (5, .int x5)] → k50 a0 x1 x2 x3 x4 x5 S = some S1 → W p l e rm_X12_findSales s m args below meth c H locs 0 0 (MQ below (QcV C X S0 s.heap.size S1) args s 0 0 (pq_F C X S0 s.heap.size)) (F0 m 83 ls [])) : ∀ (a0 : Nat) (x1 : Int32) (x2 : Int32) (x3 : Int32) (x4 : Int32) (x5 : Int32) (x6 : Int32) (x7 : Int32) (x8 : Int32) (S : pq_S) (H : Heap) (locs : List Loc) (ls : Array Slot), PW C X S (pq_F C X S0 s.heap.size) H locs s → Ext S0 S → TY S a0 12 → lv_has ls 11 [(0, .ref a0), (1, .int x1), (2, .int x2), (3, .int x3), (4, .int x4), (5, .int x5), (6, .int x6), (7, .int x7), (8, .int x8)] → b_X12_findSales_198 n k8 k50 a0 x1 x2 x3 x4 x5 x6 x7 x8 S = some S1 → W p l e rm_X12_findSales s m args below meth c H locs 0 0 (MQ below (QcV C X S0 s.heap.size S1) args s 0 0 (pq_F C X S0 s.heap.size)) (F0 m 198 ls []) := by
  obtain ⟨hx, hb, hml, hown, hU, hr, hlk⟩ := id cx
  intro a0 x1 x2 x3 x4 x5 x6 x7 x8 S H locs ls hw hE Ta0 hl hm
  rw [b_X12_findSales_198] at hm
  refine lv_iload hx hb dX12_findSales_198 (lv_at hl 6 rfl) ?_
  refine lv_aload_n hx hb dX12_findSales_200 rfl (lv_at hl 0 rfl) ?_
  obtain ⟨q28, hq28, hm⟩ := bd_some hm
  have Tq28 : TY S q28 14 := hw.wf.ref (k := 12) (j := 47) Ta0 (by decide) (by decide) hq28
  refine pg_rb (k := 12) (j := 47) (f := 1247) hx hb hown hU iu12 hw Ta0 (by decide) rfl (hU _ tw1518) rfl hq28 dX12_findSales_201 ?_
  refine lv_iconst (v := 0) hx hb dX12_findSales_204 (by decide) ?_
  refine lv_iload_n hx hb dX12_findSales_205 rfl (lv_at hl 1 rfl) ?_
  refine lv_iadd hx hb dX12_findSales_206 ?_
  obtain ⟨hi29, hm⟩ := ck_some hm
  refine pw_iald hx hb hw Tq28 hi29 dX12_findSales_207 ?_
  refine lv_icmp_gt (tgt := 251) hx hb dX12_findSales_208 (by decide) (fun h30 => ?_) (fun h30 => ?_)
  · rw [if_pos h30] at hm
    exact wb_X12_findSales_251 cx C X S0 n S1 _ hk8 _ hk50 a0 x1 x2 x3 x4 x5 S _ _ _ hw hE Ta0 (lv_sub hl [0, 1, 2, 3, 4, 5] rfl) hm
  · rw [if_neg h30] at hm
    refine lv_iload hx hb dX12_findSales_211 (lv_at hl 7 rfl) ?_
    refine lv_aload_n hx hb dX12_findSales_213 rfl (lv_at hl 0 rfl) ?_
    obtain ⟨q31, hq31, hm⟩ := bd_some hm
    have Tq31 : TY S q31 14 := hw.wf.ref (k := 12) (j := 47) Ta0 (by decide) (by decide) hq31
    refine pg_rb (k := 12) (j := 47) (f := 1247) hx hb hown hU iu12 hw Ta0 (by decide) rfl (hU _ tw1518) rfl hq31 dX12_findSales_214 ?_
    refine lv_iconst (v := 0) hx hb dX12_findSales_217 (by decide) ?_
    refine lv_iload_n hx hb dX12_findSales_218 rfl (lv_at hl 1 rfl) ?_
    refine lv_iadd hx hb dX12_findSales_219 ?_
    obtain ⟨hi32, hm⟩ := ck_some hm
    refine pw_iald hx hb hw Tq31 hi32 dX12_findSales_220 ?_
    refine lv_aload_n hx hb dX12_findSales_221 rfl (lv_at hl 0 rfl) ?_
    obtain ⟨q33, hq33, hm⟩ := bd_some hm
    have Tq33 : TY S q33 14 := hw.wf.ref (k := 12) (j := 47) Ta0 (by decide) (by decide) hq33
    refine pg_rb (k := 12) (j := 47) (f := 1247) hx hb hown hU iu12 hw Ta0 (by decide) rfl (hU _ tw1518) rfl hq33 dX12_findSales_222 ?_
    refine lv_bipush (v := 6) hx hb dX12_findSales_225 (by decide) ?_
    refine lv_iload_n hx hb dX12_findSales_227 rfl (lv_at hl 1 rfl) ?_
    refine lv_iadd hx hb dX12_findSales_228 ?_
    obtain ⟨hi34, hm⟩ := ck_some hm
    refine pw_iald hx hb hw Tq33 hi34 dX12_findSales_229 ?_
    refine lv_iadd hx hb dX12_findSales_230 ?_
    refine lv_icmp_gt (tgt := 251) hx hb dX12_findSales_231 (by decide) (fun h35 => ?_) (fun h35 => ?_)
    · rw [if_pos h35] at hm
      exact wb_X12_findSales_251 cx C X S0 n S1 _ hk8 _ hk50 a0 x1 x2 x3 x4 x5 S _ _ _ hw hE Ta0 (lv_sub hl [0, 1, 2, 3, 4, 5] rfl) hm
    · rw [if_neg h35] at hm
      refine lv_iload hx hb dX12_findSales_234 (lv_at hl 8 rfl) ?_
      refine lv_iload hx hb dX12_findSales_236 (lv_at hl 4 rfl) ?_
      refine lv_icmp_gt (tgt := 244) hx hb dX12_findSales_238 (by decide) (fun h36 => ?_) (fun h36 => ?_)
      · rw [if_pos h36] at hm
        refine lv_iload hx hb dX12_findSales_244 (lv_at hl 5 rfl) ?_
        refine lv_istore_n (lv' := [(3, .int x5), (0, .ref a0), (1, .int x1), (2, .int x2), (4, .int x4), (5, .int x5), (6, .int x6), (7, .int x7), (8, .int x8)]) hx hb dX12_findSales_246 rfl hl (by decide) rfl (fun ls hl => ?_)
        refine lv_iload hx hb dX12_findSales_247 (lv_at hl 8 rfl) ?_
        refine lv_istore (lv' := [(4, .int x8), (3, .int x5), (0, .ref a0), (1, .int x1), (2, .int x2), (5, .int x5), (6, .int x6), (7, .int x7), (8, .int x8)]) hx hb dX12_findSales_249 hl (by decide) rfl (fun ls hl => ?_)
        exact wb_X12_findSales_251 cx C X S0 n S1 _ hk8 _ hk50 a0 x1 x2 x5 x8 x5 S _ _ _ hw hE Ta0 (lv_sub hl [2, 3, 4, 1, 0, 5] rfl) hm
      · rw [if_neg h36] at hm
        refine lv_goto (tgt := 251) hx hb dX12_findSales_241 (by decide) ?_
        exact wb_X12_findSales_251 cx C X S0 n S1 _ hk8 _ hk50 a0 x1 x2 x3 x4 x5 S _ _ _ hw hE Ta0 (lv_sub hl [0, 1, 2, 3, 4, 5] rfl) hm
def b_X12_findSales_103 (n : Nat) (k8 : Nat → Int32 → pq_S → Option pq_S) (k50 : Nat → Int32 → Int32 → Int32 → Int32 → Int32 → pq_S → Option pq_S) : Nat → Nat → Int32 → Int32 → Int32 → Int32 → Int32 → Int32 → Int32 → Int32 → Int32 → pq_S → Option pq_S
  | 0, _, _, _, _, _, _, _, _, _, _, _ => none
  | f + 1, a0, x1, x2, x3, x4, x5, x6, x7, x8, x9, S => if x2 ≤ x9 then b_X12_findSales_198 n k8 k50 a0 x1 x2 x3 x4 x5 x6 x7 x8 S else if ((x5 >>> (x9 &&& (31 : Int32))) &&& (1 : Int32)) = 0 then b_X12_findSales_192 n k8 k50 (b_X12_findSales_103 n k8 k50 f) a0 x1 x2 x3 x4 x5 x6 x7 x8 x9 S else Option.bind (pR S 1252 a0) fun q14 => ck (ix x9 (pN S q14)) (dix _ _) (lt_ ((4 : Int32) * (pA S q14 (Int32.toNatClampNeg x9))) fun v16 => Option.bind (pR S 1215 a0) fun q17 => ck (ix (v16 + (1 : Int32)) (pN S q17)) (dix _ _) (lt_ (x7 + (pA S q17 (Int32.toNatClampNeg (v16 + (1 : Int32))))) fun v19 => Option.bind (pR S 1215 a0) fun q20 => ck (ix (v16 + (2 : Int32)) (pN S q20)) (dix _ _) (if (pA S q20 (Int32.toNatClampNeg (v16 + (2 : Int32)))) = 1 then Option.bind (pR S 1215 a0) fun q23 => ck (ix (v16 + (1 : Int32)) (pN S q23)) (dix _ _) (b_X12_findSales_175 n k8 k50 (b_X12_findSales_103 n k8 k50 f) a0 x1 x2 x3 x4 x5 v19 x8 x9 v16 x6 (pA S q23 (Int32.toNatClampNeg (v16 + (1 : Int32)))) S) else b_X12_findSales_175 n k8 k50 (b_X12_findSales_103 n k8 k50 f) a0 x1 x2 x3 x4 x5 v19 x8 x9 v16 x6 0 S)))
set_option maxHeartbeats 4000000 in
set_option maxRecDepth 100000 in
theorem wb_X12_findSales_103 {p : Program} {l : Launch} {e : Env} {s : State} {m : MethodId} {args : Array Value} {below : List Frame} {meth : Method} {c : Code} (cx : Cx p s m args meth c cX12_findSales 11 RX12 none) (C : pq_C) (X : va_W) (S0 : pq_S) (n : Nat) (S1 : pq_S) (k8 : Nat → Int32 → pq_S → Option pq_S) (hk8 : ∀ (a0 : Nat) (x1 : Int32) (S : pq_S) (H : Heap) (locs : List Loc) (ls : Array Slot), PW C X S (pq_F C X S0 s.heap.size) H locs s → Ext S0 S → TY S a0 12 → lv_has ls 11 [(0, .ref a0), (1, .int x1)] → k8 a0 x1 S = some S1 → W p l e rm_X12_findSales s m args below meth c H locs 0 0 (MQ below (QcV C X S0 s.heap.size S1) args s 0 0 (pq_F C X S0 s.heap.size)) (F0 m 12 ls [])) (k50 : Nat → Int32 → Int32 → Int32 → Int32 → Int32 → pq_S → Option pq_S) (hk50 : ∀ (a0 : Nat) (x1 : Int32) (x2 : Int32) (x3 : Int32) (x4 : Int32) (x5 : Int32) (S : pq_S) (H : Heap) (locs : List Loc) (ls : Array Slot), PW C X S (pq_F C X S0 s.heap.size) H locs s → Ext S0 S → TY S a0 12 → lv_has ls 11 [(0, .ref a0), (1, .int x1), (2, .int x2), (3, .int x3), (4, .int x4), (5, .int x5)] → k50 a0 x1 x2 x3 x4 x5 S = some S1 → W p l e rm_X12_findSales s m args below meth c H locs 0 0 (MQ below (QcV C X S0 s.heap.size S1) args s 0 0 (pq_F C X S0 s.heap.size)) (F0 m 83 ls [])) : ∀ (f : Nat) (a0 : Nat) (x1 : Int32) (x2 : Int32) (x3 : Int32) (x4 : Int32) (x5 : Int32) (x6 : Int32) (x7 : Int32) (x8 : Int32) (x9 : Int32) (S : pq_S) (H : Heap) (locs : List Loc) (ls : Array Slot), PW C X S (pq_F C X S0 s.heap.size) H locs s → Ext S0 S → TY S a0 12 → lv_has ls 11 [(0, .ref a0), (1, .int x1), (2, .int x2), (3, .int x3), (4, .int x4), (5, .int x5), (6, .int x6), (7, .int x7), (8, .int x8), (9, .int x9)] → b_X12_findSales_103 n k8 k50 f a0 x1 x2 x3 x4 x5 x6 x7 x8 x9 S = some S1 → W p l e rm_X12_findSales s m args below meth c H locs 0 0 (MQ below (QcV C X S0 s.heap.size S1) args s 0 0 (pq_F C X S0 s.heap.size)) (F0 m 103 ls []) := by
  obtain ⟨hx, hb, hml, hown, hU, hr, hlk⟩ := id cx
  intro f
  induction f with
  | zero =>
    intro a0 x1 x2 x3 x4 x5 x6 x7 x8 x9 S H locs ls hw hE Ta0 hl hm
    cases hm
  | succ f ih =>
    intro a0 x1 x2 x3 x4 x5 x6 x7 x8 x9 S H locs ls hw hE Ta0 hl hm
    rw [b_X12_findSales_103] at hm
    refine lv_iload hx hb dX12_findSales_103 (lv_at hl 9 rfl) ?_
    refine lv_iload_n hx hb dX12_findSales_105 rfl (lv_at hl 2 rfl) ?_
    refine lv_icmp_ge (tgt := 198) hx hb dX12_findSales_106 (by decide) (fun h12 => ?_) (fun h12 => ?_)
    · rw [if_pos h12] at hm
      exact wb_X12_findSales_198 cx C X S0 n S1 _ hk8 _ hk50 a0 x1 x2 x3 x4 x5 x6 x7 x8 S _ _ _ hw hE Ta0 (lv_sub hl [0, 1, 2, 3, 4, 5, 6, 7, 8] rfl) hm
    · rw [if_neg h12] at hm
      refine lv_iload hx hb dX12_findSales_109 (lv_at hl 5 rfl) ?_
      refine lv_iload hx hb dX12_findSales_111 (lv_at hl 9 rfl) ?_
      refine lv_ishr hx hb dX12_findSales_113 ?_
      refine lv_iconst (v := 1) hx hb dX12_findSales_114 (by decide) ?_
      refine lv_iand hx hb dX12_findSales_115 ?_
      refine lv_if_ne (tgt := 122) hx hb dX12_findSales_116 (by decide) (fun h13 => ?_) (fun h13 => ?_)
      · rw [if_neg h13] at hm
        refine lv_iconst (v := 4) hx hb dX12_findSales_122 (by decide) ?_
        refine lv_aload_n hx hb dX12_findSales_123 rfl (lv_at hl 0 rfl) ?_
        obtain ⟨q14, hq14, hm⟩ := bd_some hm
        have Tq14 : TY S q14 14 := hw.wf.ref (k := 12) (j := 52) Ta0 (by decide) (by decide) hq14
        refine pg_rb (k := 12) (j := 52) (f := 1252) hx hb hown hU iu12 hw Ta0 (by decide) rfl (hU _ tw1523) rfl hq14 dX12_findSales_124 ?_
        refine lv_iload hx hb dX12_findSales_127 (lv_at hl 9 rfl) ?_
        obtain ⟨hi15, hm⟩ := ck_some hm
        refine pw_iald hx hb hw Tq14 hi15 dX12_findSales_129 ?_
        refine lv_imul hx hb dX12_findSales_130 ?_
        obtain ⟨v16, ev16, hm⟩ := lt_some hm
        refine lv_nmI ev16 ?_
        refine lv_istore (lv' := [(10, .int v16), (0, .ref a0), (1, .int x1), (2, .int x2), (3, .int x3), (4, .int x4), (5, .int x5), (6, .int x6), (7, .int x7), (8, .int x8), (9, .int x9)]) hx hb dX12_findSales_131 hl (by decide) rfl (fun ls hl => ?_)
        refine lv_iload hx hb dX12_findSales_133 (lv_at hl 8 rfl) ?_
        refine lv_aload_n hx hb dX12_findSales_135 rfl (lv_at hl 1 rfl) ?_
        obtain ⟨q17, hq17, hm⟩ := bd_some hm
        have Tq17 : TY S q17 14 := hw.wf.ref (k := 12) (j := 15) Ta0 (by decide) (by decide) hq17
        refine pg_rb (k := 12) (j := 15) (f := 1215) hx hb hown hU iu12 hw Ta0 (by decide) rfl (hU _ tw1486) rfl hq17 dX12_findSales_136 ?_
        refine lv_iload hx hb dX12_findSales_139 (lv_at hl 0 rfl) ?_
        refine lv_iconst (v := 1) hx hb dX12_findSales_141 (by decide) ?_
        refine lv_iadd hx hb dX12_findSales_142 ?_
        obtain ⟨hi18, hm⟩ := ck_some hm
        refine pw_iald hx hb hw Tq17 hi18 dX12_findSales_143 ?_
        refine lv_iadd hx hb dX12_findSales_144 ?_
        obtain ⟨v19, ev19, hm⟩ := lt_some hm
        refine lv_nmI ev19 ?_
        refine lv_istore (lv' := [(7, .int v19), (10, .int v16), (0, .ref a0), (1, .int x1), (2, .int x2), (3, .int x3), (4, .int x4), (5, .int x5), (6, .int x6), (8, .int x8), (9, .int x9)]) hx hb dX12_findSales_145 hl (by decide) rfl (fun ls hl => ?_)
        refine lv_iload hx hb dX12_findSales_147 (lv_at hl 8 rfl) ?_
        refine lv_aload_n hx hb dX12_findSales_149 rfl (lv_at hl 2 rfl) ?_
        obtain ⟨q20, hq20, hm⟩ := bd_some hm
        have Tq20 : TY S q20 14 := hw.wf.ref (k := 12) (j := 15) Ta0 (by decide) (by decide) hq20
        refine pg_rb (k := 12) (j := 15) (f := 1215) hx hb hown hU iu12 hw Ta0 (by decide) rfl (hU _ tw1486) rfl hq20 dX12_findSales_150 ?_
        refine lv_iload hx hb dX12_findSales_153 (lv_at hl 1 rfl) ?_
        refine lv_iconst (v := 2) hx hb dX12_findSales_155 (by decide) ?_
        refine lv_iadd hx hb dX12_findSales_156 ?_
        obtain ⟨hi21, hm⟩ := ck_some hm
        refine pw_iald hx hb hw Tq20 hi21 dX12_findSales_157 ?_
        refine lv_iconst (v := 1) hx hb dX12_findSales_158 (by decide) ?_
        refine lv_icmp_ne (tgt := 174) hx hb dX12_findSales_159 (by decide) (fun h22 => ?_) (fun h22 => ?_)
        · rw [if_neg h22] at hm
          refine lv_iconst (v := 0) hx hb dX12_findSales_174 (by decide) ?_
          exact wb_X12_findSales_175 cx C X S0 n S1 _ hk8 _ hk50 _ ih a0 x1 x2 x3 x4 x5 v19 x8 x9 v16 x6 0 S _ _ _ hw hE Ta0 (lv_sub hl [2, 3, 4, 5, 6, 7, 0, 9, 10, 1] rfl) hm
        · rw [if_pos h22] at hm
          refine lv_aload_n hx hb dX12_findSales_162 rfl (lv_at hl 2 rfl) ?_
          obtain ⟨q23, hq23, hm⟩ := bd_some hm
          have Tq23 : TY S q23 14 := hw.wf.ref (k := 12) (j := 15) Ta0 (by decide) (by decide) hq23
          refine pg_rb (k := 12) (j := 15) (f := 1215) hx hb hown hU iu12 hw Ta0 (by decide) rfl (hU _ tw1486) rfl hq23 dX12_findSales_163 ?_
          refine lv_iload hx hb dX12_findSales_166 (lv_at hl 1 rfl) ?_
          refine lv_iconst (v := 1) hx hb dX12_findSales_168 (by decide) ?_
          refine lv_iadd hx hb dX12_findSales_169 ?_
          obtain ⟨hi24, hm⟩ := ck_some hm
          refine pw_iald hx hb hw Tq23 hi24 dX12_findSales_170 ?_
          refine lv_goto (tgt := 175) hx hb dX12_findSales_171 (by decide) ?_
          exact wb_X12_findSales_175 cx C X S0 n S1 _ hk8 _ hk50 _ ih a0 x1 x2 x3 x4 x5 v19 x8 x9 v16 x6 (pA S q23 (Int32.toNatClampNeg (v16 + (1 : Int32)))) S _ _ _ hw hE Ta0 (lv_sub hl [2, 3, 4, 5, 6, 7, 0, 9, 10, 1] rfl) hm
      · rw [if_pos h13] at hm
        refine lv_goto (tgt := 192) hx hb dX12_findSales_119 (by decide) ?_
        exact wb_X12_findSales_192 cx C X S0 n S1 _ hk8 _ hk50 _ ih a0 x1 x2 x3 x4 x5 x6 x7 x8 x9 S _ _ _ hw hE Ta0 (lv_sub hl [0, 1, 2, 3, 4, 5, 6, 7, 8, 9] rfl) hm
def b_X12_findSales_83 (n : Nat) (k8 : Nat → Int32 → pq_S → Option pq_S) : Nat → Nat → Int32 → Int32 → Int32 → Int32 → Int32 → pq_S → Option pq_S
  | 0, _, _, _, _, _, _, _ => none
  | f + 1, a0, x1, x2, x3, x4, x5, S => if ((1 : Int32) <<< (x2 &&& (31 : Int32))) ≤ x5 then b_X12_findSales_257 n k8 a0 x1 x2 x3 x4 S else b_X12_findSales_103 n k8 (b_X12_findSales_83 n k8 f) n a0 x1 x2 x3 x4 x5 0 0 0 0 S
set_option maxHeartbeats 4000000 in
set_option maxRecDepth 100000 in
theorem wb_X12_findSales_83 {p : Program} {l : Launch} {e : Env} {s : State} {m : MethodId} {args : Array Value} {below : List Frame} {meth : Method} {c : Code} (cx : Cx p s m args meth c cX12_findSales 11 RX12 none) (C : pq_C) (X : va_W) (S0 : pq_S) (n : Nat) (S1 : pq_S) (k8 : Nat → Int32 → pq_S → Option pq_S) (hk8 : ∀ (a0 : Nat) (x1 : Int32) (S : pq_S) (H : Heap) (locs : List Loc) (ls : Array Slot), PW C X S (pq_F C X S0 s.heap.size) H locs s → Ext S0 S → TY S a0 12 → lv_has ls 11 [(0, .ref a0), (1, .int x1)] → k8 a0 x1 S = some S1 → W p l e rm_X12_findSales s m args below meth c H locs 0 0 (MQ below (QcV C X S0 s.heap.size S1) args s 0 0 (pq_F C X S0 s.heap.size)) (F0 m 12 ls [])) : ∀ (f : Nat) (a0 : Nat) (x1 : Int32) (x2 : Int32) (x3 : Int32) (x4 : Int32) (x5 : Int32) (S : pq_S) (H : Heap) (locs : List Loc) (ls : Array Slot), PW C X S (pq_F C X S0 s.heap.size) H locs s → Ext S0 S → TY S a0 12 → lv_has ls 11 [(0, .ref a0), (1, .int x1), (2, .int x2), (3, .int x3), (4, .int x4), (5, .int x5)] → b_X12_findSales_83 n k8 f a0 x1 x2 x3 x4 x5 S = some S1 → W p l e rm_X12_findSales s m args below meth c H locs 0 0 (MQ below (QcV C X S0 s.heap.size S1) args s 0 0 (pq_F C X S0 s.heap.size)) (F0 m 83 ls []) := by
  obtain ⟨hx, hb, hml, hown, hU, hr, hlk⟩ := id cx
  intro f
  induction f with
  | zero =>
    intro a0 x1 x2 x3 x4 x5 S H locs ls hw hE Ta0 hl hm
    cases hm
  | succ f ih =>
    intro a0 x1 x2 x3 x4 x5 S H locs ls hw hE Ta0 hl hm
    rw [b_X12_findSales_83] at hm
    refine lv_iload hx hb dX12_findSales_83 (lv_at hl 5 rfl) ?_
    refine lv_iconst (v := 1) hx hb dX12_findSales_85 (by decide) ?_
    refine lv_iload_n hx hb dX12_findSales_86 rfl (lv_at hl 2 rfl) ?_
    refine lv_ishl hx hb dX12_findSales_87 ?_
    refine lv_icmp_ge (tgt := 257) hx hb dX12_findSales_88 (by decide) (fun h11 => ?_) (fun h11 => ?_)
    · rw [if_pos h11] at hm
      exact wb_X12_findSales_257 cx C X S0 n S1 _ hk8 a0 x1 x2 x3 x4 S _ _ _ hw hE Ta0 (lv_sub hl [0, 1, 2, 3, 4] rfl) hm
    · rw [if_neg h11] at hm
      refine lv_iconst (v := 0) hx hb dX12_findSales_91 (by decide) ?_
      refine lv_istore (lv' := [(6, .int 0), (0, .ref a0), (1, .int x1), (2, .int x2), (3, .int x3), (4, .int x4), (5, .int x5)]) hx hb dX12_findSales_92 hl (by decide) rfl (fun ls hl => ?_)
      refine lv_iconst (v := 0) hx hb dX12_findSales_94 (by decide) ?_
      refine lv_istore (lv' := [(7, .int 0), (6, .int 0), (0, .ref a0), (1, .int x1), (2, .int x2), (3, .int x3), (4, .int x4), (5, .int x5)]) hx hb dX12_findSales_95 hl (by decide) rfl (fun ls hl => ?_)
      refine lv_iconst (v := 0) hx hb dX12_findSales_97 (by decide) ?_
      refine lv_istore (lv' := [(8, .int 0), (7, .int 0), (6, .int 0), (0, .ref a0), (1, .int x1), (2, .int x2), (3, .int x3), (4, .int x4), (5, .int x5)]) hx hb dX12_findSales_98 hl (by decide) rfl (fun ls hl => ?_)
      refine lv_iconst (v := 0) hx hb dX12_findSales_100 (by decide) ?_
      refine lv_istore (lv' := [(9, .int 0), (8, .int 0), (7, .int 0), (6, .int 0), (0, .ref a0), (1, .int x1), (2, .int x2), (3, .int x3), (4, .int x4), (5, .int x5)]) hx hb dX12_findSales_101 hl (by decide) rfl (fun ls hl => ?_)
      exact wb_X12_findSales_103 cx C X S0 n S1 _ hk8 _ ih n a0 x1 x2 x3 x4 x5 0 0 0 0 S _ _ _ hw hE Ta0 (lv_sub hl [4, 5, 6, 7, 8, 9, 3, 2, 1, 0] rfl) hm
def b_X12_findSales_75 (n : Nat) (k8 : Nat → Int32 → pq_S → Option pq_S) (a0 : Nat) (x1 : Int32) (x2 : Int32) (S : pq_S) : Option pq_S := b_X12_findSales_83 n k8 n a0 x1 x2 0 0 1 S
set_option maxHeartbeats 4000000 in
set_option maxRecDepth 100000 in
theorem wb_X12_findSales_75 {p : Program} {l : Launch} {e : Env} {s : State} {m : MethodId} {args : Array Value} {below : List Frame} {meth : Method} {c : Code} (cx : Cx p s m args meth c cX12_findSales 11 RX12 none) (C : pq_C) (X : va_W) (S0 : pq_S) (n : Nat) (S1 : pq_S) (k8 : Nat → Int32 → pq_S → Option pq_S) (hk8 : ∀ (a0 : Nat) (x1 : Int32) (S : pq_S) (H : Heap) (locs : List Loc) (ls : Array Slot), PW C X S (pq_F C X S0 s.heap.size) H locs s → Ext S0 S → TY S a0 12 → lv_has ls 11 [(0, .ref a0), (1, .int x1)] → k8 a0 x1 S = some S1 → W p l e rm_X12_findSales s m args below meth c H locs 0 0 (MQ below (QcV C X S0 s.heap.size S1) args s 0 0 (pq_F C X S0 s.heap.size)) (F0 m 12 ls [])) : ∀ (a0 : Nat) (x1 : Int32) (x2 : Int32) (S : pq_S) (H : Heap) (locs : List Loc) (ls : Array Slot), PW C X S (pq_F C X S0 s.heap.size) H locs s → Ext S0 S → TY S a0 12 → lv_has ls 11 [(0, .ref a0), (1, .int x1), (2, .int x2)] → b_X12_findSales_75 n k8 a0 x1 x2 S = some S1 → W p l e rm_X12_findSales s m args below meth c H locs 0 0 (MQ below (QcV C X S0 s.heap.size S1) args s 0 0 (pq_F C X S0 s.heap.size)) (F0 m 75 ls []) := by
  obtain ⟨hx, hb, hml, hown, hU, hr, hlk⟩ := id cx
  intro a0 x1 x2 S H locs ls hw hE Ta0 hl hm
  rw [b_X12_findSales_75] at hm
  refine lv_iconst (v := 0) hx hb dX12_findSales_75 (by decide) ?_
  refine lv_istore_n (lv' := [(3, .int 0), (0, .ref a0), (1, .int x1), (2, .int x2)]) hx hb dX12_findSales_76 rfl hl (by decide) rfl (fun ls hl => ?_)
  refine lv_iconst (v := 0) hx hb dX12_findSales_77 (by decide) ?_
  refine lv_istore (lv' := [(4, .int 0), (3, .int 0), (0, .ref a0), (1, .int x1), (2, .int x2)]) hx hb dX12_findSales_78 hl (by decide) rfl (fun ls hl => ?_)
  refine lv_iconst (v := 1) hx hb dX12_findSales_80 (by decide) ?_
  refine lv_istore (lv' := [(5, .int 1), (4, .int 0), (3, .int 0), (0, .ref a0), (1, .int x1), (2, .int x2)]) hx hb dX12_findSales_81 hl (by decide) rfl (fun ls hl => ?_)
  exact wb_X12_findSales_83 cx C X S0 n S1 _ hk8 n a0 x1 x2 0 0 1 S _ _ _ hw hE Ta0 (lv_sub hl [3, 4, 5, 2, 1, 0] rfl) hm
def b_X12_findSales_24 (n : Nat) (k8 : Nat → Int32 → pq_S → Option pq_S) : Nat → Nat → Int32 → Int32 → Int32 → pq_S → Option pq_S
  | 0, _, _, _, _, _ => none
  | f + 1, a0, x1, x2, x3, S => if (pI S 1225 a0) ≤ x3 then b_X12_findSales_75 n k8 a0 x1 x2 S else Option.bind (pR S 1247 a0) fun q3 => ck (ix ((18 : Int32) + x3) (pN S q3)) (dix _ _) (if (pA S q3 (Int32.toNatClampNeg ((18 : Int32) + x3))) = 0 then b_X12_findSales_69 n k8 (b_X12_findSales_24 n k8 f) a0 x1 x2 x3 S else Option.bind (pR S 1215 a0) fun q6 => ck (ix ((4 : Int32) * x3) (pN S q6)) (dix _ _) (if (pA S q6 (Int32.toNatClampNeg ((4 : Int32) * x3))) = x1 then Option.bind (pR S 1252 a0) fun q9 => ck (ix x2 (pN S q9)) (dix _ _) (b_X12_findSales_69 n k8 (b_X12_findSales_24 n k8 f) a0 x1 (x2 + 1) x3 (sA S q9 (Int32.toNatClampNeg x2) x3)) else b_X12_findSales_69 n k8 (b_X12_findSales_24 n k8 f) a0 x1 x2 x3 S))
set_option maxHeartbeats 4000000 in
set_option maxRecDepth 100000 in
theorem wb_X12_findSales_24 {p : Program} {l : Launch} {e : Env} {s : State} {m : MethodId} {args : Array Value} {below : List Frame} {meth : Method} {c : Code} (cx : Cx p s m args meth c cX12_findSales 11 RX12 none) (C : pq_C) (X : va_W) (S0 : pq_S) (n : Nat) (S1 : pq_S) (k8 : Nat → Int32 → pq_S → Option pq_S) (hk8 : ∀ (a0 : Nat) (x1 : Int32) (S : pq_S) (H : Heap) (locs : List Loc) (ls : Array Slot), PW C X S (pq_F C X S0 s.heap.size) H locs s → Ext S0 S → TY S a0 12 → lv_has ls 11 [(0, .ref a0), (1, .int x1)] → k8 a0 x1 S = some S1 → W p l e rm_X12_findSales s m args below meth c H locs 0 0 (MQ below (QcV C X S0 s.heap.size S1) args s 0 0 (pq_F C X S0 s.heap.size)) (F0 m 12 ls [])) : ∀ (f : Nat) (a0 : Nat) (x1 : Int32) (x2 : Int32) (x3 : Int32) (S : pq_S) (H : Heap) (locs : List Loc) (ls : Array Slot), PW C X S (pq_F C X S0 s.heap.size) H locs s → Ext S0 S → TY S a0 12 → lv_has ls 11 [(0, .ref a0), (1, .int x1), (2, .int x2), (3, .int x3)] → b_X12_findSales_24 n k8 f a0 x1 x2 x3 S = some S1 → W p l e rm_X12_findSales s m args below meth c H locs 0 0 (MQ below (QcV C X S0 s.heap.size S1) args s 0 0 (pq_F C X S0 s.heap.size)) (F0 m 24 ls []) := by
  obtain ⟨hx, hb, hml, hown, hU, hr, hlk⟩ := id cx
  intro f
  induction f with
  | zero =>
    intro a0 x1 x2 x3 S H locs ls hw hE Ta0 hl hm
    cases hm
  | succ f ih =>
    intro a0 x1 x2 x3 S H locs ls hw hE Ta0 hl hm
    rw [b_X12_findSales_24] at hm
    refine lv_iload_n hx hb dX12_findSales_24 rfl (lv_at hl 3 rfl) ?_
    refine lv_aload_n hx hb dX12_findSales_25 rfl (lv_at hl 0 rfl) ?_
    refine pg_i (k := 12) (j := 25) (f := 1225) hx hb hown hU iu12 hw Ta0 (by decide) rfl (hU _ tw1496) rfl dX12_findSales_26 ?_
    refine lv_icmp_ge (tgt := 75) hx hb dX12_findSales_29 (by decide) (fun h2 => ?_) (fun h2 => ?_)
    · rw [if_pos h2] at hm
      exact wb_X12_findSales_75 cx C X S0 n S1 _ hk8 a0 x1 x2 S _ _ _ hw hE Ta0 (lv_sub hl [0, 1, 2] rfl) hm
    · rw [if_neg h2] at hm
      refine lv_aload_n hx hb dX12_findSales_32 rfl (lv_at hl 0 rfl) ?_
      obtain ⟨q3, hq3, hm⟩ := bd_some hm
      have Tq3 : TY S q3 14 := hw.wf.ref (k := 12) (j := 47) Ta0 (by decide) (by decide) hq3
      refine pg_rb (k := 12) (j := 47) (f := 1247) hx hb hown hU iu12 hw Ta0 (by decide) rfl (hU _ tw1518) rfl hq3 dX12_findSales_33 ?_
      refine lv_bipush (v := 18) hx hb dX12_findSales_36 (by decide) ?_
      refine lv_iload_n hx hb dX12_findSales_38 rfl (lv_at hl 3 rfl) ?_
      refine lv_iadd hx hb dX12_findSales_39 ?_
      obtain ⟨hi4, hm⟩ := ck_some hm
      refine pw_iald hx hb hw Tq3 hi4 dX12_findSales_40 ?_
      refine lv_if_eq (tgt := 69) hx hb dX12_findSales_41 (by decide) (fun h5 => ?_) (fun h5 => ?_)
      · rw [if_pos h5] at hm
        exact wb_X12_findSales_69 cx C X S0 n S1 _ hk8 _ ih a0 x1 x2 x3 S _ _ _ hw hE Ta0 (lv_sub hl [0, 1, 2, 3] rfl) hm
      · rw [if_neg h5] at hm
        refine lv_aload_n hx hb dX12_findSales_44 rfl (lv_at hl 0 rfl) ?_
        obtain ⟨q6, hq6, hm⟩ := bd_some hm
        have Tq6 : TY S q6 14 := hw.wf.ref (k := 12) (j := 15) Ta0 (by decide) (by decide) hq6
        refine pg_rb (k := 12) (j := 15) (f := 1215) hx hb hown hU iu12 hw Ta0 (by decide) rfl (hU _ tw1486) rfl hq6 dX12_findSales_45 ?_
        refine lv_iconst (v := 4) hx hb dX12_findSales_48 (by decide) ?_
        refine lv_iload_n hx hb dX12_findSales_49 rfl (lv_at hl 3 rfl) ?_
        refine lv_imul hx hb dX12_findSales_50 ?_
        obtain ⟨hi7, hm⟩ := ck_some hm
        refine pw_iald hx hb hw Tq6 hi7 dX12_findSales_51 ?_
        refine lv_iload_n hx hb dX12_findSales_52 rfl (lv_at hl 1 rfl) ?_
        refine lv_icmp_eq (tgt := 59) hx hb dX12_findSales_53 (by decide) (fun h8 => ?_) (fun h8 => ?_)
        · rw [if_pos h8] at hm
          refine lv_aload_n hx hb dX12_findSales_59 rfl (lv_at hl 0 rfl) ?_
          obtain ⟨q9, hq9, hm⟩ := bd_some hm
          have Tq9 : TY S q9 14 := hw.wf.ref (k := 12) (j := 52) Ta0 (by decide) (by decide) hq9
          refine pg_rb (k := 12) (j := 52) (f := 1252) hx hb hown hU iu12 hw Ta0 (by decide) rfl (hU _ tw1523) rfl hq9 dX12_findSales_60 ?_
          refine lv_iload_n hx hb dX12_findSales_63 rfl (lv_at hl 2 rfl) ?_
          refine lv_iload_n hx hb dX12_findSales_64 rfl (lv_at hl 3 rfl) ?_
          obtain ⟨hi10, hm⟩ := ck_some hm
          refine pw_iast hx hb hw Tq9 hi10 dX12_findSales_65 (fun H locs hw => ?_)
          refine lv_iinc (v := (x2 + 1)) (lv' := [(2, .int (x2 + 1)), (0, .ref a0), (1, .int x1), (3, .int x3)]) hx hb dX12_findSales_66 hl (k := 2) rfl rfl (by decide) rfl (fun ls hl => ?_)
          exact wb_X12_findSales_69 cx C X S0 n S1 _ hk8 _ ih a0 x1 (x2 + 1) x3 (sA S q9 (Int32.toNatClampNeg x2) x3) _ _ _ hw hE Ta0 (lv_sub hl [1, 2, 0, 3] rfl) hm
        · rw [if_neg h8] at hm
          refine lv_goto (tgt := 69) hx hb dX12_findSales_56 (by decide) ?_
          exact wb_X12_findSales_69 cx C X S0 n S1 _ hk8 _ ih a0 x1 x2 x3 S _ _ _ hw hE Ta0 (lv_sub hl [0, 1, 2, 3] rfl) hm
def b_X12_findSales_12 (n : Nat) : Nat → Nat → Int32 → pq_S → Option pq_S
  | 0, _, _, _ => none
  | f + 1, a0, x1, S => if (pI S 1224 a0) ≤ x1 then some S else b_X12_findSales_24 n (b_X12_findSales_12 n f) n a0 x1 0 0 S
set_option maxHeartbeats 4000000 in
set_option maxRecDepth 100000 in
theorem wb_X12_findSales_12 {p : Program} {l : Launch} {e : Env} {s : State} {m : MethodId} {args : Array Value} {below : List Frame} {meth : Method} {c : Code} (cx : Cx p s m args meth c cX12_findSales 11 RX12 none) (C : pq_C) (X : va_W) (S0 : pq_S) (n : Nat) (S1 : pq_S) : ∀ (f : Nat) (a0 : Nat) (x1 : Int32) (S : pq_S) (H : Heap) (locs : List Loc) (ls : Array Slot), PW C X S (pq_F C X S0 s.heap.size) H locs s → Ext S0 S → TY S a0 12 → lv_has ls 11 [(0, .ref a0), (1, .int x1)] → b_X12_findSales_12 n f a0 x1 S = some S1 → W p l e rm_X12_findSales s m args below meth c H locs 0 0 (MQ below (QcV C X S0 s.heap.size S1) args s 0 0 (pq_F C X S0 s.heap.size)) (F0 m 12 ls []) := by
  obtain ⟨hx, hb, hml, hown, hU, hr, hlk⟩ := id cx
  intro f
  induction f with
  | zero =>
    intro a0 x1 S H locs ls hw hE Ta0 hl hm
    cases hm
  | succ f ih =>
    intro a0 x1 S H locs ls hw hE Ta0 hl hm
    rw [b_X12_findSales_12] at hm
    refine lv_iload_n hx hb dX12_findSales_12 rfl (lv_at hl 1 rfl) ?_
    refine lv_aload_n hx hb dX12_findSales_13 rfl (lv_at hl 0 rfl) ?_
    refine pg_i (k := 12) (j := 24) (f := 1224) hx hb hown hU iu12 hw Ta0 (by decide) rfl (hU _ tw1495) rfl dX12_findSales_14 ?_
    refine lv_icmp_ge (tgt := 312) hx hb dX12_findSales_17 (by decide) (fun h1 => ?_) (fun h1 => ?_)
    · rw [if_pos h1] at hm
      cases hm
      exact pw_vret hx hb hr hlk hw hE dX12_findSales_312
    · rw [if_neg h1] at hm
      refine lv_iconst (v := 0) hx hb dX12_findSales_20 (by decide) ?_
      refine lv_istore_n (lv' := [(2, .int 0), (0, .ref a0), (1, .int x1)]) hx hb dX12_findSales_21 rfl hl (by decide) rfl (fun ls hl => ?_)
      refine lv_iconst (v := 0) hx hb dX12_findSales_22 (by decide) ?_
      refine lv_istore_n (lv' := [(3, .int 0), (2, .int 0), (0, .ref a0), (1, .int x1)]) hx hb dX12_findSales_23 rfl hl (by decide) rfl (fun ls hl => ?_)
      exact wb_X12_findSales_24 cx C X S0 n S1 _ ih n a0 x1 0 0 S _ _ _ hw hE Ta0 (lv_sub hl [2, 3, 1, 0] rfl) hm
def m_X12_findSales (n : Nat) (a0 : Nat) (S0 : pq_S) : Option pq_S := b_X12_findSales_12 n n a0 0 (sI (sI S0 1253 a0 0) 1254 a0 0)
theorem tc_X12_findSales : Cond.code yX12_findSales cX12_findSales 11 none ∈ pq_U := tw1965
theorem cd_X12_findSales : yX12_findSales.cls = RX12 ∧ yX12_findSales.cls ≠ "java/lang/invoke/MethodHandle" ∧ yX12_findSales.cls ≠ "java/lang/invoke/VarHandle" ∧ (parseMethodDescriptor yX12_findSales.desc).map (fun d => d.parameters.length) = some 0 := by decide +kernel
set_option maxHeartbeats 4000000 in
set_option maxRecDepth 100000 in
theorem c_X12_findSales (l : Launch) (C : pq_C) (X : va_W) (n : Nat) (S0 : pq_S) (hF : WF S0) (sz : Nat) (a0 : Nat) (Ta0 : TY S0 a0 12) (S1 : pq_S) (hm : m_X12_findSales n a0 S0 = some S1) : MV l yX12_findSales (.code yX12_findSales cX12_findSales 11 none :: pq_U) rm_X12_findSales C X S0 sz [.ref a0] S1 0 0 := by
  refine Met.ofW (cc := cX12_findSales) (maxL := 11) (ret := none) (by decide) rfl ?_
  intro p e s m args below meth c s₁ B hml hv
  obtain ⟨rfl, hv⟩ := hv
  have hsz := hv.1
  subst hsz
  have hw := pw_entry hF hv
  have hts := atoms_spec (ws := .code yX12_findSales cX12_findSales 11 none :: pq_U) B.pre
  have hU : ∀ w ∈ pq_U, w.before _ s = true := fun w h => hts w (List.mem_cons_of_mem _ h)
  have hx := B.exec
  have hb := B.bytes
  have hr := B.returns
  have hown : s.vm.findClass RX12 = some m.cls := findClass_of_methodNamed B.named
  have hlk := B.notSynchronized
  have hl := lv_entry ([.ref a0]) (n := 11) (Nat.le_of_ble_eq_true rfl)
  rw [lg_entry_eq]
  generalize (lg_sl ([.ref a0]) ++ List.replicate (11 - (lg_sl ([.ref a0])).length) Slot.unset).toArray = ls at hl ⊢
  have hl : lv_has ls 11 [(0, .ref a0)] := hl
  have hE : Ext S0 S0 := Ext.rf _
  have cx : Cx p s m _ meth c cX12_findSales 11 RX12 none := ⟨hx, hb, hml, hown, hU, hr, hlk⟩
  rw [m_X12_findSales] at hm
  refine lv_aload_n hx hb dX12_findSales_0 rfl (lv_at hl 0 rfl) ?_
  refine lv_iconst (v := 0) hx hb dX12_findSales_1 (by decide) ?_
  refine pp_i (k := 12) (j := 53) (f := 1253) hx hb hown hU iu12 tyX12_ok nmX12 hw Ta0 (by decide) rfl (hU _ tw1524) rfl rfl rfl dX12_findSales_2 (fun H locs hw => ?_)
  refine lv_aload_n hx hb dX12_findSales_5 rfl (lv_at hl 0 rfl) ?_
  refine lv_iconst (v := 0) hx hb dX12_findSales_6 (by decide) ?_
  refine pp_i (k := 12) (j := 54) (f := 1254) hx hb hown hU iu12 tyX12_ok nmX12 hw Ta0 (by decide) rfl (hU _ tw1525) rfl rfl rfl dX12_findSales_7 (fun H locs hw => ?_)
  refine lv_iconst (v := 0) hx hb dX12_findSales_10 (by decide) ?_
  refine lv_istore_n (lv' := [(1, .int 0), (0, .ref a0)]) hx hb dX12_findSales_11 rfl hl (by decide) rfl (fun ls hl => ?_)
  exact wb_X12_findSales_12 cx C X S0 n S1 n a0 0 (sI (sI S0 1253 a0 0) 1254 a0 0) _ _ _ hw hE Ta0 (lv_sub hl [1, 0] rfl) hm
abbrev rm_X12_sales : Room := { frames := 2, cells := 0, slots := 0, locals := 44 }
def m_X12_sales (n : Nat) (a0 : Nat) (x1 : Int32) (S0 : pq_S) : Option (Int32 × pq_S) := cb (m_X12_within n x1 0 1 (sI S0 1200 a0 0)) fun r3 S_1 => cb (m_X12_may n a0 r3 1 1 S_1) fun r8 S_6 => if r8 = 0 then some (0, S_6) else Option.bind (m_X12_take n a0 S_6) fun S_12 => Option.bind (m_X12_findSales n a0 S_12) fun S_15 => if x1 = 0 then some ((pI S_15 1253 a0), S_15) else some ((pI S_15 1254 a0), S_15)
theorem tc_X12_sales : Cond.code yX12_sales cX12_sales 2 (some .int) ∈ pq_U := tw1961
theorem cd_X12_sales : yX12_sales.cls = RX12 ∧ yX12_sales.cls ≠ "java/lang/invoke/MethodHandle" ∧ yX12_sales.cls ≠ "java/lang/invoke/VarHandle" ∧ (parseMethodDescriptor yX12_sales.desc).map (fun d => d.parameters.length) = some 1 := by decide +kernel
set_option maxHeartbeats 4000000 in
set_option maxRecDepth 100000 in
theorem c_X12_sales (l : Launch) (C : pq_C) (X : va_W) (n : Nat) (S0 : pq_S) (hF : WF S0) (sz : Nat) (a0 : Nat) (x1 : Int32) (Ta0 : TY S0 a0 12) (r : Int32) (S1 : pq_S) (hm : m_X12_sales n a0 x1 S0 = some (r, S1)) : MI l yX12_sales (.code yX12_sales cX12_sales 2 (some .int) :: pq_U) rm_X12_sales C X S0 sz [.ref a0, .int x1] r S1 0 0 := by
  refine Met.ofW (cc := cX12_sales) (maxL := 2) (ret := (some .int)) (by decide) rfl ?_
  intro p e s m args below meth c s₁ B hml hv
  obtain ⟨rfl, hv⟩ := hv
  have hsz := hv.1
  subst hsz
  have hw := pw_entry hF hv
  have hts := atoms_spec (ws := .code yX12_sales cX12_sales 2 (some .int) :: pq_U) B.pre
  have hU : ∀ w ∈ pq_U, w.before _ s = true := fun w h => hts w (List.mem_cons_of_mem _ h)
  have hx := B.exec
  have hb := B.bytes
  have hr := B.returns
  have hown : s.vm.findClass RX12 = some m.cls := findClass_of_methodNamed B.named
  have hlk := B.notSynchronized
  have hl := lv_entry ([.ref a0, .int x1]) (n := 2) (Nat.le_of_ble_eq_true rfl)
  rw [lg_entry_eq]
  generalize (lg_sl ([.ref a0, .int x1]) ++ List.replicate (2 - (lg_sl ([.ref a0, .int x1])).length) Slot.unset).toArray = ls at hl ⊢
  have hl : lv_has ls 2 [(0, .ref a0), (1, .int x1)] := hl
  have hE : Ext S0 S0 := Ext.rf _
  have cx : Cx p s m _ meth c cX12_sales 2 RX12 (some .int) := ⟨hx, hb, hml, hown, hU, hr, hlk⟩
  rw [m_X12_sales] at hm
  refine lv_aload_n hx hb dX12_sales_0 rfl (lv_at hl 0 rfl) ?_
  refine lv_iconst (v := 0) hx hb dX12_sales_1 (by decide) ?_
  refine pp_i (k := 12) (j := 0) (f := 1200) hx hb hown hU iu12 tyX12_ok nmX12 hw Ta0 (by decide) rfl (hU _ tw1471) rfl rfl rfl dX12_sales_2 (fun H locs hw => ?_)
  refine lv_aload_n hx hb dX12_sales_5 rfl (lv_at hl 0 rfl) ?_
  refine lv_iload_n hx hb dX12_sales_6 rfl (lv_at hl 1 rfl) ?_
  refine lv_iconst (v := 0) hx hb dX12_sales_7 (by decide) ?_
  refine lv_iconst (v := 1) hx hb dX12_sales_8 (by decide) ?_
  obtain ⟨r3, S_1, hq2, hm⟩ := cb_some hm
  refine pw_cz (va_runS (As := [.int x1, .int 0, .int 1]) (rest := [.ref a0]) ⟨hx, hb, hml, hown, hU⟩ (c_X12_within l C X n (sI S0 1200 a0 0) hw.wf _ x1 0 1  r3 S_1 hq2) ⟨callB_of 3 hU (pq_g1 tc_X12_within) rfl rfl rfl (hU _ tw14) (hU _ tw1776) cd_X12_within.2 ⟨Nat.le_of_ble_eq_true rfl, Nat.le_of_ble_eq_true rfl⟩, hU _ tw1777⟩ (pw_preS hw) rfl rfl hl.1 rfl (lv_room (Nat.le_of_ble_eq_true rfl)) dX12_sales_9 ⟨Nat.zero_le _, Nat.zero_le _⟩) hw (fun H locs hw hx4 hz5 => ?_)
  have Ta0 : TY S_1 a0 12 := ty_ext hx4 Ta0
  have hE : Ext S0 S_1 := Ext.tr hE hx4
  refine lv_iconst (v := 1) hx hb dX12_sales_12 (by decide) ?_
  refine lv_iconst (v := 1) hx hb dX12_sales_13 (by decide) ?_
  obtain ⟨r8, S_6, hq7, hm⟩ := cb_some hm
  refine pw_cz (va_runV (As := [.int r3, .int 1, .int 1]) (rest := []) ⟨hx, hb, hml, hown, hU⟩ (c_X12_may l C X n S_1 hw.wf _ a0 r3 1 1 (Ta0) r8 S_6 hq7) (cwV 3 hU (pq_gV tw1703 tw1705 ts123 tw14 tc_X12_may) rfl rfl rfl cd_X12_may ⟨Nat.le_of_ble_eq_true rfl, Nat.le_of_ble_eq_true rfl⟩) (pw_preV hw Ta0 (by decide) rfl) rfl rfl hl.1 rfl (lv_room (Nat.le_of_ble_eq_true rfl)) dX12_sales_14 ⟨Nat.zero_le _, Nat.zero_le _⟩) hw (fun H locs hw hx9 hz10 => ?_)
  have Ta0 : TY S_6 a0 12 := ty_ext hx9 Ta0
  have hE : Ext S0 S_6 := Ext.tr hE hx9
  refine lv_if_ne (tgt := 22) hx hb dX12_sales_17 (by decide) (fun h11 => ?_) (fun h11 => ?_)
  · rw [if_neg h11] at hm
    refine lv_aload_n hx hb dX12_sales_22 rfl (lv_at hl 0 rfl) ?_
    obtain ⟨S_12, hq13, hm⟩ := bd_some hm
    refine pw_cv (va_runV (As := []) (rest := []) ⟨hx, hb, hml, hown, hU⟩ (c_X12_take l C X n S_6 hw.wf _ a0 (Ta0) S_12 hq13) (cwV 0 hU (pq_gV tw1922 tw1924 ts161 tw14 tc_X12_take) rfl rfl rfl cd_X12_take ⟨Nat.le_of_ble_eq_true rfl, Nat.le_of_ble_eq_true rfl⟩) (pw_preV hw Ta0 (by decide) rfl) rfl rfl hl.1 rfl (lv_room (Nat.le_of_ble_eq_true rfl)) dX12_sales_23 ⟨Nat.zero_le _, Nat.zero_le _⟩) hw (fun H locs hw hx14 => ?_)
    have Ta0 : TY S_12 a0 12 := ty_ext hx14 Ta0
    have hE : Ext S0 S_12 := Ext.tr hE hx14
    refine lv_aload_n hx hb dX12_sales_26 rfl (lv_at hl 0 rfl) ?_
    obtain ⟨S_15, hq16, hm⟩ := bd_some hm
    refine pw_cv (va_runV (As := []) (rest := []) ⟨hx, hb, hml, hown, hU⟩ (c_X12_findSales l C X n S_12 hw.wf _ a0 (Ta0) S_15 hq16) (cwV 0 hU (pq_gV tw1962 tw1964 ts165 tw14 tc_X12_findSales) rfl rfl rfl cd_X12_findSales ⟨Nat.le_of_ble_eq_true rfl, Nat.le_of_ble_eq_true rfl⟩) (pw_preV hw Ta0 (by decide) rfl) rfl rfl hl.1 rfl (lv_room (Nat.le_of_ble_eq_true rfl)) dX12_sales_27 ⟨Nat.zero_le _, Nat.zero_le _⟩) hw (fun H locs hw hx17 => ?_)
    have Ta0 : TY S_15 a0 12 := ty_ext hx17 Ta0
    have hE : Ext S0 S_15 := Ext.tr hE hx17
    refine lv_iload_n hx hb dX12_sales_30 rfl (lv_at hl 1 rfl) ?_
    refine lv_if_ne (tgt := 41) hx hb dX12_sales_31 (by decide) (fun h18 => ?_) (fun h18 => ?_)
    · rw [if_neg h18] at hm
      refine lv_aload_n hx hb dX12_sales_41 rfl (lv_at hl 0 rfl) ?_
      refine pg_i (k := 12) (j := 54) (f := 1254) hx hb hown hU iu12 hw Ta0 (by decide) rfl (hU _ tw1525) rfl dX12_sales_42 ?_
      cases hm
      exact pw_iret hx hb hr rfl hlk hw hE dX12_sales_45
    · rw [if_pos h18] at hm
      refine lv_aload_n hx hb dX12_sales_34 rfl (lv_at hl 0 rfl) ?_
      refine pg_i (k := 12) (j := 53) (f := 1253) hx hb hown hU iu12 hw Ta0 (by decide) rfl (hU _ tw1524) rfl dX12_sales_35 ?_
      refine lv_goto (tgt := 45) hx hb dX12_sales_38 (by decide) ?_
      cases hm
      exact pw_iret hx hb hr rfl hlk hw hE dX12_sales_45
  · rw [if_pos h11] at hm
    refine lv_iconst (v := 0) hx hb dX12_sales_20 (by decide) ?_
    cases hm
    exact pw_iret hx hb hr rfl hlk hw hE dX12_sales_21
abbrev rm_X12_more : Room := { frames := 2, cells := 0, slots := 0, locals := 45 }
def m_X12_more (n : Nat) (a0 : Nat) (x1 : Int32) (x2 : Int32) (S0 : pq_S) : Option (Int32 × pq_S) := cb (m_X12_isPlace n a0 x1 1 (sI S0 1200 a0 0)) fun r3 S_1 => if r3 = 0 then some (0, S_1) else cb (m_X12_within n x2 0 99 S_1) fun r9 S_7 => cb (m_X12_may n a0 r9 2 1 S_7) fun r14 S_12 => if r14 = 0 then some (0, S_12) else Option.bind (m_X12_take n a0 S_12) fun S_18 => Option.bind (m_X12_adds n a0 ((0 : Int32) + x1) x2 S_18) fun S_21 => Option.bind (m_X12_findSales n a0 S_21) fun S_24 => some ((pI S_24 1253 a0), S_24)
theorem tc_X12_more : Cond.code yX12_more cX12_more 3 (some .int) ∈ pq_U := tw1969
theorem cd_X12_more : yX12_more.cls = RX12 ∧ yX12_more.cls ≠ "java/lang/invoke/MethodHandle" ∧ yX12_more.cls ≠ "java/lang/invoke/VarHandle" ∧ (parseMethodDescriptor yX12_more.desc).map (fun d => d.parameters.length) = some 2 := by decide +kernel
set_option maxHeartbeats 4000000 in
set_option maxRecDepth 100000 in
theorem c_X12_more (l : Launch) (C : pq_C) (X : va_W) (n : Nat) (S0 : pq_S) (hF : WF S0) (sz : Nat) (a0 : Nat) (x1 : Int32) (x2 : Int32) (Ta0 : TY S0 a0 12) (r : Int32) (S1 : pq_S) (hm : m_X12_more n a0 x1 x2 S0 = some (r, S1)) : MI l yX12_more (.code yX12_more cX12_more 3 (some .int) :: pq_U) rm_X12_more C X S0 sz [.ref a0, .int x1, .int x2] r S1 0 0 := by
  refine Met.ofW (cc := cX12_more) (maxL := 3) (ret := (some .int)) (by decide) rfl ?_
  intro p e s m args below meth c s₁ B hml hv
  obtain ⟨rfl, hv⟩ := hv
  have hsz := hv.1
  subst hsz
  have hw := pw_entry hF hv
  have hts := atoms_spec (ws := .code yX12_more cX12_more 3 (some .int) :: pq_U) B.pre
  have hU : ∀ w ∈ pq_U, w.before _ s = true := fun w h => hts w (List.mem_cons_of_mem _ h)
  have hx := B.exec
  have hb := B.bytes
  have hr := B.returns
  have hown : s.vm.findClass RX12 = some m.cls := findClass_of_methodNamed B.named
  have hlk := B.notSynchronized
  have hl := lv_entry ([.ref a0, .int x1, .int x2]) (n := 3) (Nat.le_of_ble_eq_true rfl)
  rw [lg_entry_eq]
  generalize (lg_sl ([.ref a0, .int x1, .int x2]) ++ List.replicate (3 - (lg_sl ([.ref a0, .int x1, .int x2])).length) Slot.unset).toArray = ls at hl ⊢
  have hl : lv_has ls 3 [(0, .ref a0), (1, .int x1), (2, .int x2)] := hl
  have hE : Ext S0 S0 := Ext.rf _
  have cx : Cx p s m _ meth c cX12_more 3 RX12 (some .int) := ⟨hx, hb, hml, hown, hU, hr, hlk⟩
  rw [m_X12_more] at hm
  refine lv_aload_n hx hb dX12_more_0 rfl (lv_at hl 0 rfl) ?_
  refine lv_iconst (v := 0) hx hb dX12_more_1 (by decide) ?_
  refine pp_i (k := 12) (j := 0) (f := 1200) hx hb hown hU iu12 tyX12_ok nmX12 hw Ta0 (by decide) rfl (hU _ tw1471) rfl rfl rfl dX12_more_2 (fun H locs hw => ?_)
  refine lv_aload_n hx hb dX12_more_5 rfl (lv_at hl 0 rfl) ?_
  refine lv_iload_n hx hb dX12_more_6 rfl (lv_at hl 1 rfl) ?_
  refine lv_iconst (v := 1) hx hb dX12_more_7 (by decide) ?_
  obtain ⟨r3, S_1, hq2, hm⟩ := cb_some hm
  refine pw_cz (va_runV (As := [.int x1, .int 1]) (rest := []) ⟨hx, hb, hml, hown, hU⟩ (c_X12_isPlace l C X n (sI S0 1200 a0 0) hw.wf _ a0 x1 1 (Ta0) r3 S_1 hq2) (cwV 2 hU (pq_gV tw1918 tw1920 ts160 tw14 tc_X12_isPlace) rfl rfl rfl cd_X12_isPlace ⟨Nat.le_of_ble_eq_true rfl, Nat.le_of_ble_eq_true rfl⟩) (pw_preV hw Ta0 (by decide) rfl) rfl rfl hl.1 rfl (lv_room (Nat.le_of_ble_eq_true rfl)) dX12_more_8 ⟨Nat.zero_le _, Nat.zero_le _⟩) hw (fun H locs hw hx4 hz5 => ?_)
  have Ta0 : TY S_1 a0 12 := ty_ext hx4 Ta0
  have hE : Ext S0 S_1 := Ext.tr hE hx4
  refine lv_if_eq (tgt := 30) hx hb dX12_more_11 (by decide) (fun h6 => ?_) (fun h6 => ?_)
  · rw [if_pos h6] at hm
    refine lv_iconst (v := 0) hx hb dX12_more_30 (by decide) ?_
    cases hm
    exact pw_iret hx hb hr rfl hlk hw hE dX12_more_31
  · rw [if_neg h6] at hm
    refine lv_aload_n hx hb dX12_more_14 rfl (lv_at hl 0 rfl) ?_
    refine lv_iload_n hx hb dX12_more_15 rfl (lv_at hl 2 rfl) ?_
    refine lv_iconst (v := 0) hx hb dX12_more_16 (by decide) ?_
    refine lv_bipush (v := 99) hx hb dX12_more_17 (by decide) ?_
    obtain ⟨r9, S_7, hq8, hm⟩ := cb_some hm
    refine pw_cz (va_runS (As := [.int x2, .int 0, .int 99]) (rest := [.ref a0]) ⟨hx, hb, hml, hown, hU⟩ (c_X12_within l C X n S_1 hw.wf _ x2 0 99  r9 S_7 hq8) ⟨callB_of 3 hU (pq_g1 tc_X12_within) rfl rfl rfl (hU _ tw14) (hU _ tw1776) cd_X12_within.2 ⟨Nat.le_of_ble_eq_true rfl, Nat.le_of_ble_eq_true rfl⟩, hU _ tw1777⟩ (pw_preS hw) rfl rfl hl.1 rfl (lv_room (Nat.le_of_ble_eq_true rfl)) dX12_more_19 ⟨Nat.zero_le _, Nat.zero_le _⟩) hw (fun H locs hw hx10 hz11 => ?_)
    have Ta0 : TY S_7 a0 12 := ty_ext hx10 Ta0
    have hE : Ext S0 S_7 := Ext.tr hE hx10
    refine lv_iconst (v := 2) hx hb dX12_more_22 (by decide) ?_
    refine lv_iconst (v := 1) hx hb dX12_more_23 (by decide) ?_
    obtain ⟨r14, S_12, hq13, hm⟩ := cb_some hm
    refine pw_cz (va_runV (As := [.int r9, .int 2, .int 1]) (rest := []) ⟨hx, hb, hml, hown, hU⟩ (c_X12_may l C X n S_7 hw.wf _ a0 r9 2 1 (Ta0) r14 S_12 hq13) (cwV 3 hU (pq_gV tw1703 tw1705 ts123 tw14 tc_X12_may) rfl rfl rfl cd_X12_may ⟨Nat.le_of_ble_eq_true rfl, Nat.le_of_ble_eq_true rfl⟩) (pw_preV hw Ta0 (by decide) rfl) rfl rfl hl.1 rfl (lv_room (Nat.le_of_ble_eq_true rfl)) dX12_more_24 ⟨Nat.zero_le _, Nat.zero_le _⟩) hw (fun H locs hw hx15 hz16 => ?_)
    have Ta0 : TY S_12 a0 12 := ty_ext hx15 Ta0
    have hE : Ext S0 S_12 := Ext.tr hE hx15
    refine lv_if_ne (tgt := 32) hx hb dX12_more_27 (by decide) (fun h17 => ?_) (fun h17 => ?_)
    · rw [if_neg h17] at hm
      refine lv_aload_n hx hb dX12_more_32 rfl (lv_at hl 0 rfl) ?_
      obtain ⟨S_18, hq19, hm⟩ := bd_some hm
      refine pw_cv (va_runV (As := []) (rest := []) ⟨hx, hb, hml, hown, hU⟩ (c_X12_take l C X n S_12 hw.wf _ a0 (Ta0) S_18 hq19) (cwV 0 hU (pq_gV tw1922 tw1924 ts161 tw14 tc_X12_take) rfl rfl rfl cd_X12_take ⟨Nat.le_of_ble_eq_true rfl, Nat.le_of_ble_eq_true rfl⟩) (pw_preV hw Ta0 (by decide) rfl) rfl rfl hl.1 rfl (lv_room (Nat.le_of_ble_eq_true rfl)) dX12_more_33 ⟨Nat.zero_le _, Nat.zero_le _⟩) hw (fun H locs hw hx20 => ?_)
      have Ta0 : TY S_18 a0 12 := ty_ext hx20 Ta0
      have hE : Ext S0 S_18 := Ext.tr hE hx20
      refine lv_aload_n hx hb dX12_more_36 rfl (lv_at hl 0 rfl) ?_
      refine lv_iconst (v := 0) hx hb dX12_more_37 (by decide) ?_
      refine lv_iload_n hx hb dX12_more_38 rfl (lv_at hl 1 rfl) ?_
      refine lv_iadd hx hb dX12_more_39 ?_
      refine lv_iload_n hx hb dX12_more_40 rfl (lv_at hl 2 rfl) ?_
      obtain ⟨S_21, hq22, hm⟩ := bd_some hm
      refine pw_cv (va_runV (As := [.int ((0 : Int32) + x1), .int x2]) (rest := []) ⟨hx, hb, hml, hown, hU⟩ (c_X12_adds l C X n S_18 hw.wf _ a0 ((0 : Int32) + x1) x2 (Ta0) S_21 hq22) (cwV 2 hU (pq_gV tw1870 tw1872 ts152 tw14 tc_X12_adds) rfl rfl rfl cd_X12_adds ⟨Nat.le_of_ble_eq_true rfl, Nat.le_of_ble_eq_true rfl⟩) (pw_preV hw Ta0 (by decide) rfl) rfl rfl hl.1 rfl (lv_room (Nat.le_of_ble_eq_true rfl)) dX12_more_41 ⟨Nat.zero_le _, Nat.zero_le _⟩) hw (fun H locs hw hx23 => ?_)
      have Ta0 : TY S_21 a0 12 := ty_ext hx23 Ta0
      have hE : Ext S0 S_21 := Ext.tr hE hx23
      refine lv_aload_n hx hb dX12_more_44 rfl (lv_at hl 0 rfl) ?_
      obtain ⟨S_24, hq25, hm⟩ := bd_some hm
      refine pw_cv (va_runV (As := []) (rest := []) ⟨hx, hb, hml, hown, hU⟩ (c_X12_findSales l C X n S_21 hw.wf _ a0 (Ta0) S_24 hq25) (cwV 0 hU (pq_gV tw1962 tw1964 ts165 tw14 tc_X12_findSales) rfl rfl rfl cd_X12_findSales ⟨Nat.le_of_ble_eq_true rfl, Nat.le_of_ble_eq_true rfl⟩) (pw_preV hw Ta0 (by decide) rfl) rfl rfl hl.1 rfl (lv_room (Nat.le_of_ble_eq_true rfl)) dX12_more_45 ⟨Nat.zero_le _, Nat.zero_le _⟩) hw (fun H locs hw hx26 => ?_)
      have Ta0 : TY S_24 a0 12 := ty_ext hx26 Ta0
      have hE : Ext S0 S_24 := Ext.tr hE hx26
      refine lv_aload_n hx hb dX12_more_48 rfl (lv_at hl 0 rfl) ?_
      refine pg_i (k := 12) (j := 53) (f := 1253) hx hb hown hU iu12 hw Ta0 (by decide) rfl (hU _ tw1524) rfl dX12_more_49 ?_
      cases hm
      exact pw_iret hx hb hr rfl hlk hw hE dX12_more_52
    · rw [if_pos h17] at hm
      refine lv_iconst (v := 0) hx hb dX12_more_30 (by decide) ?_
      cases hm
      exact pw_iret hx hb hr rfl hlk hw hE dX12_more_31
abbrev rm_X12_priceAt : Room := { frames := 1, cells := 0, slots := 0, locals := 24 }
def b_X12_priceAt_2 (n : Nat) : Nat → Nat → Int32 → Int32 → pq_S → Option (Int32 × pq_S)
  | 0, _, _, _, _ => none
  | f + 1, a0, x1, x2, S => cb (m_X12_hoursOf n a0 x1 x2 S) fun r3 S_1 => Option.bind (pR S_1 1247 a0) fun q5 => ck (ix ((0 : Int32) + x1) (pN S_1 q5)) (dix _ _) (Option.bind (pR S_1 1247 a0) fun q7 => ck (ix ((6 : Int32) + x1) (pN S_1 q7)) (dix _ _) (if r3 ≤ ((pA S_1 q5 (Int32.toNatClampNeg ((0 : Int32) + x1))) + (pA S_1 q7 (Int32.toNatClampNeg ((6 : Int32) + x1)))) then some (x2, S_1) else b_X12_priceAt_2 n f a0 x1 (x2 + 1) S_1))
set_option maxHeartbeats 4000000 in
set_option maxRecDepth 100000 in
theorem wb_X12_priceAt_2 {p : Program} {l : Launch} {e : Env} {s : State} {m : MethodId} {args : Array Value} {below : List Frame} {meth : Method} {c : Code} (cx : Cx p s m args meth c cX12_priceAt 3 RX12 (some .int)) (C : pq_C) (X : va_W) (S0 : pq_S) (n : Nat) (r : Int32) (S1 : pq_S) : ∀ (f : Nat) (a0 : Nat) (x1 : Int32) (x2 : Int32) (S : pq_S) (H : Heap) (locs : List Loc) (ls : Array Slot), PW C X S (pq_F C X S0 s.heap.size) H locs s → Ext S0 S → TY S a0 12 → lv_has ls 3 [(0, .ref a0), (1, .int x1), (2, .int x2)] → b_X12_priceAt_2 n f a0 x1 x2 S = some (r, S1) → W p l e rm_X12_priceAt s m args below meth c H locs 0 0 (MQ below (QcI C X S0 s.heap.size r S1) args s 0 0 (pq_F C X S0 s.heap.size)) (F0 m 2 ls []) := by
  obtain ⟨hx, hb, hml, hown, hU, hr, hlk⟩ := id cx
  intro f
  induction f with
  | zero =>
    intro a0 x1 x2 S H locs ls hw hE Ta0 hl hm
    cases hm
  | succ f ih =>
    intro a0 x1 x2 S H locs ls hw hE Ta0 hl hm
    rw [b_X12_priceAt_2] at hm
    refine lv_aload_n hx hb dX12_priceAt_2 rfl (lv_at hl 0 rfl) ?_
    refine lv_iload_n hx hb dX12_priceAt_3 rfl (lv_at hl 1 rfl) ?_
    refine lv_iload_n hx hb dX12_priceAt_4 rfl (lv_at hl 2 rfl) ?_
    obtain ⟨r3, S_1, hq2, hm⟩ := cb_some hm
    refine pw_ci (va_runV (As := [.int x1, .int x2]) (rest := []) ⟨hx, hb, hml, hown, hU⟩ (c_X12_hoursOf l C X n S hw.wf _ a0 x1 x2 (Ta0) r3 S_1 hq2) (cwV 2 hU (pq_gV tw1926 tw1928 ts162 tw14 tc_X12_hoursOf) rfl rfl rfl cd_X12_hoursOf ⟨Nat.le_of_ble_eq_true rfl, Nat.le_of_ble_eq_true rfl⟩) (pw_preV hw Ta0 (by decide) rfl) rfl rfl hl.1 rfl (lv_room (Nat.le_of_ble_eq_true rfl)) dX12_priceAt_5 ⟨Nat.zero_le _, Nat.zero_le _⟩) hw (fun H locs hw hx4 => ?_)
    have Ta0 : TY S_1 a0 12 := ty_ext hx4 Ta0
    have hE : Ext S0 S_1 := Ext.tr hE hx4
    refine lv_aload_n hx hb dX12_priceAt_8 rfl (lv_at hl 0 rfl) ?_
    obtain ⟨q5, hq5, hm⟩ := bd_some hm
    have Tq5 : TY S_1 q5 14 := hw.wf.ref (k := 12) (j := 47) Ta0 (by decide) (by decide) hq5
    refine pg_rb (k := 12) (j := 47) (f := 1247) hx hb hown hU iu12 hw Ta0 (by decide) rfl (hU _ tw1518) rfl hq5 dX12_priceAt_9 ?_
    refine lv_iconst (v := 0) hx hb dX12_priceAt_12 (by decide) ?_
    refine lv_iload_n hx hb dX12_priceAt_13 rfl (lv_at hl 1 rfl) ?_
    refine lv_iadd hx hb dX12_priceAt_14 ?_
    obtain ⟨hi6, hm⟩ := ck_some hm
    refine pw_iald hx hb hw Tq5 hi6 dX12_priceAt_15 ?_
    refine lv_aload_n hx hb dX12_priceAt_16 rfl (lv_at hl 0 rfl) ?_
    obtain ⟨q7, hq7, hm⟩ := bd_some hm
    have Tq7 : TY S_1 q7 14 := hw.wf.ref (k := 12) (j := 47) Ta0 (by decide) (by decide) hq7
    refine pg_rb (k := 12) (j := 47) (f := 1247) hx hb hown hU iu12 hw Ta0 (by decide) rfl (hU _ tw1518) rfl hq7 dX12_priceAt_17 ?_
    refine lv_bipush (v := 6) hx hb dX12_priceAt_20 (by decide) ?_
    refine lv_iload_n hx hb dX12_priceAt_22 rfl (lv_at hl 1 rfl) ?_
    refine lv_iadd hx hb dX12_priceAt_23 ?_
    obtain ⟨hi8, hm⟩ := ck_some hm
    refine pw_iald hx hb hw Tq7 hi8 dX12_priceAt_24 ?_
    refine lv_iadd hx hb dX12_priceAt_25 ?_
    refine lv_icmp_le (tgt := 35) hx hb dX12_priceAt_26 (by decide) (fun h9 => ?_) (fun h9 => ?_)
    · rw [if_pos h9] at hm
      refine lv_iload_n hx hb dX12_priceAt_35 rfl (lv_at hl 2 rfl) ?_
      cases hm
      exact pw_iret hx hb hr rfl hlk hw hE dX12_priceAt_36
    · rw [if_neg h9] at hm
      refine lv_iinc (v := (x2 + 1)) (lv' := [(2, .int (x2 + 1)), (0, .ref a0), (1, .int x1)]) hx hb dX12_priceAt_29 hl (k := 2) rfl rfl (by decide) rfl (fun ls hl => ?_)
      refine lv_goto (tgt := 2) hx hb dX12_priceAt_32 (by decide) ?_
      exact ih a0 x1 (x2 + 1) S_1 _ _ _ hw hE Ta0 (lv_sub hl [1, 2, 0] rfl) hm
def m_X12_priceAt (n : Nat) (a0 : Nat) (x1 : Int32) (S0 : pq_S) : Option (Int32 × pq_S) := b_X12_priceAt_2 n n a0 x1 0 S0
theorem tc_X12_priceAt : Cond.code yX12_priceAt cX12_priceAt 3 (some .int) ∈ pq_U := tw1981
theorem cd_X12_priceAt : yX12_priceAt.cls = RX12 ∧ yX12_priceAt.cls ≠ "java/lang/invoke/MethodHandle" ∧ yX12_priceAt.cls ≠ "java/lang/invoke/VarHandle" ∧ (parseMethodDescriptor yX12_priceAt.desc).map (fun d => d.parameters.length) = some 1 := by decide +kernel
set_option maxHeartbeats 4000000 in
set_option maxRecDepth 100000 in
theorem c_X12_priceAt (l : Launch) (C : pq_C) (X : va_W) (n : Nat) (S0 : pq_S) (hF : WF S0) (sz : Nat) (a0 : Nat) (x1 : Int32) (Ta0 : TY S0 a0 12) (r : Int32) (S1 : pq_S) (hm : m_X12_priceAt n a0 x1 S0 = some (r, S1)) : MI l yX12_priceAt (.code yX12_priceAt cX12_priceAt 3 (some .int) :: pq_U) rm_X12_priceAt C X S0 sz [.ref a0, .int x1] r S1 0 0 := by
  refine Met.ofW (cc := cX12_priceAt) (maxL := 3) (ret := (some .int)) (by decide) rfl ?_
  intro p e s m args below meth c s₁ B hml hv
  obtain ⟨rfl, hv⟩ := hv
  have hsz := hv.1
  subst hsz
  have hw := pw_entry hF hv
  have hts := atoms_spec (ws := .code yX12_priceAt cX12_priceAt 3 (some .int) :: pq_U) B.pre
  have hU : ∀ w ∈ pq_U, w.before _ s = true := fun w h => hts w (List.mem_cons_of_mem _ h)
  have hx := B.exec
  have hb := B.bytes
  have hr := B.returns
  have hown : s.vm.findClass RX12 = some m.cls := findClass_of_methodNamed B.named
  have hlk := B.notSynchronized
  have hl := lv_entry ([.ref a0, .int x1]) (n := 3) (Nat.le_of_ble_eq_true rfl)
  rw [lg_entry_eq]
  generalize (lg_sl ([.ref a0, .int x1]) ++ List.replicate (3 - (lg_sl ([.ref a0, .int x1])).length) Slot.unset).toArray = ls at hl ⊢
  have hl : lv_has ls 3 [(0, .ref a0), (1, .int x1)] := hl
  have hE : Ext S0 S0 := Ext.rf _
  have cx : Cx p s m _ meth c cX12_priceAt 3 RX12 (some .int) := ⟨hx, hb, hml, hown, hU, hr, hlk⟩
  rw [m_X12_priceAt] at hm
  refine lv_iconst (v := 0) hx hb dX12_priceAt_0 (by decide) ?_
  refine lv_istore_n (lv' := [(2, .int 0), (0, .ref a0), (1, .int x1)]) hx hb dX12_priceAt_1 rfl hl (by decide) rfl (fun ls hl => ?_)
  exact wb_X12_priceAt_2 cx C X S0 n r S1 n a0 x1 0 S0 _ _ _ hw hE Ta0 (lv_sub hl [1, 2, 0] rfl) hm
abbrev rm_X12_price : Room := { frames := 2, cells := 0, slots := 0, locals := 46 }
def m_X12_price (n : Nat) (a0 : Nat) (x1 : Int32) (S0 : pq_S) : Option (Int32 × pq_S) := cb (m_X12_isPlace n a0 x1 1 (sI S0 1200 a0 0)) fun r3 S_1 => if r3 = 0 then some (0, S_1) else Option.bind (m_X12_take n a0 S_1) fun S_7 => cb (m_X12_priceAt n a0 x1 S_7) fun r12 S_10 => some (r12, S_10)
theorem tc_X12_price : Cond.code yX12_price cX12_price 2 (some .int) ∈ pq_U := tw1977
theorem cd_X12_price : yX12_price.cls = RX12 ∧ yX12_price.cls ≠ "java/lang/invoke/MethodHandle" ∧ yX12_price.cls ≠ "java/lang/invoke/VarHandle" ∧ (parseMethodDescriptor yX12_price.desc).map (fun d => d.parameters.length) = some 1 := by decide +kernel
set_option maxHeartbeats 4000000 in
set_option maxRecDepth 100000 in
theorem c_X12_price (l : Launch) (C : pq_C) (X : va_W) (n : Nat) (S0 : pq_S) (hF : WF S0) (sz : Nat) (a0 : Nat) (x1 : Int32) (Ta0 : TY S0 a0 12) (r : Int32) (S1 : pq_S) (hm : m_X12_price n a0 x1 S0 = some (r, S1)) : MI l yX12_price (.code yX12_price cX12_price 2 (some .int) :: pq_U) rm_X12_price C X S0 sz [.ref a0, .int x1] r S1 0 0 := by
  refine Met.ofW (cc := cX12_price) (maxL := 2) (ret := (some .int)) (by decide) rfl ?_
  intro p e s m args below meth c s₁ B hml hv
  obtain ⟨rfl, hv⟩ := hv
  have hsz := hv.1
  subst hsz
  have hw := pw_entry hF hv
  have hts := atoms_spec (ws := .code yX12_price cX12_price 2 (some .int) :: pq_U) B.pre
  have hU : ∀ w ∈ pq_U, w.before _ s = true := fun w h => hts w (List.mem_cons_of_mem _ h)
  have hx := B.exec
  have hb := B.bytes
  have hr := B.returns
  have hown : s.vm.findClass RX12 = some m.cls := findClass_of_methodNamed B.named
  have hlk := B.notSynchronized
  have hl := lv_entry ([.ref a0, .int x1]) (n := 2) (Nat.le_of_ble_eq_true rfl)
  rw [lg_entry_eq]
  generalize (lg_sl ([.ref a0, .int x1]) ++ List.replicate (2 - (lg_sl ([.ref a0, .int x1])).length) Slot.unset).toArray = ls at hl ⊢
  have hl : lv_has ls 2 [(0, .ref a0), (1, .int x1)] := hl
  have hE : Ext S0 S0 := Ext.rf _
  have cx : Cx p s m _ meth c cX12_price 2 RX12 (some .int) := ⟨hx, hb, hml, hown, hU, hr, hlk⟩
  rw [m_X12_price] at hm
  refine lv_aload_n hx hb dX12_price_0 rfl (lv_at hl 0 rfl) ?_
  refine lv_iconst (v := 0) hx hb dX12_price_1 (by decide) ?_
  refine pp_i (k := 12) (j := 0) (f := 1200) hx hb hown hU iu12 tyX12_ok nmX12 hw Ta0 (by decide) rfl (hU _ tw1471) rfl rfl rfl dX12_price_2 (fun H locs hw => ?_)
  refine lv_aload_n hx hb dX12_price_5 rfl (lv_at hl 0 rfl) ?_
  refine lv_iload_n hx hb dX12_price_6 rfl (lv_at hl 1 rfl) ?_
  refine lv_iconst (v := 1) hx hb dX12_price_7 (by decide) ?_
  obtain ⟨r3, S_1, hq2, hm⟩ := cb_some hm
  refine pw_cz (va_runV (As := [.int x1, .int 1]) (rest := []) ⟨hx, hb, hml, hown, hU⟩ (c_X12_isPlace l C X n (sI S0 1200 a0 0) hw.wf _ a0 x1 1 (Ta0) r3 S_1 hq2) (cwV 2 hU (pq_gV tw1918 tw1920 ts160 tw14 tc_X12_isPlace) rfl rfl rfl cd_X12_isPlace ⟨Nat.le_of_ble_eq_true rfl, Nat.le_of_ble_eq_true rfl⟩) (pw_preV hw Ta0 (by decide) rfl) rfl rfl hl.1 rfl (lv_room (Nat.le_of_ble_eq_true rfl)) dX12_price_8 ⟨Nat.zero_le _, Nat.zero_le _⟩) hw (fun H locs hw hx4 hz5 => ?_)
  have Ta0 : TY S_1 a0 12 := ty_ext hx4 Ta0
  have hE : Ext S0 S_1 := Ext.tr hE hx4
  refine lv_if_ne (tgt := 16) hx hb dX12_price_11 (by decide) (fun h6 => ?_) (fun h6 => ?_)
  · rw [if_neg h6] at hm
    refine lv_aload_n hx hb dX12_price_16 rfl (lv_at hl 0 rfl) ?_
    obtain ⟨S_7, hq8, hm⟩ := bd_some hm
    refine pw_cv (va_runV (As := []) (rest := []) ⟨hx, hb, hml, hown, hU⟩ (c_X12_take l C X n S_1 hw.wf _ a0 (Ta0) S_7 hq8) (cwV 0 hU (pq_gV tw1922 tw1924 ts161 tw14 tc_X12_take) rfl rfl rfl cd_X12_take ⟨Nat.le_of_ble_eq_true rfl, Nat.le_of_ble_eq_true rfl⟩) (pw_preV hw Ta0 (by decide) rfl) rfl rfl hl.1 rfl (lv_room (Nat.le_of_ble_eq_true rfl)) dX12_price_17 ⟨Nat.zero_le _, Nat.zero_le _⟩) hw (fun H locs hw hx9 => ?_)
    have Ta0 : TY S_7 a0 12 := ty_ext hx9 Ta0
    have hE : Ext S0 S_7 := Ext.tr hE hx9
    refine lv_aload_n hx hb dX12_price_20 rfl (lv_at hl 0 rfl) ?_
    refine lv_iload_n hx hb dX12_price_21 rfl (lv_at hl 1 rfl) ?_
    obtain ⟨r12, S_10, hq11, hm⟩ := cb_some hm
    refine pw_ci (va_runV (As := [.int x1]) (rest := []) ⟨hx, hb, hml, hown, hU⟩ (c_X12_priceAt l C X n S_7 hw.wf _ a0 x1 (Ta0) r12 S_10 hq11) (cwV 1 hU (pq_gV tw1978 tw1980 ts166 tw14 tc_X12_priceAt) rfl rfl rfl cd_X12_priceAt ⟨Nat.le_of_ble_eq_true rfl, Nat.le_of_ble_eq_true rfl⟩) (pw_preV hw Ta0 (by decide) rfl) rfl rfl hl.1 rfl (lv_room (Nat.le_of_ble_eq_true rfl)) dX12_price_22 ⟨Nat.zero_le _, Nat.zero_le _⟩) hw (fun H locs hw hx13 => ?_)
    have Ta0 : TY S_10 a0 12 := ty_ext hx13 Ta0
    have hE : Ext S0 S_10 := Ext.tr hE hx13
    cases hm
    exact pw_iret hx hb hr rfl hlk hw hE dX12_price_25
  · rw [if_pos h6] at hm
    refine lv_iconst (v := 0) hx hb dX12_price_14 (by decide) ?_
    cases hm
    exact pw_iret hx hb hr rfl hlk hw hE dX12_price_15
abbrev rm_X12_corner : Room := { frames := 2, cells := 0, slots := 0, locals := 46 }
def b_X12_corner_38 (n : Nat) : Nat → Nat → Int32 → Int32 → Int32 → pq_S → Option (Int32 × pq_S)
  | 0, _, _, _, _, _ => none
  | f + 1, a0, x1, x2, x3, S => Option.bind (pR S 1247 a0) fun q21 => ck (ix ((0 : Int32) + x1) (pN S q21)) (dix _ _) (if (pA S q21 (Int32.toNatClampNeg ((0 : Int32) + x1))) < 0 then some ((-1), S) else cb (m_X12_priceAt n a0 x1 S) fun r26 S_24 => if r26 < x2 then Option.bind (pR S_24 1247 a0) fun q29 => ck (ix ((0 : Int32) + x1) (pN S_24 q29)) (dix _ _) (ck (ix ((0 : Int32) + x1) (pN S_24 q29)) (dix _ _) (lt_ (sA S_24 q29 (Int32.toNatClampNeg ((0 : Int32) + x1)) ((pA S_24 q29 (Int32.toNatClampNeg ((0 : Int32) + x1))) - (1 : Int32))) fun S_32 => b_X12_corner_38 n f a0 x1 x2 (x3 + 1) S_32)) else some (x3, S_24))
set_option maxHeartbeats 4000000 in
set_option maxRecDepth 100000 in
theorem wb_X12_corner_38 {p : Program} {l : Launch} {e : Env} {s : State} {m : MethodId} {args : Array Value} {below : List Frame} {meth : Method} {c : Code} (cx : Cx p s m args meth c cX12_corner 4 RX12 (some .int)) (C : pq_C) (X : va_W) (S0 : pq_S) (n : Nat) (r : Int32) (S1 : pq_S) : ∀ (f : Nat) (a0 : Nat) (x1 : Int32) (x2 : Int32) (x3 : Int32) (S : pq_S) (H : Heap) (locs : List Loc) (ls : Array Slot), PW C X S (pq_F C X S0 s.heap.size) H locs s → Ext S0 S → TY S a0 12 → lv_has ls 4 [(0, .ref a0), (1, .int x1), (2, .int x2), (3, .int x3)] → b_X12_corner_38 n f a0 x1 x2 x3 S = some (r, S1) → W p l e rm_X12_corner s m args below meth c H locs 0 0 (MQ below (QcI C X S0 s.heap.size r S1) args s 0 0 (pq_F C X S0 s.heap.size)) (F0 m 38 ls []) := by
  obtain ⟨hx, hb, hml, hown, hU, hr, hlk⟩ := id cx
  intro f
  induction f with
  | zero =>
    intro a0 x1 x2 x3 S H locs ls hw hE Ta0 hl hm
    cases hm
  | succ f ih =>
    intro a0 x1 x2 x3 S H locs ls hw hE Ta0 hl hm
    rw [b_X12_corner_38] at hm
    refine lv_aload_n hx hb dX12_corner_38 rfl (lv_at hl 0 rfl) ?_
    obtain ⟨q21, hq21, hm⟩ := bd_some hm
    have Tq21 : TY S q21 14 := hw.wf.ref (k := 12) (j := 47) Ta0 (by decide) (by decide) hq21
    refine pg_rb (k := 12) (j := 47) (f := 1247) hx hb hown hU iu12 hw Ta0 (by decide) rfl (hU _ tw1518) rfl hq21 dX12_corner_39 ?_
    refine lv_iconst (v := 0) hx hb dX12_corner_42 (by decide) ?_
    refine lv_iload_n hx hb dX12_corner_43 rfl (lv_at hl 1 rfl) ?_
    refine lv_iadd hx hb dX12_corner_44 ?_
    obtain ⟨hi22, hm⟩ := ck_some hm
    refine pw_iald hx hb hw Tq21 hi22 dX12_corner_45 ?_
    refine lv_if_lt (tgt := 78) hx hb dX12_corner_46 (by decide) (fun h23 => ?_) (fun h23 => ?_)
    · rw [if_pos h23] at hm
      refine lv_iconst (v := (-1)) hx hb dX12_corner_78 (by decide) ?_
      cases hm
      exact pw_iret hx hb hr rfl hlk hw hE dX12_corner_79
    · rw [if_neg h23] at hm
      refine lv_aload_n hx hb dX12_corner_49 rfl (lv_at hl 0 rfl) ?_
      refine lv_iload_n hx hb dX12_corner_50 rfl (lv_at hl 1 rfl) ?_
      obtain ⟨r26, S_24, hq25, hm⟩ := cb_some hm
      refine pw_ci (va_runV (As := [.int x1]) (rest := []) ⟨hx, hb, hml, hown, hU⟩ (c_X12_priceAt l C X n S hw.wf _ a0 x1 (Ta0) r26 S_24 hq25) (cwV 1 hU (pq_gV tw1978 tw1980 ts166 tw14 tc_X12_priceAt) rfl rfl rfl cd_X12_priceAt ⟨Nat.le_of_ble_eq_true rfl, Nat.le_of_ble_eq_true rfl⟩) (pw_preV hw Ta0 (by decide) rfl) rfl rfl hl.1 rfl (lv_room (Nat.le_of_ble_eq_true rfl)) dX12_corner_51 ⟨Nat.zero_le _, Nat.zero_le _⟩) hw (fun H locs hw hx27 => ?_)
      have Ta0 : TY S_24 a0 12 := ty_ext hx27 Ta0
      have hE : Ext S0 S_24 := Ext.tr hE hx27
      refine lv_iload_n hx hb dX12_corner_54 rfl (lv_at hl 2 rfl) ?_
      refine lv_icmp_lt (tgt := 60) hx hb dX12_corner_55 (by decide) (fun h28 => ?_) (fun h28 => ?_)
      · rw [if_pos h28] at hm
        refine lv_aload_n hx hb dX12_corner_60 rfl (lv_at hl 0 rfl) ?_
        obtain ⟨q29, hq29, hm⟩ := bd_some hm
        have Tq29 : TY S_24 q29 14 := hw.wf.ref (k := 12) (j := 47) Ta0 (by decide) (by decide) hq29
        refine pg_rb (k := 12) (j := 47) (f := 1247) hx hb hown hU iu12 hw Ta0 (by decide) rfl (hU _ tw1518) rfl hq29 dX12_corner_61 ?_
        refine lv_iconst (v := 0) hx hb dX12_corner_64 (by decide) ?_
        refine lv_iload_n hx hb dX12_corner_65 rfl (lv_at hl 1 rfl) ?_
        refine lv_iadd hx hb dX12_corner_66 ?_
        refine lv_dup2_11 hx hb dX12_corner_67 rfl rfl ?_
        obtain ⟨hi30, hm⟩ := ck_some hm
        refine pw_iald hx hb hw Tq29 hi30 dX12_corner_68 ?_
        refine lv_iconst (v := 1) hx hb dX12_corner_69 (by decide) ?_
        refine lv_isub hx hb dX12_corner_70 ?_
        obtain ⟨hi31, hm⟩ := ck_some hm
        refine pw_iast hx hb hw Tq29 hi31 dX12_corner_71 (fun H locs hw => ?_)
        obtain ⟨S_32, eS_32, hm⟩ := lt_some hm
        rw [← eS_32] at hw
        have Ta0 : TY S_32 a0 12 := by rw [eS_32]; exact Ta0
        have hE : Ext S0 S_32 := by rw [eS_32]; exact hE
        refine lv_iinc (v := (x3 + 1)) (lv' := [(3, .int (x3 + 1)), (0, .ref a0), (1, .int x1), (2, .int x2)]) hx hb dX12_corner_72 hl (k := 3) rfl rfl (by decide) rfl (fun ls hl => ?_)
        refine lv_goto (tgt := 38) hx hb dX12_corner_75 (by decide) ?_
        exact ih a0 x1 x2 (x3 + 1) S_32 _ _ _ hw hE Ta0 (lv_sub hl [1, 2, 3, 0] rfl) hm
      · rw [if_neg h28] at hm
        refine lv_iload_n hx hb dX12_corner_58 rfl (lv_at hl 3 rfl) ?_
        cases hm
        exact pw_iret hx hb hr rfl hlk hw hE dX12_corner_59
def m_X12_corner (n : Nat) (a0 : Nat) (x1 : Int32) (x2 : Int32) (S0 : pq_S) : Option (Int32 × pq_S) := cb (m_X12_isPlace n a0 x1 1 (sI S0 1200 a0 0)) fun r3 S_1 => if r3 = 0 then some (0, S_1) else cb (m_X12_within n x2 0 100 S_1) fun r9 S_7 => cb (m_X12_may n a0 r9 2 1 S_7) fun r14 S_12 => if r14 = 0 then some (0, S_12) else Option.bind (m_X12_take n a0 S_12) fun S_18 => b_X12_corner_38 n n a0 x1 x2 0 S_18
theorem tc_X12_corner : Cond.code yX12_corner cX12_corner 4 (some .int) ∈ pq_U := tw1985
theorem cd_X12_corner : yX12_corner.cls = RX12 ∧ yX12_corner.cls ≠ "java/lang/invoke/MethodHandle" ∧ yX12_corner.cls ≠ "java/lang/invoke/VarHandle" ∧ (parseMethodDescriptor yX12_corner.desc).map (fun d => d.parameters.length) = some 2 := by decide +kernel
set_option maxHeartbeats 4000000 in
set_option maxRecDepth 100000 in
theorem c_X12_corner (l : Launch) (C : pq_C) (X : va_W) (n : Nat) (S0 : pq_S) (hF : WF S0) (sz : Nat) (a0 : Nat) (x1 : Int32) (x2 : Int32) (Ta0 : TY S0 a0 12) (r : Int32) (S1 : pq_S) (hm : m_X12_corner n a0 x1 x2 S0 = some (r, S1)) : MI l yX12_corner (.code yX12_corner cX12_corner 4 (some .int) :: pq_U) rm_X12_corner C X S0 sz [.ref a0, .int x1, .int x2] r S1 0 0 := by
  refine Met.ofW (cc := cX12_corner) (maxL := 4) (ret := (some .int)) (by decide) rfl ?_
  intro p e s m args below meth c s₁ B hml hv
  obtain ⟨rfl, hv⟩ := hv
  have hsz := hv.1
  subst hsz
  have hw := pw_entry hF hv
  have hts := atoms_spec (ws := .code yX12_corner cX12_corner 4 (some .int) :: pq_U) B.pre
  have hU : ∀ w ∈ pq_U, w.before _ s = true := fun w h => hts w (List.mem_cons_of_mem _ h)
  have hx := B.exec
  have hb := B.bytes
  have hr := B.returns
  have hown : s.vm.findClass RX12 = some m.cls := findClass_of_methodNamed B.named
  have hlk := B.notSynchronized
  have hl := lv_entry ([.ref a0, .int x1, .int x2]) (n := 4) (Nat.le_of_ble_eq_true rfl)
  rw [lg_entry_eq]
  generalize (lg_sl ([.ref a0, .int x1, .int x2]) ++ List.replicate (4 - (lg_sl ([.ref a0, .int x1, .int x2])).length) Slot.unset).toArray = ls at hl ⊢
  have hl : lv_has ls 4 [(0, .ref a0), (1, .int x1), (2, .int x2)] := hl
  have hE : Ext S0 S0 := Ext.rf _
  have cx : Cx p s m _ meth c cX12_corner 4 RX12 (some .int) := ⟨hx, hb, hml, hown, hU, hr, hlk⟩
  rw [m_X12_corner] at hm
  refine lv_aload_n hx hb dX12_corner_0 rfl (lv_at hl 0 rfl) ?_
  refine lv_iconst (v := 0) hx hb dX12_corner_1 (by decide) ?_
  refine pp_i (k := 12) (j := 0) (f := 1200) hx hb hown hU iu12 tyX12_ok nmX12 hw Ta0 (by decide) rfl (hU _ tw1471) rfl rfl rfl dX12_corner_2 (fun H locs hw => ?_)
  refine lv_aload_n hx hb dX12_corner_5 rfl (lv_at hl 0 rfl) ?_
  refine lv_iload_n hx hb dX12_corner_6 rfl (lv_at hl 1 rfl) ?_
  refine lv_iconst (v := 1) hx hb dX12_corner_7 (by decide) ?_
  obtain ⟨r3, S_1, hq2, hm⟩ := cb_some hm
  refine pw_cz (va_runV (As := [.int x1, .int 1]) (rest := []) ⟨hx, hb, hml, hown, hU⟩ (c_X12_isPlace l C X n (sI S0 1200 a0 0) hw.wf _ a0 x1 1 (Ta0) r3 S_1 hq2) (cwV 2 hU (pq_gV tw1918 tw1920 ts160 tw14 tc_X12_isPlace) rfl rfl rfl cd_X12_isPlace ⟨Nat.le_of_ble_eq_true rfl, Nat.le_of_ble_eq_true rfl⟩) (pw_preV hw Ta0 (by decide) rfl) rfl rfl hl.1 rfl (lv_room (Nat.le_of_ble_eq_true rfl)) dX12_corner_8 ⟨Nat.zero_le _, Nat.zero_le _⟩) hw (fun H locs hw hx4 hz5 => ?_)
  have Ta0 : TY S_1 a0 12 := ty_ext hx4 Ta0
  have hE : Ext S0 S_1 := Ext.tr hE hx4
  refine lv_if_eq (tgt := 30) hx hb dX12_corner_11 (by decide) (fun h6 => ?_) (fun h6 => ?_)
  · rw [if_pos h6] at hm
    refine lv_iconst (v := 0) hx hb dX12_corner_30 (by decide) ?_
    cases hm
    exact pw_iret hx hb hr rfl hlk hw hE dX12_corner_31
  · rw [if_neg h6] at hm
    refine lv_aload_n hx hb dX12_corner_14 rfl (lv_at hl 0 rfl) ?_
    refine lv_iload_n hx hb dX12_corner_15 rfl (lv_at hl 2 rfl) ?_
    refine lv_iconst (v := 0) hx hb dX12_corner_16 (by decide) ?_
    refine lv_bipush (v := 100) hx hb dX12_corner_17 (by decide) ?_
    obtain ⟨r9, S_7, hq8, hm⟩ := cb_some hm
    refine pw_cz (va_runS (As := [.int x2, .int 0, .int 100]) (rest := [.ref a0]) ⟨hx, hb, hml, hown, hU⟩ (c_X12_within l C X n S_1 hw.wf _ x2 0 100  r9 S_7 hq8) ⟨callB_of 3 hU (pq_g1 tc_X12_within) rfl rfl rfl (hU _ tw14) (hU _ tw1776) cd_X12_within.2 ⟨Nat.le_of_ble_eq_true rfl, Nat.le_of_ble_eq_true rfl⟩, hU _ tw1777⟩ (pw_preS hw) rfl rfl hl.1 rfl (lv_room (Nat.le_of_ble_eq_true rfl)) dX12_corner_19 ⟨Nat.zero_le _, Nat.zero_le _⟩) hw (fun H locs hw hx10 hz11 => ?_)
    have Ta0 : TY S_7 a0 12 := ty_ext hx10 Ta0
    have hE : Ext S0 S_7 := Ext.tr hE hx10
    refine lv_iconst (v := 2) hx hb dX12_corner_22 (by decide) ?_
    refine lv_iconst (v := 1) hx hb dX12_corner_23 (by decide) ?_
    obtain ⟨r14, S_12, hq13, hm⟩ := cb_some hm
    refine pw_cz (va_runV (As := [.int r9, .int 2, .int 1]) (rest := []) ⟨hx, hb, hml, hown, hU⟩ (c_X12_may l C X n S_7 hw.wf _ a0 r9 2 1 (Ta0) r14 S_12 hq13) (cwV 3 hU (pq_gV tw1703 tw1705 ts123 tw14 tc_X12_may) rfl rfl rfl cd_X12_may ⟨Nat.le_of_ble_eq_true rfl, Nat.le_of_ble_eq_true rfl⟩) (pw_preV hw Ta0 (by decide) rfl) rfl rfl hl.1 rfl (lv_room (Nat.le_of_ble_eq_true rfl)) dX12_corner_24 ⟨Nat.zero_le _, Nat.zero_le _⟩) hw (fun H locs hw hx15 hz16 => ?_)
    have Ta0 : TY S_12 a0 12 := ty_ext hx15 Ta0
    have hE : Ext S0 S_12 := Ext.tr hE hx15
    refine lv_if_ne (tgt := 32) hx hb dX12_corner_27 (by decide) (fun h17 => ?_) (fun h17 => ?_)
    · rw [if_neg h17] at hm
      refine lv_aload_n hx hb dX12_corner_32 rfl (lv_at hl 0 rfl) ?_
      obtain ⟨S_18, hq19, hm⟩ := bd_some hm
      refine pw_cv (va_runV (As := []) (rest := []) ⟨hx, hb, hml, hown, hU⟩ (c_X12_take l C X n S_12 hw.wf _ a0 (Ta0) S_18 hq19) (cwV 0 hU (pq_gV tw1922 tw1924 ts161 tw14 tc_X12_take) rfl rfl rfl cd_X12_take ⟨Nat.le_of_ble_eq_true rfl, Nat.le_of_ble_eq_true rfl⟩) (pw_preV hw Ta0 (by decide) rfl) rfl rfl hl.1 rfl (lv_room (Nat.le_of_ble_eq_true rfl)) dX12_corner_33 ⟨Nat.zero_le _, Nat.zero_le _⟩) hw (fun H locs hw hx20 => ?_)
      have Ta0 : TY S_18 a0 12 := ty_ext hx20 Ta0
      have hE : Ext S0 S_18 := Ext.tr hE hx20
      refine lv_iconst (v := 0) hx hb dX12_corner_36 (by decide) ?_
      refine lv_istore_n (lv' := [(3, .int 0), (0, .ref a0), (1, .int x1), (2, .int x2)]) hx hb dX12_corner_37 rfl hl (by decide) rfl (fun ls hl => ?_)
      exact wb_X12_corner_38 cx C X S0 n r S1 n a0 x1 x2 0 S_18 _ _ _ hw hE Ta0 (lv_sub hl [1, 2, 3, 0] rfl) hm
    · rw [if_pos h17] at hm
      refine lv_iconst (v := 0) hx hb dX12_corner_30 (by decide) ?_
      cases hm
      exact pw_iret hx hb hr rfl hlk hw hE dX12_corner_31
abbrev rm_X12_isOption : Room := { frames := 1, cells := 0, slots := 0, locals := 23 }
def b_X12_isOption_76 (n : Nat) (a0 : Nat) (x2 : Int32) (x3 : Int32) (x4 : Int32) (x5 : Int32) (b0 : Nat) (z1 : Int32) (S : pq_S) : Option (Int32 × pq_S) := cb (m_X12_may n b0 z1 1 1 S) fun r40 S_38 => if r40 = 0 then some (0, S_38) else some (1, (sI (sI (sI (sI S_38 1255 a0 x2) 1256 a0 x3) 1257 a0 x4) 1258 a0 x5))
set_option maxHeartbeats 4000000 in
set_option maxRecDepth 100000 in
theorem wb_X12_isOption_76 {p : Program} {l : Launch} {e : Env} {s : State} {m : MethodId} {args : Array Value} {below : List Frame} {meth : Method} {c : Code} (cx : Cx p s m args meth c cX12_isOption 8 RX12 (some .boolean)) (C : pq_C) (X : va_W) (S0 : pq_S) (n : Nat) (r : Int32) (S1 : pq_S) : ∀ (a0 : Nat) (x2 : Int32) (x3 : Int32) (x4 : Int32) (x5 : Int32) (b0 : Nat) (z1 : Int32) (S : pq_S) (H : Heap) (locs : List Loc) (ls : Array Slot), PW C X S (pq_F C X S0 s.heap.size) H locs s → Ext S0 S → TY S a0 12 → TY S b0 12 → lv_has ls 8 [(0, .ref a0), (2, .int x2), (3, .int x3), (4, .int x4), (5, .int x5)] → b_X12_isOption_76 n a0 x2 x3 x4 x5 b0 z1 S = some (r, S1) → W p l e rm_X12_isOption s m args below meth c H locs 0 0 (MQ below (QcZ C X S0 s.heap.size r S1) args s 0 0 (pq_F C X S0 s.heap.size)) (F0 m 76 ls [.int z1, .ref b0]) := by
  obtain ⟨hx, hb, hml, hown, hU, hr, hlk⟩ := id cx
  intro a0 x2 x3 x4 x5 b0 z1 S H locs ls hw hE Ta0 Tb0 hl hm
  rw [b_X12_isOption_76] at hm
  refine lv_iconst (v := 1) hx hb dX12_isOption_76 (by decide) ?_
  refine lv_iconst (v := 1) hx hb dX12_isOption_77 (by decide) ?_
  obtain ⟨r40, S_38, hq39, hm⟩ := cb_some hm
  refine pw_cz (va_runV (As := [.int z1, .int 1, .int 1]) (rest := []) ⟨hx, hb, hml, hown, hU⟩ (c_X12_may l C X n S hw.wf _ b0 z1 1 1 (Tb0) r40 S_38 hq39) (cwV 3 hU (pq_gV tw1703 tw1705 ts123 tw14 tc_X12_may) rfl rfl rfl cd_X12_may ⟨Nat.le_of_ble_eq_true rfl, Nat.le_of_ble_eq_true rfl⟩) (pw_preV hw Tb0 (by decide) rfl) rfl rfl hl.1 rfl (lv_room (Nat.le_of_ble_eq_true rfl)) dX12_isOption_78 ⟨Nat.zero_le _, Nat.zero_le _⟩) hw (fun H locs hw hx41 hz42 => ?_)
  have Ta0 : TY S_38 a0 12 := ty_ext hx41 Ta0
  have hE : Ext S0 S_38 := Ext.tr hE hx41
  refine lv_if_ne (tgt := 86) hx hb dX12_isOption_81 (by decide) (fun h43 => ?_) (fun h43 => ?_)
  · rw [if_neg h43] at hm
    refine lv_aload_n hx hb dX12_isOption_86 rfl (lv_at hl 0 rfl) ?_
    refine lv_iload_n hx hb dX12_isOption_87 rfl (lv_at hl 1 rfl) ?_
    refine pp_i (k := 12) (j := 55) (f := 1255) hx hb hown hU iu12 tyX12_ok nmX12 hw Ta0 (by decide) rfl (hU _ tw1526) rfl rfl rfl dX12_isOption_88 (fun H locs hw => ?_)
    refine lv_aload_n hx hb dX12_isOption_91 rfl (lv_at hl 0 rfl) ?_
    refine lv_iload_n hx hb dX12_isOption_92 rfl (lv_at hl 2 rfl) ?_
    refine pp_i (k := 12) (j := 56) (f := 1256) hx hb hown hU iu12 tyX12_ok nmX12 hw Ta0 (by decide) rfl (hU _ tw1527) rfl rfl rfl dX12_isOption_93 (fun H locs hw => ?_)
    refine lv_aload_n hx hb dX12_isOption_96 rfl (lv_at hl 0 rfl) ?_
    refine lv_iload hx hb dX12_isOption_97 (lv_at hl 3 rfl) ?_
    refine pp_i (k := 12) (j := 57) (f := 1257) hx hb hown hU iu12 tyX12_ok nmX12 hw Ta0 (by decide) rfl (hU _ tw1528) rfl rfl rfl dX12_isOption_99 (fun H locs hw => ?_)
    refine lv_aload_n hx hb dX12_isOption_102 rfl (lv_at hl 0 rfl) ?_
    refine lv_iload hx hb dX12_isOption_103 (lv_at hl 4 rfl) ?_
    refine pp_i (k := 12) (j := 58) (f := 1258) hx hb hown hU iu12 tyX12_ok nmX12 hw Ta0 (by decide) rfl (hU _ tw1529) rfl rfl rfl dX12_isOption_105 (fun H locs hw => ?_)
    refine lv_iconst (v := 1) hx hb dX12_isOption_108 (by decide) ?_
    cases hm
    exact pw_zret hx hb hr bz_1 hlk hw hE dX12_isOption_109
  · rw [if_pos h43] at hm
    refine lv_iconst (v := 0) hx hb dX12_isOption_84 (by decide) ?_
    cases hm
    exact pw_zret hx hb hr bz_0 hlk hw hE dX12_isOption_85
def b_X12_isOption_75 (n : Nat) (a0 : Nat) (x2 : Int32) (x3 : Int32) (x4 : Int32) (x5 : Int32) (b0 : Nat) (S : pq_S) : Option (Int32 × pq_S) := b_X12_isOption_76 n a0 x2 x3 x4 x5 b0 0 S
set_option maxHeartbeats 4000000 in
set_option maxRecDepth 100000 in
theorem wb_X12_isOption_75 {p : Program} {l : Launch} {e : Env} {s : State} {m : MethodId} {args : Array Value} {below : List Frame} {meth : Method} {c : Code} (cx : Cx p s m args meth c cX12_isOption 8 RX12 (some .boolean)) (C : pq_C) (X : va_W) (S0 : pq_S) (n : Nat) (r : Int32) (S1 : pq_S) : ∀ (a0 : Nat) (x2 : Int32) (x3 : Int32) (x4 : Int32) (x5 : Int32) (b0 : Nat) (S : pq_S) (H : Heap) (locs : List Loc) (ls : Array Slot), PW C X S (pq_F C X S0 s.heap.size) H locs s → Ext S0 S → TY S a0 12 → TY S b0 12 → lv_has ls 8 [(0, .ref a0), (2, .int x2), (3, .int x3), (4, .int x4), (5, .int x5)] → b_X12_isOption_75 n a0 x2 x3 x4 x5 b0 S = some (r, S1) → W p l e rm_X12_isOption s m args below meth c H locs 0 0 (MQ below (QcZ C X S0 s.heap.size r S1) args s 0 0 (pq_F C X S0 s.heap.size)) (F0 m 75 ls [.ref b0]) := by
  obtain ⟨hx, hb, hml, hown, hU, hr, hlk⟩ := id cx
  intro a0 x2 x3 x4 x5 b0 S H locs ls hw hE Ta0 Tb0 hl hm
  rw [b_X12_isOption_75] at hm
  refine lv_iconst (v := 0) hx hb dX12_isOption_75 (by decide) ?_
  exact wb_X12_isOption_76 cx C X S0 n r S1 a0 x2 x3 x4 x5 b0 0 S _ _ _ hw hE Ta0 Tb0 (lv_sub hl [0, 1, 2, 3, 4] rfl) hm
def m_X12_isOption (n : Nat) (a0 : Nat) (x1 : Int32) (x2 : Int32) (x3 : Int32) (x4 : Int32) (x5 : Int32) (x6 : Int32) (x7 : Int32) (S0 : pq_S) : Option (Int32 × pq_S) := cb (m_X12_within n x1 0 999 S0) fun r3 S_1 => if r3 = 0 then b_X12_isOption_75 n a0 x2 x3 x4 x5 a0 S_1 else cb (m_X12_within n x2 0 99 S_1) fun r9 S_7 => if r9 = 0 then b_X12_isOption_75 n a0 x2 x3 x4 x5 a0 S_7 else cb (m_X12_within n x3 0 99 S_7) fun r15 S_13 => if r15 = 0 then b_X12_isOption_75 n a0 x2 x3 x4 x5 a0 S_13 else cb (m_X12_within n x4 0 16 S_13) fun r21 S_19 => if r21 = 0 then b_X12_isOption_75 n a0 x2 x3 x4 x5 a0 S_19 else cb (m_X12_within n x5 0 999 S_19) fun r27 S_25 => if r27 = 0 then b_X12_isOption_75 n a0 x2 x3 x4 x5 a0 S_25 else cb (m_X12_within n x6 0 6 S_25) fun r33 S_31 => if r33 = 0 then b_X12_isOption_75 n a0 x2 x3 x4 x5 a0 S_31 else if x7 = 0 then b_X12_isOption_75 n a0 x2 x3 x4 x5 a0 S_31 else b_X12_isOption_76 n a0 x2 x3 x4 x5 a0 1 S_31
theorem tc_X12_isOption : Cond.code yX12_isOption cX12_isOption 8 (some .boolean) ∈ pq_U := tw1993
theorem cd_X12_isOption : yX12_isOption.cls = RX12 ∧ yX12_isOption.cls ≠ "java/lang/invoke/MethodHandle" ∧ yX12_isOption.cls ≠ "java/lang/invoke/VarHandle" ∧ (parseMethodDescriptor yX12_isOption.desc).map (fun d => d.parameters.length) = some 7 := by decide +kernel
set_option maxHeartbeats 4000000 in
set_option maxRecDepth 100000 in
theorem c_X12_isOption (l : Launch) (C : pq_C) (X : va_W) (n : Nat) (S0 : pq_S) (hF : WF S0) (sz : Nat) (a0 : Nat) (x1 : Int32) (x2 : Int32) (x3 : Int32) (x4 : Int32) (x5 : Int32) (x6 : Int32) (x7 : Int32) (Ta0 : TY S0 a0 12) (r : Int32) (S1 : pq_S) (hm : m_X12_isOption n a0 x1 x2 x3 x4 x5 x6 x7 S0 = some (r, S1)) : MZ l yX12_isOption (.code yX12_isOption cX12_isOption 8 (some .boolean) :: pq_U) rm_X12_isOption C X S0 sz [.ref a0, .int x1, .int x2, .int x3, .int x4, .int x5, .int x6, .int x7] r S1 0 0 := by
  refine Met.ofW (cc := cX12_isOption) (maxL := 8) (ret := (some .boolean)) (by decide) rfl ?_
  intro p e s m args below meth c s₁ B hml hv
  obtain ⟨rfl, hv⟩ := hv
  have hsz := hv.1
  subst hsz
  have hw := pw_entry hF hv
  have hts := atoms_spec (ws := .code yX12_isOption cX12_isOption 8 (some .boolean) :: pq_U) B.pre
  have hU : ∀ w ∈ pq_U, w.before _ s = true := fun w h => hts w (List.mem_cons_of_mem _ h)
  have hx := B.exec
  have hb := B.bytes
  have hr := B.returns
  have hown : s.vm.findClass RX12 = some m.cls := findClass_of_methodNamed B.named
  have hlk := B.notSynchronized
  have hl := lv_entry ([.ref a0, .int x1, .int x2, .int x3, .int x4, .int x5, .int x6, .int x7]) (n := 8) (Nat.le_of_ble_eq_true rfl)
  rw [lg_entry_eq]
  generalize (lg_sl ([.ref a0, .int x1, .int x2, .int x3, .int x4, .int x5, .int x6, .int x7]) ++ List.replicate (8 - (lg_sl ([.ref a0, .int x1, .int x2, .int x3, .int x4, .int x5, .int x6, .int x7])).length) Slot.unset).toArray = ls at hl ⊢
  have hl : lv_has ls 8 [(0, .ref a0), (1, .int x1), (2, .int x2), (3, .int x3), (4, .int x4), (5, .int x5), (6, .int x6), (7, .int x7)] := hl
  have hE : Ext S0 S0 := Ext.rf _
  have cx : Cx p s m _ meth c cX12_isOption 8 RX12 (some .boolean) := ⟨hx, hb, hml, hown, hU, hr, hlk⟩
  rw [m_X12_isOption] at hm
  refine lv_aload_n hx hb dX12_isOption_0 rfl (lv_at hl 0 rfl) ?_
  refine lv_iload_n hx hb dX12_isOption_1 rfl (lv_at hl 1 rfl) ?_
  refine lv_iconst (v := 0) hx hb dX12_isOption_2 (by decide) ?_
  refine lv_sipush (v := 999) hx hb dX12_isOption_3 (by decide) ?_
  obtain ⟨r3, S_1, hq2, hm⟩ := cb_some hm
  refine pw_cz (va_runS (As := [.int x1, .int 0, .int 999]) (rest := [.ref a0]) ⟨hx, hb, hml, hown, hU⟩ (c_X12_within l C X n S0 hw.wf _ x1 0 999  r3 S_1 hq2) ⟨callB_of 3 hU (pq_g1 tc_X12_within) rfl rfl rfl (hU _ tw14) (hU _ tw1776) cd_X12_within.2 ⟨Nat.le_of_ble_eq_true rfl, Nat.le_of_ble_eq_true rfl⟩, hU _ tw1777⟩ (pw_preS hw) rfl rfl hl.1 rfl (lv_room (Nat.le_of_ble_eq_true rfl)) dX12_isOption_6 ⟨Nat.zero_le _, Nat.zero_le _⟩) hw (fun H locs hw hx4 hz5 => ?_)
  have Ta0 : TY S_1 a0 12 := ty_ext hx4 Ta0
  have hE : Ext S0 S_1 := Ext.tr hE hx4
  refine lv_if_eq (tgt := 75) hx hb dX12_isOption_9 (by decide) (fun h6 => ?_) (fun h6 => ?_)
  · rw [if_pos h6] at hm
    exact wb_X12_isOption_75 cx C X S0 n r S1 a0 x2 x3 x4 x5 a0 S_1 _ _ _ hw hE Ta0 Ta0 (lv_sub hl [0, 2, 3, 4, 5] rfl) hm
  · rw [if_neg h6] at hm
    refine lv_iload_n hx hb dX12_isOption_12 rfl (lv_at hl 2 rfl) ?_
    refine lv_iconst (v := 0) hx hb dX12_isOption_13 (by decide) ?_
    refine lv_bipush (v := 99) hx hb dX12_isOption_14 (by decide) ?_
    obtain ⟨r9, S_7, hq8, hm⟩ := cb_some hm
    refine pw_cz (va_runS (As := [.int x2, .int 0, .int 99]) (rest := [.ref a0]) ⟨hx, hb, hml, hown, hU⟩ (c_X12_within l C X n S_1 hw.wf _ x2 0 99  r9 S_7 hq8) ⟨callB_of 3 hU (pq_g1 tc_X12_within) rfl rfl rfl (hU _ tw14) (hU _ tw1776) cd_X12_within.2 ⟨Nat.le_of_ble_eq_true rfl, Nat.le_of_ble_eq_true rfl⟩, hU _ tw1777⟩ (pw_preS hw) rfl rfl hl.1 rfl (lv_room (Nat.le_of_ble_eq_true rfl)) dX12_isOption_16 ⟨Nat.zero_le _, Nat.zero_le _⟩) hw (fun H locs hw hx10 hz11 => ?_)
    have Ta0 : TY S_7 a0 12 := ty_ext hx10 Ta0
    have hE : Ext S0 S_7 := Ext.tr hE hx10
    refine lv_if_eq (tgt := 75) hx hb dX12_isOption_19 (by decide) (fun h12 => ?_) (fun h12 => ?_)
    · rw [if_pos h12] at hm
      exact wb_X12_isOption_75 cx C X S0 n r S1 a0 x2 x3 x4 x5 a0 S_7 _ _ _ hw hE Ta0 Ta0 (lv_sub hl [0, 2, 3, 4, 5] rfl) hm
    · rw [if_neg h12] at hm
      refine lv_iload_n hx hb dX12_isOption_22 rfl (lv_at hl 3 rfl) ?_
      refine lv_iconst (v := 0) hx hb dX12_isOption_23 (by decide) ?_
      refine lv_bipush (v := 99) hx hb dX12_isOption_24 (by decide) ?_
      obtain ⟨r15, S_13, hq14, hm⟩ := cb_some hm
      refine pw_cz (va_runS (As := [.int x3, .int 0, .int 99]) (rest := [.ref a0]) ⟨hx, hb, hml, hown, hU⟩ (c_X12_within l C X n S_7 hw.wf _ x3 0 99  r15 S_13 hq14) ⟨callB_of 3 hU (pq_g1 tc_X12_within) rfl rfl rfl (hU _ tw14) (hU _ tw1776) cd_X12_within.2 ⟨Nat.le_of_ble_eq_true rfl, Nat.le_of_ble_eq_true rfl⟩, hU _ tw1777⟩ (pw_preS hw) rfl rfl hl.1 rfl (lv_room (Nat.le_of_ble_eq_true rfl)) dX12_isOption_26 ⟨Nat.zero_le _, Nat.zero_le _⟩) hw (fun H locs hw hx16 hz17 => ?_)
      have Ta0 : TY S_13 a0 12 := ty_ext hx16 Ta0
      have hE : Ext S0 S_13 := Ext.tr hE hx16
      refine lv_if_eq (tgt := 75) hx hb dX12_isOption_29 (by decide) (fun h18 => ?_) (fun h18 => ?_)
      · rw [if_pos h18] at hm
        exact wb_X12_isOption_75 cx C X S0 n r S1 a0 x2 x3 x4 x5 a0 S_13 _ _ _ hw hE Ta0 Ta0 (lv_sub hl [0, 2, 3, 4, 5] rfl) hm
      · rw [if_neg h18] at hm
        refine lv_iload hx hb dX12_isOption_32 (lv_at hl 4 rfl) ?_
        refine lv_iconst (v := 0) hx hb dX12_isOption_34 (by decide) ?_
        refine lv_bipush (v := 16) hx hb dX12_isOption_35 (by decide) ?_
        obtain ⟨r21, S_19, hq20, hm⟩ := cb_some hm
        refine pw_cz (va_runS (As := [.int x4, .int 0, .int 16]) (rest := [.ref a0]) ⟨hx, hb, hml, hown, hU⟩ (c_X12_within l C X n S_13 hw.wf _ x4 0 16  r21 S_19 hq20) ⟨callB_of 3 hU (pq_g1 tc_X12_within) rfl rfl rfl (hU _ tw14) (hU _ tw1776) cd_X12_within.2 ⟨Nat.le_of_ble_eq_true rfl, Nat.le_of_ble_eq_true rfl⟩, hU _ tw1777⟩ (pw_preS hw) rfl rfl hl.1 rfl (lv_room (Nat.le_of_ble_eq_true rfl)) dX12_isOption_37 ⟨Nat.zero_le _, Nat.zero_le _⟩) hw (fun H locs hw hx22 hz23 => ?_)
        have Ta0 : TY S_19 a0 12 := ty_ext hx22 Ta0
        have hE : Ext S0 S_19 := Ext.tr hE hx22
        refine lv_if_eq (tgt := 75) hx hb dX12_isOption_40 (by decide) (fun h24 => ?_) (fun h24 => ?_)
        · rw [if_pos h24] at hm
          exact wb_X12_isOption_75 cx C X S0 n r S1 a0 x2 x3 x4 x5 a0 S_19 _ _ _ hw hE Ta0 Ta0 (lv_sub hl [0, 2, 3, 4, 5] rfl) hm
        · rw [if_neg h24] at hm
          refine lv_iload hx hb dX12_isOption_43 (lv_at hl 5 rfl) ?_
          refine lv_iconst (v := 0) hx hb dX12_isOption_45 (by decide) ?_
          refine lv_sipush (v := 999) hx hb dX12_isOption_46 (by decide) ?_
          obtain ⟨r27, S_25, hq26, hm⟩ := cb_some hm
          refine pw_cz (va_runS (As := [.int x5, .int 0, .int 999]) (rest := [.ref a0]) ⟨hx, hb, hml, hown, hU⟩ (c_X12_within l C X n S_19 hw.wf _ x5 0 999  r27 S_25 hq26) ⟨callB_of 3 hU (pq_g1 tc_X12_within) rfl rfl rfl (hU _ tw14) (hU _ tw1776) cd_X12_within.2 ⟨Nat.le_of_ble_eq_true rfl, Nat.le_of_ble_eq_true rfl⟩, hU _ tw1777⟩ (pw_preS hw) rfl rfl hl.1 rfl (lv_room (Nat.le_of_ble_eq_true rfl)) dX12_isOption_49 ⟨Nat.zero_le _, Nat.zero_le _⟩) hw (fun H locs hw hx28 hz29 => ?_)
          have Ta0 : TY S_25 a0 12 := ty_ext hx28 Ta0
          have hE : Ext S0 S_25 := Ext.tr hE hx28
          refine lv_if_eq (tgt := 75) hx hb dX12_isOption_52 (by decide) (fun h30 => ?_) (fun h30 => ?_)
          · rw [if_pos h30] at hm
            exact wb_X12_isOption_75 cx C X S0 n r S1 a0 x2 x3 x4 x5 a0 S_25 _ _ _ hw hE Ta0 Ta0 (lv_sub hl [0, 2, 3, 4, 5] rfl) hm
          · rw [if_neg h30] at hm
            refine lv_iload hx hb dX12_isOption_55 (lv_at hl 6 rfl) ?_
            refine lv_iconst (v := 0) hx hb dX12_isOption_57 (by decide) ?_
            refine lv_bipush (v := 6) hx hb dX12_isOption_58 (by decide) ?_
            obtain ⟨r33, S_31, hq32, hm⟩ := cb_some hm
            refine pw_cz (va_runS (As := [.int x6, .int 0, .int 6]) (rest := [.ref a0]) ⟨hx, hb, hml, hown, hU⟩ (c_X12_within l C X n S_25 hw.wf _ x6 0 6  r33 S_31 hq32) ⟨callB_of 3 hU (pq_g1 tc_X12_within) rfl rfl rfl (hU _ tw14) (hU _ tw1776) cd_X12_within.2 ⟨Nat.le_of_ble_eq_true rfl, Nat.le_of_ble_eq_true rfl⟩, hU _ tw1777⟩ (pw_preS hw) rfl rfl hl.1 rfl (lv_room (Nat.le_of_ble_eq_true rfl)) dX12_isOption_60 ⟨Nat.zero_le _, Nat.zero_le _⟩) hw (fun H locs hw hx34 hz35 => ?_)
            have Ta0 : TY S_31 a0 12 := ty_ext hx34 Ta0
            have hE : Ext S0 S_31 := Ext.tr hE hx34
            refine lv_if_eq (tgt := 75) hx hb dX12_isOption_63 (by decide) (fun h36 => ?_) (fun h36 => ?_)
            · rw [if_pos h36] at hm
              exact wb_X12_isOption_75 cx C X S0 n r S1 a0 x2 x3 x4 x5 a0 S_31 _ _ _ hw hE Ta0 Ta0 (lv_sub hl [0, 2, 3, 4, 5] rfl) hm
            · rw [if_neg h36] at hm
              refine lv_iload hx hb dX12_isOption_66 (lv_at hl 7 rfl) ?_
              refine lv_if_eq (tgt := 75) hx hb dX12_isOption_68 (by decide) (fun h37 => ?_) (fun h37 => ?_)
              · rw [if_pos h37] at hm
                exact wb_X12_isOption_75 cx C X S0 n r S1 a0 x2 x3 x4 x5 a0 S_31 _ _ _ hw hE Ta0 Ta0 (lv_sub hl [0, 2, 3, 4, 5] rfl) hm
              · rw [if_neg h37] at hm
                refine lv_iconst (v := 1) hx hb dX12_isOption_71 (by decide) ?_
                refine lv_goto (tgt := 76) hx hb dX12_isOption_72 (by decide) ?_
                exact wb_X12_isOption_76 cx C X S0 n r S1 a0 x2 x3 x4 x5 a0 1 S_31 _ _ _ hw hE Ta0 Ta0 (lv_sub hl [0, 2, 3, 4, 5] rfl) hm
abbrev rm_X12_least : Room := { frames := 0, cells := 0, slots := 0, locals := 0 }
def b_X12_least_31 (n : Nat) (x0 : Int64) (x2 : Int64) (x4 : Int32) (x5 : Int64) (S : pq_S) : Option (Int64 × pq_S) := if x4 = 0 then ck (¬ x5 = 0) (dnj _) (some ((x0 / x5), S)) else ck (¬ x5 = 0) (dnj _) (some ((x2 / x5), S))
set_option maxHeartbeats 4000000 in
set_option maxRecDepth 100000 in
theorem wb_X12_least_31 {p : Program} {l : Launch} {e : Env} {s : State} {m : MethodId} {args : Array Value} {below : List Frame} {meth : Method} {c : Code} (cx : Cx p s m args meth c cX12_least 11 RX12 (some .long)) (C : pq_C) (X : va_W) (S0 : pq_S) (n : Nat) (r : Int64) (S1 : pq_S) : ∀ (x0 : Int64) (x2 : Int64) (x4 : Int32) (x5 : Int64) (S : pq_S) (H : Heap) (locs : List Loc) (ls : Array Slot), PW C X S (pq_F C X S0 s.heap.size) H locs s → Ext S0 S → lv_has ls 11 [(0, .long x0), (2, .long x2), (4, .int x4), (5, .long x5)] → b_X12_least_31 n x0 x2 x4 x5 S = some (r, S1) → W p l e rm_X12_least s m args below meth c H locs 0 0 (MQ below (QcJ C X S0 s.heap.size r S1) args s 0 0 (pq_F C X S0 s.heap.size)) (F0 m 31 ls []) := by
  obtain ⟨hx, hb, hml, hown, hU, hr, hlk⟩ := id cx
  intro x0 x2 x4 x5 S H locs ls hw hE hl hm
  rw [b_X12_least_31] at hm
  refine lv_iload hx hb dX12_least_31 (lv_at hl 2 rfl) ?_
  refine lv_if_ne (tgt := 40) hx hb dX12_least_33 (by decide) (fun h3 => ?_) (fun h3 => ?_)
  · rw [if_neg h3] at hm
    refine lv_lload_n hx hb dX12_least_40 rfl (lv_at hl 1 rfl) ?_
    refine lv_lload hx hb dX12_least_41 (lv_at hl 3 rfl) ?_
    obtain ⟨hn4, hm⟩ := ck_some hm
    refine lv_ldiv hx hb dX12_least_43 hn4 ?_
    cases hm
    exact pw_jret hx hb hr hlk hw hE dX12_least_44
  · rw [if_pos h3] at hm
    refine lv_lload_n hx hb dX12_least_36 rfl (lv_at hl 0 rfl) ?_
    refine lv_goto (tgt := 41) hx hb dX12_least_37 (by decide) ?_
    refine lv_lload hx hb dX12_least_41 (lv_at hl 3 rfl) ?_
    obtain ⟨hn5, hm⟩ := ck_some hm
    refine lv_ldiv hx hb dX12_least_43 hn5 ?_
    cases hm
    exact pw_jret hx hb hr hlk hw hE dX12_least_44
def b_X12_least_6 (n : Nat) : Nat → Int64 → Int64 → Int32 → Int64 → Int64 → pq_S → Option (Int64 × pq_S)
  | 0, _, _, _, _, _, _ => none
  | f + 1, x0, x2, x4, x5, x7, S => if (lg_cmp x7 0) = 0 then b_X12_least_31 n x0 x2 x4 x5 S else ck (¬ x7 = 0) (dnj _) (b_X12_least_6 n f x0 x2 x4 x7 (x5 - x5 / x7 * x7) S)
set_option maxHeartbeats 4000000 in
set_option maxRecDepth 100000 in
theorem wb_X12_least_6 {p : Program} {l : Launch} {e : Env} {s : State} {m : MethodId} {args : Array Value} {below : List Frame} {meth : Method} {c : Code} (cx : Cx p s m args meth c cX12_least 11 RX12 (some .long)) (C : pq_C) (X : va_W) (S0 : pq_S) (n : Nat) (r : Int64) (S1 : pq_S) : ∀ (f : Nat) (x0 : Int64) (x2 : Int64) (x4 : Int32) (x5 : Int64) (x7 : Int64) (S : pq_S) (H : Heap) (locs : List Loc) (ls : Array Slot), PW C X S (pq_F C X S0 s.heap.size) H locs s → Ext S0 S → lv_has ls 11 [(0, .long x0), (2, .long x2), (4, .int x4), (5, .long x5), (7, .long x7)] → b_X12_least_6 n f x0 x2 x4 x5 x7 S = some (r, S1) → W p l e rm_X12_least s m args below meth c H locs 0 0 (MQ below (QcJ C X S0 s.heap.size r S1) args s 0 0 (pq_F C X S0 s.heap.size)) (F0 m 6 ls []) := by
  obtain ⟨hx, hb, hml, hown, hU, hr, hlk⟩ := id cx
  intro f
  induction f with
  | zero =>
    intro x0 x2 x4 x5 x7 S H locs ls hw hE hl hm
    cases hm
  | succ f ih =>
    intro x0 x2 x4 x5 x7 S H locs ls hw hE hl hm
    rw [b_X12_least_6] at hm
    refine lv_lload hx hb dX12_least_6 (lv_at hl 4 rfl) ?_
    refine lv_lconst (v := 0) hx hb dX12_least_8 (by decide) ?_
    refine W.lcmp hx hb dX12_least_9 ?_
    refine lv_if_eq (tgt := 31) hx hb dX12_least_10 (by decide) (fun h1 => ?_) (fun h1 => ?_)
    · rw [if_pos h1] at hm
      exact wb_X12_least_31 cx C X S0 n r S1 x0 x2 x4 x5 S _ _ _ hw hE  (lv_sub hl [0, 1, 2, 3] rfl) hm
    · rw [if_neg h1] at hm
      refine lv_lload hx hb dX12_least_13 (lv_at hl 3 rfl) ?_
      refine lv_lload hx hb dX12_least_15 (lv_at hl 4 rfl) ?_
      obtain ⟨hn2, hm⟩ := ck_some hm
      refine lv_lrem hx hb dX12_least_17 hn2 ?_
      refine lv_lstore (lv' := [(9, .long (x5 - x5 / x7 * x7)), (0, .long x0), (2, .long x2), (4, .int x4), (5, .long x5), (7, .long x7)]) hx hb dX12_least_18 hl (by decide) rfl (fun ls hl => ?_)
      refine lv_lload hx hb dX12_least_20 (lv_at hl 5 rfl) ?_
      refine lv_lstore (lv' := [(5, .long x7), (9, .long (x5 - x5 / x7 * x7)), (0, .long x0), (2, .long x2), (4, .int x4), (7, .long x7)]) hx hb dX12_least_22 hl (by decide) rfl (fun ls hl => ?_)
      refine lv_lload hx hb dX12_least_24 (lv_at hl 1 rfl) ?_
      refine lv_lstore (lv' := [(7, .long (x5 - x5 / x7 * x7)), (5, .long x7), (9, .long (x5 - x5 / x7 * x7)), (0, .long x0), (2, .long x2), (4, .int x4)]) hx hb dX12_least_26 hl (by decide) rfl (fun ls hl => ?_)
      refine lv_goto (tgt := 6) hx hb dX12_least_28 (by decide) ?_
      exact ih x0 x2 x4 x7 (x5 - x5 / x7 * x7) S _ _ _ hw hE  (lv_sub hl [3, 4, 5, 1, 0] rfl) hm
def m_X12_least (n : Nat) (x0 : Int64) (x2 : Int64) (x4 : Int32) (S0 : pq_S) : Option (Int64 × pq_S) := b_X12_least_6 n n x0 x2 x4 x0 x2 S0
theorem tc_X12_least : Cond.code yX12_least cX12_least 11 (some .long) ∈ pq_U := tw2000
theorem cd_X12_least : yX12_least.cls = RX12 ∧ yX12_least.cls ≠ "java/lang/invoke/MethodHandle" ∧ yX12_least.cls ≠ "java/lang/invoke/VarHandle" ∧ (parseMethodDescriptor yX12_least.desc).map (fun d => d.parameters.length) = some 3 := by decide +kernel
set_option maxHeartbeats 4000000 in
set_option maxRecDepth 100000 in
theorem c_X12_least (l : Launch) (C : pq_C) (X : va_W) (n : Nat) (S0 : pq_S) (hF : WF S0) (sz : Nat) (x0 : Int64) (x2 : Int64) (x4 : Int32)  (r : Int64) (S1 : pq_S) (hm : m_X12_least n x0 x2 x4 S0 = some (r, S1)) : MJ l yX12_least (.code yX12_least cX12_least 11 (some .long) :: pq_U) rm_X12_least C X S0 sz [.long x0, .long x2, .int x4] r S1 0 0 := by
  refine Met.ofW (cc := cX12_least) (maxL := 11) (ret := (some .long)) (by decide) rfl ?_
  intro p e s m args below meth c s₁ B hml hv
  obtain ⟨rfl, hv⟩ := hv
  have hsz := hv.1
  subst hsz
  have hw := pw_entry hF hv
  have hts := atoms_spec (ws := .code yX12_least cX12_least 11 (some .long) :: pq_U) B.pre
  have hU : ∀ w ∈ pq_U, w.before _ s = true := fun w h => hts w (List.mem_cons_of_mem _ h)
  have hx := B.exec
  have hb := B.bytes
  have hr := B.returns
  have hown : s.vm.findClass RX12 = some m.cls := findClass_of_methodNamed B.named
  have hlk := B.notSynchronized
  have hl := lv_entry ([.long x0, .long x2, .int x4]) (n := 11) (Nat.le_of_ble_eq_true rfl)
  rw [lg_entry_eq]
  generalize (lg_sl ([.long x0, .long x2, .int x4]) ++ List.replicate (11 - (lg_sl ([.long x0, .long x2, .int x4])).length) Slot.unset).toArray = ls at hl ⊢
  have hl : lv_has ls 11 [(0, .long x0), (2, .long x2), (4, .int x4)] := hl
  have hE : Ext S0 S0 := Ext.rf _
  have cx : Cx p s m _ meth c cX12_least 11 RX12 (some .long) := ⟨hx, hb, hml, hown, hU, hr, hlk⟩
  rw [m_X12_least] at hm
  refine lv_lload_n hx hb dX12_least_0 rfl (lv_at hl 0 rfl) ?_
  refine lv_lstore (lv' := [(5, .long x0), (0, .long x0), (2, .long x2), (4, .int x4)]) hx hb dX12_least_1 hl (by decide) rfl (fun ls hl => ?_)
  refine lv_lload_n hx hb dX12_least_3 rfl (lv_at hl 2 rfl) ?_
  refine lv_lstore (lv' := [(7, .long x2), (5, .long x0), (0, .long x0), (2, .long x2), (4, .int x4)]) hx hb dX12_least_4 hl (by decide) rfl (fun ls hl => ?_)
  exact wb_X12_least_6 cx C X S0 n r S1 n x0 x2 x4 x0 x2 S0 _ _ _ hw hE  (lv_sub hl [2, 3, 4, 1, 0] rfl) hm
abbrev rm_X12_looks : Room := { frames := 1, cells := 0, slots := 0, locals := 23 }
def b_X12_looks_191 (n : Nat) (k40 : Nat → Int32 → Int32 → Int32 → Int32 → pq_S → Option (Int32 × pq_S)) (a0 : Nat) (x1 : Int32) (x2 : Int32) (x3 : Int32) (x4 : Int32) (S : pq_S) : Option (Int32 × pq_S) := k40 a0 x1 x2 x3 (x4 + 1) S
set_option maxHeartbeats 4000000 in
set_option maxRecDepth 100000 in
theorem wb_X12_looks_191 {p : Program} {l : Launch} {e : Env} {s : State} {m : MethodId} {args : Array Value} {below : List Frame} {meth : Method} {c : Code} (cx : Cx p s m args meth c cX12_looks 7 RX12 (some .int)) (C : pq_C) (X : va_W) (S0 : pq_S) (n : Nat) (r : Int32) (S1 : pq_S) (k40 : Nat → Int32 → Int32 → Int32 → Int32 → pq_S → Option (Int32 × pq_S)) (hk40 : ∀ (a0 : Nat) (x1 : Int32) (x2 : Int32) (x3 : Int32) (x4 : Int32) (S : pq_S) (H : Heap) (locs : List Loc) (ls : Array Slot), PW C X S (pq_F C X S0 s.heap.size) H locs s → Ext S0 S → TY S a0 12 → lv_has ls 7 [(0, .ref a0), (1, .int x1), (2, .int x2), (3, .int x3), (4, .int x4)] → k40 a0 x1 x2 x3 x4 S = some (r, S1) → W p l e rm_X12_looks s m args below meth c H locs 0 0 (MQ below (QcI C X S0 s.heap.size r S1) args s 0 0 (pq_F C X S0 s.heap.size)) (F0 m 67 ls [])) : ∀ (a0 : Nat) (x1 : Int32) (x2 : Int32) (x3 : Int32) (x4 : Int32) (S : pq_S) (H : Heap) (locs : List Loc) (ls : Array Slot), PW C X S (pq_F C X S0 s.heap.size) H locs s → Ext S0 S → TY S a0 12 → lv_has ls 7 [(0, .ref a0), (1, .int x1), (2, .int x2), (3, .int x3), (4, .int x4)] → b_X12_looks_191 n k40 a0 x1 x2 x3 x4 S = some (r, S1) → W p l e rm_X12_looks s m args below meth c H locs 0 0 (MQ below (QcI C X S0 s.heap.size r S1) args s 0 0 (pq_F C X S0 s.heap.size)) (F0 m 191 ls []) := by
  obtain ⟨hx, hb, hml, hown, hU, hr, hlk⟩ := id cx
  intro a0 x1 x2 x3 x4 S H locs ls hw hE Ta0 hl hm
  rw [b_X12_looks_191] at hm
  refine lv_iinc (v := (x4 + 1)) (lv' := [(4, .int (x4 + 1)), (0, .ref a0), (1, .int x1), (2, .int x2), (3, .int x3)]) hx hb dX12_looks_191 hl (k := 4) rfl rfl (by decide) rfl (fun ls hl => ?_)
  refine lv_goto (tgt := 67) hx hb dX12_looks_194 (by decide) ?_
  exact hk40 a0 x1 x2 x3 (x4 + 1) S _ _ _ hw hE Ta0 (lv_sub hl [1, 2, 3, 4, 0] rfl) hm
def b_X12_looks_185 (n : Nat) (k40 : Nat → Int32 → Int32 → Int32 → Int32 → pq_S → Option (Int32 × pq_S)) (k50 : Nat → Int32 → Int32 → Int32 → Int32 → Int32 → pq_S → Option (Int32 × pq_S)) (a0 : Nat) (x1 : Int32) (x2 : Int32) (x3 : Int32) (x4 : Int32) (x5 : Int32) (S : pq_S) : Option (Int32 × pq_S) := k50 a0 x1 x2 x3 x4 (x5 + 1) S
set_option maxHeartbeats 4000000 in
set_option maxRecDepth 100000 in
theorem wb_X12_looks_185 {p : Program} {l : Launch} {e : Env} {s : State} {m : MethodId} {args : Array Value} {below : List Frame} {meth : Method} {c : Code} (cx : Cx p s m args meth c cX12_looks 7 RX12 (some .int)) (C : pq_C) (X : va_W) (S0 : pq_S) (n : Nat) (r : Int32) (S1 : pq_S) (k40 : Nat → Int32 → Int32 → Int32 → Int32 → pq_S → Option (Int32 × pq_S)) (hk40 : ∀ (a0 : Nat) (x1 : Int32) (x2 : Int32) (x3 : Int32) (x4 : Int32) (S : pq_S) (H : Heap) (locs : List Loc) (ls : Array Slot), PW C X S (pq_F C X S0 s.heap.size) H locs s → Ext S0 S → TY S a0 12 → lv_has ls 7 [(0, .ref a0), (1, .int x1), (2, .int x2), (3, .int x3), (4, .int x4)] → k40 a0 x1 x2 x3 x4 S = some (r, S1) → W p l e rm_X12_looks s m args below meth c H locs 0 0 (MQ below (QcI C X S0 s.heap.size r S1) args s 0 0 (pq_F C X S0 s.heap.size)) (F0 m 67 ls [])) (k50 : Nat → Int32 → Int32 → Int32 → Int32 → Int32 → pq_S → Option (Int32 × pq_S)) (hk50 : ∀ (a0 : Nat) (x1 : Int32) (x2 : Int32) (x3 : Int32) (x4 : Int32) (x5 : Int32) (S : pq_S) (H : Heap) (locs : List Loc) (ls : Array Slot), PW C X S (pq_F C X S0 s.heap.size) H locs s → Ext S0 S → TY S a0 12 → lv_has ls 7 [(0, .ref a0), (1, .int x1), (2, .int x2), (3, .int x3), (4, .int x4), (5, .int x5)] → k50 a0 x1 x2 x3 x4 x5 S = some (r, S1) → W p l e rm_X12_looks s m args below meth c H locs 0 0 (MQ below (QcI C X S0 s.heap.size r S1) args s 0 0 (pq_F C X S0 s.heap.size)) (F0 m 84 ls [])) : ∀ (a0 : Nat) (x1 : Int32) (x2 : Int32) (x3 : Int32) (x4 : Int32) (x5 : Int32) (S : pq_S) (H : Heap) (locs : List Loc) (ls : Array Slot), PW C X S (pq_F C X S0 s.heap.size) H locs s → Ext S0 S → TY S a0 12 → lv_has ls 7 [(0, .ref a0), (1, .int x1), (2, .int x2), (3, .int x3), (4, .int x4), (5, .int x5)] → b_X12_looks_185 n k40 k50 a0 x1 x2 x3 x4 x5 S = some (r, S1) → W p l e rm_X12_looks s m args below meth c H locs 0 0 (MQ below (QcI C X S0 s.heap.size r S1) args s 0 0 (pq_F C X S0 s.heap.size)) (F0 m 185 ls []) := by
  obtain ⟨hx, hb, hml, hown, hU, hr, hlk⟩ := id cx
  intro a0 x1 x2 x3 x4 x5 S H locs ls hw hE Ta0 hl hm
  rw [b_X12_looks_185] at hm
  refine lv_iinc (v := (x5 + 1)) (lv' := [(5, .int (x5 + 1)), (0, .ref a0), (1, .int x1), (2, .int x2), (3, .int x3), (4, .int x4)]) hx hb dX12_looks_185 hl (k := 5) rfl rfl (by decide) rfl (fun ls hl => ?_)
  refine lv_goto (tgt := 84) hx hb dX12_looks_188 (by decide) ?_
  exact hk50 a0 x1 x2 x3 x4 (x5 + 1) S _ _ _ hw hE Ta0 (lv_sub hl [1, 2, 3, 4, 5, 0] rfl) hm
def b_X12_looks_167 (n : Nat) (k40 : Nat → Int32 → Int32 → Int32 → Int32 → pq_S → Option (Int32 × pq_S)) (k50 : Nat → Int32 → Int32 → Int32 → Int32 → Int32 → pq_S → Option (Int32 × pq_S)) (a0 : Nat) (x1 : Int32) (x2 : Int32) (x3 : Int32) (x4 : Int32) (x5 : Int32) (x6 : Int32) (S : pq_S) : Option (Int32 × pq_S) := Option.bind (pR S 1262 a0) fun q50 => ck (ix x4 (pN S q50)) (dix _ _) (Option.bind (pR (sA S q50 (Int32.toNatClampNeg x4) x6) 1263 a0) fun q52 => ck (ix x4 (pN (sA S q50 (Int32.toNatClampNeg x4) x6) q52)) (dix _ _) (lt_ (sA (sA S q50 (Int32.toNatClampNeg x4) x6) q52 (Int32.toNatClampNeg x4) x5) fun S_54 => b_X12_looks_185 n k40 k50 a0 x1 x2 x3 x4 x5 S_54))
set_option maxHeartbeats 4000000 in
set_option maxRecDepth 100000 in
theorem wb_X12_looks_167 {p : Program} {l : Launch} {e : Env} {s : State} {m : MethodId} {args : Array Value} {below : List Frame} {meth : Method} {c : Code} (cx : Cx p s m args meth c cX12_looks 7 RX12 (some .int)) (C : pq_C) (X : va_W) (S0 : pq_S) (n : Nat) (r : Int32) (S1 : pq_S) (k40 : Nat → Int32 → Int32 → Int32 → Int32 → pq_S → Option (Int32 × pq_S)) (hk40 : ∀ (a0 : Nat) (x1 : Int32) (x2 : Int32) (x3 : Int32) (x4 : Int32) (S : pq_S) (H : Heap) (locs : List Loc) (ls : Array Slot), PW C X S (pq_F C X S0 s.heap.size) H locs s → Ext S0 S → TY S a0 12 → lv_has ls 7 [(0, .ref a0), (1, .int x1), (2, .int x2), (3, .int x3), (4, .int x4)] → k40 a0 x1 x2 x3 x4 S = some (r, S1) → W p l e rm_X12_looks s m args below meth c H locs 0 0 (MQ below (QcI C X S0 s.heap.size r S1) args s 0 0 (pq_F C X S0 s.heap.size)) (F0 m 67 ls [])) (k50 : Nat → Int32 → Int32 → Int32 → Int32 → Int32 → pq_S → Option (Int32 × pq_S)) (hk50 : ∀ (a0 : Nat) (x1 : Int32) (x2 : Int32) (x3 : Int32) (x4 : Int32) (x5 : Int32) (S : pq_S) (H : Heap) (locs : List Loc) (ls : Array Slot), PW C X S (pq_F C X S0 s.heap.size) H locs s → Ext S0 S → TY S a0 12 → lv_has ls 7 [(0, .ref a0), (1, .int x1), (2, .int x2), (3, .int x3), (4, .int x4), (5, .int x5)] → k50 a0 x1 x2 x3 x4 x5 S = some (r, S1) → W p l e rm_X12_looks s m args below meth c H locs 0 0 (MQ below (QcI C X S0 s.heap.size r S1) args s 0 0 (pq_F C X S0 s.heap.size)) (F0 m 84 ls [])) : ∀ (a0 : Nat) (x1 : Int32) (x2 : Int32) (x3 : Int32) (x4 : Int32) (x5 : Int32) (x6 : Int32) (S : pq_S) (H : Heap) (locs : List Loc) (ls : Array Slot), PW C X S (pq_F C X S0 s.heap.size) H locs s → Ext S0 S → TY S a0 12 → lv_has ls 7 [(0, .ref a0), (1, .int x1), (2, .int x2), (3, .int x3), (4, .int x4), (5, .int x5), (6, .int x6)] → b_X12_looks_167 n k40 k50 a0 x1 x2 x3 x4 x5 x6 S = some (r, S1) → W p l e rm_X12_looks s m args below meth c H locs 0 0 (MQ below (QcI C X S0 s.heap.size r S1) args s 0 0 (pq_F C X S0 s.heap.size)) (F0 m 167 ls []) := by
  obtain ⟨hx, hb, hml, hown, hU, hr, hlk⟩ := id cx
  intro a0 x1 x2 x3 x4 x5 x6 S H locs ls hw hE Ta0 hl hm
  rw [b_X12_looks_167] at hm
  refine lv_aload_n hx hb dX12_looks_167 rfl (lv_at hl 0 rfl) ?_
  obtain ⟨q50, hq50, hm⟩ := bd_some hm
  have Tq50 : TY S q50 14 := hw.wf.ref (k := 12) (j := 62) Ta0 (by decide) (by decide) hq50
  refine pg_rb (k := 12) (j := 62) (f := 1262) hx hb hown hU iu12 hw Ta0 (by decide) rfl (hU _ tw1533) rfl hq50 dX12_looks_168 ?_
  refine lv_iload hx hb dX12_looks_171 (lv_at hl 4 rfl) ?_
  refine lv_iload hx hb dX12_looks_173 (lv_at hl 6 rfl) ?_
  obtain ⟨hi51, hm⟩ := ck_some hm
  refine pw_iast hx hb hw Tq50 hi51 dX12_looks_175 (fun H locs hw => ?_)
  refine lv_aload_n hx hb dX12_looks_176 rfl (lv_at hl 0 rfl) ?_
  obtain ⟨q52, hq52, hm⟩ := bd_some hm
  have Tq52 : TY (sA S q50 (Int32.toNatClampNeg x4) x6) q52 14 := hw.wf.ref (k := 12) (j := 63) Ta0 (by decide) (by decide) hq52
  refine pg_rb (k := 12) (j := 63) (f := 1263) hx hb hown hU iu12 hw Ta0 (by decide) rfl (hU _ tw1534) rfl hq52 dX12_looks_177 ?_
  refine lv_iload hx hb dX12_looks_180 (lv_at hl 4 rfl) ?_
  refine lv_iload hx hb dX12_looks_182 (lv_at hl 5 rfl) ?_
  obtain ⟨hi53, hm⟩ := ck_some hm
  refine pw_iast hx hb hw Tq52 hi53 dX12_looks_184 (fun H locs hw => ?_)
  obtain ⟨S_54, eS_54, hm⟩ := lt_some hm
  rw [← eS_54] at hw
  have Ta0 : TY S_54 a0 12 := by rw [eS_54]; exact Ta0
  have hE : Ext S0 S_54 := by rw [eS_54]; exact hE
  exact wb_X12_looks_185 cx C X S0 n r S1 _ hk40 _ hk50 a0 x1 x2 x3 x4 x5 S_54 _ _ _ hw hE Ta0 (lv_sub hl [0, 1, 2, 3, 4, 5] rfl) hm
def b_X12_looks_138 (n : Nat) (k40 : Nat → Int32 → Int32 → Int32 → Int32 → pq_S → Option (Int32 × pq_S)) (k50 : Nat → Int32 → Int32 → Int32 → Int32 → Int32 → pq_S → Option (Int32 × pq_S)) (a0 : Nat) (x1 : Int32) (x2 : Int32) (x3 : Int32) (x4 : Int32) (x5 : Int32) (z0 : Int32) (z1 : Int32) (S : pq_S) : Option (Int32 × pq_S) := Option.bind (pR S 1262 a0) fun q44 => ck (ix x4 (pN S q44)) (dix _ _) (if (pA S q44 (Int32.toNatClampNeg x4)) = (-1) then b_X12_looks_167 n k40 k50 a0 x1 x2 x3 x4 x5 (z0 + z1) S else Option.bind (pR S 1262 a0) fun q47 => ck (ix x4 (pN S q47)) (dix _ _) (if (z0 + z1) < (pA S q47 (Int32.toNatClampNeg x4)) then b_X12_looks_167 n k40 k50 a0 x1 x2 x3 x4 x5 (z0 + z1) S else b_X12_looks_185 n k40 k50 a0 x1 x2 x3 x4 x5 S))
set_option maxHeartbeats 4000000 in
set_option maxRecDepth 100000 in
theorem wb_X12_looks_138 {p : Program} {l : Launch} {e : Env} {s : State} {m : MethodId} {args : Array Value} {below : List Frame} {meth : Method} {c : Code} (cx : Cx p s m args meth c cX12_looks 7 RX12 (some .int)) (C : pq_C) (X : va_W) (S0 : pq_S) (n : Nat) (r : Int32) (S1 : pq_S) (k40 : Nat → Int32 → Int32 → Int32 → Int32 → pq_S → Option (Int32 × pq_S)) (hk40 : ∀ (a0 : Nat) (x1 : Int32) (x2 : Int32) (x3 : Int32) (x4 : Int32) (S : pq_S) (H : Heap) (locs : List Loc) (ls : Array Slot), PW C X S (pq_F C X S0 s.heap.size) H locs s → Ext S0 S → TY S a0 12 → lv_has ls 7 [(0, .ref a0), (1, .int x1), (2, .int x2), (3, .int x3), (4, .int x4)] → k40 a0 x1 x2 x3 x4 S = some (r, S1) → W p l e rm_X12_looks s m args below meth c H locs 0 0 (MQ below (QcI C X S0 s.heap.size r S1) args s 0 0 (pq_F C X S0 s.heap.size)) (F0 m 67 ls [])) (k50 : Nat → Int32 → Int32 → Int32 → Int32 → Int32 → pq_S → Option (Int32 × pq_S)) (hk50 : ∀ (a0 : Nat) (x1 : Int32) (x2 : Int32) (x3 : Int32) (x4 : Int32) (x5 : Int32) (S : pq_S) (H : Heap) (locs : List Loc) (ls : Array Slot), PW C X S (pq_F C X S0 s.heap.size) H locs s → Ext S0 S → TY S a0 12 → lv_has ls 7 [(0, .ref a0), (1, .int x1), (2, .int x2), (3, .int x3), (4, .int x4), (5, .int x5)] → k50 a0 x1 x2 x3 x4 x5 S = some (r, S1) → W p l e rm_X12_looks s m args below meth c H locs 0 0 (MQ below (QcI C X S0 s.heap.size r S1) args s 0 0 (pq_F C X S0 s.heap.size)) (F0 m 84 ls [])) : ∀ (a0 : Nat) (x1 : Int32) (x2 : Int32) (x3 : Int32) (x4 : Int32) (x5 : Int32) (z0 : Int32) (z1 : Int32) (S : pq_S) (H : Heap) (locs : List Loc) (ls : Array Slot), PW C X S (pq_F C X S0 s.heap.size) H locs s → Ext S0 S → TY S a0 12 → lv_has ls 7 [(0, .ref a0), (1, .int x1), (2, .int x2), (3, .int x3), (4, .int x4), (5, .int x5)] → b_X12_looks_138 n k40 k50 a0 x1 x2 x3 x4 x5 z0 z1 S = some (r, S1) → W p l e rm_X12_looks s m args below meth c H locs 0 0 (MQ below (QcI C X S0 s.heap.size r S1) args s 0 0 (pq_F C X S0 s.heap.size)) (F0 m 138 ls [.int z1, .int z0]) := by
  obtain ⟨hx, hb, hml, hown, hU, hr, hlk⟩ := id cx
  intro a0 x1 x2 x3 x4 x5 z0 z1 S H locs ls hw hE Ta0 hl hm
  rw [b_X12_looks_138] at hm
  refine lv_iadd hx hb dX12_looks_138 ?_
  refine lv_istore (lv' := [(6, .int (z0 + z1)), (0, .ref a0), (1, .int x1), (2, .int x2), (3, .int x3), (4, .int x4), (5, .int x5)]) hx hb dX12_looks_139 hl (by decide) rfl (fun ls hl => ?_)
  refine lv_aload_n hx hb dX12_looks_141 rfl (lv_at hl 1 rfl) ?_
  obtain ⟨q44, hq44, hm⟩ := bd_some hm
  have Tq44 : TY S q44 14 := hw.wf.ref (k := 12) (j := 62) Ta0 (by decide) (by decide) hq44
  refine pg_rb (k := 12) (j := 62) (f := 1262) hx hb hown hU iu12 hw Ta0 (by decide) rfl (hU _ tw1533) rfl hq44 dX12_looks_142 ?_
  refine lv_iload hx hb dX12_looks_145 (lv_at hl 5 rfl) ?_
  obtain ⟨hi45, hm⟩ := ck_some hm
  refine pw_iald hx hb hw Tq44 hi45 dX12_looks_147 ?_
  refine lv_iconst (v := (-1)) hx hb dX12_looks_148 (by decide) ?_
  refine lv_icmp_eq (tgt := 167) hx hb dX12_looks_149 (by decide) (fun h46 => ?_) (fun h46 => ?_)
  · rw [if_pos h46] at hm
    exact wb_X12_looks_167 cx C X S0 n r S1 _ hk40 _ hk50 a0 x1 x2 x3 x4 x5 (z0 + z1) S _ _ _ hw hE Ta0 (lv_sub hl [1, 2, 3, 4, 5, 6, 0] rfl) hm
  · rw [if_neg h46] at hm
    refine lv_iload hx hb dX12_looks_152 (lv_at hl 0 rfl) ?_
    refine lv_aload_n hx hb dX12_looks_154 rfl (lv_at hl 1 rfl) ?_
    obtain ⟨q47, hq47, hm⟩ := bd_some hm
    have Tq47 : TY S q47 14 := hw.wf.ref (k := 12) (j := 62) Ta0 (by decide) (by decide) hq47
    refine pg_rb (k := 12) (j := 62) (f := 1262) hx hb hown hU iu12 hw Ta0 (by decide) rfl (hU _ tw1533) rfl hq47 dX12_looks_155 ?_
    refine lv_iload hx hb dX12_looks_158 (lv_at hl 5 rfl) ?_
    obtain ⟨hi48, hm⟩ := ck_some hm
    refine pw_iald hx hb hw Tq47 hi48 dX12_looks_160 ?_
    refine lv_icmp_lt (tgt := 167) hx hb dX12_looks_161 (by decide) (fun h49 => ?_) (fun h49 => ?_)
    · rw [if_pos h49] at hm
      exact wb_X12_looks_167 cx C X S0 n r S1 _ hk40 _ hk50 a0 x1 x2 x3 x4 x5 (z0 + z1) S _ _ _ hw hE Ta0 (lv_sub hl [1, 2, 3, 4, 5, 6, 0] rfl) hm
    · rw [if_neg h49] at hm
      refine lv_goto (tgt := 185) hx hb dX12_looks_164 (by decide) ?_
      exact wb_X12_looks_185 cx C X S0 n r S1 _ hk40 _ hk50 a0 x1 x2 x3 x4 x5 S _ _ _ hw hE Ta0 (lv_sub hl [1, 2, 3, 4, 5, 6] rfl) hm
def b_X12_looks_84 (n : Nat) (k40 : Nat → Int32 → Int32 → Int32 → Int32 → pq_S → Option (Int32 × pq_S)) : Nat → Nat → Int32 → Int32 → Int32 → Int32 → Int32 → pq_S → Option (Int32 × pq_S)
  | 0, _, _, _, _, _, _, _ => none
  | f + 1, a0, x1, x2, x3, x4, x5, S => if x2 < x5 then b_X12_looks_191 n k40 a0 x1 x2 x3 x4 S else if x4 ≤ x5 then b_X12_looks_191 n k40 a0 x1 x2 x3 x4 S else Option.bind (pR S 1262 a0) fun q35 => ck (ix x5 (pN S q35)) (dix _ _) (Option.bind (pR S 1262 a0) fun q37 => ck (ix (x4 - x5) (pN S q37)) (dix _ _) (if (pA S q35 (Int32.toNatClampNeg x5)) ≤ (pA S q37 (Int32.toNatClampNeg (x4 - x5))) then Option.bind (pR S 1262 a0) fun q40 => ck (ix (x4 - x5) (pN S q40)) (dix _ _) (b_X12_looks_138 n k40 (b_X12_looks_84 n k40 f) a0 x1 x2 x3 x4 x5 1 (pA S q40 (Int32.toNatClampNeg (x4 - x5))) S) else Option.bind (pR S 1262 a0) fun q42 => ck (ix x5 (pN S q42)) (dix _ _) (b_X12_looks_138 n k40 (b_X12_looks_84 n k40 f) a0 x1 x2 x3 x4 x5 1 (pA S q42 (Int32.toNatClampNeg x5)) S)))
set_option maxHeartbeats 4000000 in
set_option maxRecDepth 100000 in
theorem wb_X12_looks_84 {p : Program} {l : Launch} {e : Env} {s : State} {m : MethodId} {args : Array Value} {below : List Frame} {meth : Method} {c : Code} (cx : Cx p s m args meth c cX12_looks 7 RX12 (some .int)) (C : pq_C) (X : va_W) (S0 : pq_S) (n : Nat) (r : Int32) (S1 : pq_S) (k40 : Nat → Int32 → Int32 → Int32 → Int32 → pq_S → Option (Int32 × pq_S)) (hk40 : ∀ (a0 : Nat) (x1 : Int32) (x2 : Int32) (x3 : Int32) (x4 : Int32) (S : pq_S) (H : Heap) (locs : List Loc) (ls : Array Slot), PW C X S (pq_F C X S0 s.heap.size) H locs s → Ext S0 S → TY S a0 12 → lv_has ls 7 [(0, .ref a0), (1, .int x1), (2, .int x2), (3, .int x3), (4, .int x4)] → k40 a0 x1 x2 x3 x4 S = some (r, S1) → W p l e rm_X12_looks s m args below meth c H locs 0 0 (MQ below (QcI C X S0 s.heap.size r S1) args s 0 0 (pq_F C X S0 s.heap.size)) (F0 m 67 ls [])) : ∀ (f : Nat) (a0 : Nat) (x1 : Int32) (x2 : Int32) (x3 : Int32) (x4 : Int32) (x5 : Int32) (S : pq_S) (H : Heap) (locs : List Loc) (ls : Array Slot), PW C X S (pq_F C X S0 s.heap.size) H locs s → Ext S0 S → TY S a0 12 → lv_has ls 7 [(0, .ref a0), (1, .int x1), (2, .int x2), (3, .int x3), (4, .int x4), (5, .int x5)] → b_X12_looks_84 n k40 f a0 x1 x2 x3 x4 x5 S = some (r, S1) → W p l e rm_X12_looks s m args below meth c H locs 0 0 (MQ below (QcI C X S0 s.heap.size r S1) args s 0 0 (pq_F C X S0 s.heap.size)) (F0 m 84 ls []) := by
  obtain ⟨hx, hb, hml, hown, hU, hr, hlk⟩ := id cx
  intro f
  induction f with
  | zero =>
    intro a0 x1 x2 x3 x4 x5 S H locs ls hw hE Ta0 hl hm
    cases hm
  | succ f ih =>
    intro a0 x1 x2 x3 x4 x5 S H locs ls hw hE Ta0 hl hm
    rw [b_X12_looks_84] at hm
    refine lv_iload hx hb dX12_looks_84 (lv_at hl 5 rfl) ?_
    refine lv_iload_n hx hb dX12_looks_86 rfl (lv_at hl 2 rfl) ?_
    refine lv_icmp_gt (tgt := 191) hx hb dX12_looks_87 (by decide) (fun h33 => ?_) (fun h33 => ?_)
    · rw [if_pos h33] at hm
      exact wb_X12_looks_191 cx C X S0 n r S1 _ hk40 a0 x1 x2 x3 x4 S _ _ _ hw hE Ta0 (lv_sub hl [0, 1, 2, 3, 4] rfl) hm
    · rw [if_neg h33] at hm
      refine lv_iload hx hb dX12_looks_90 (lv_at hl 5 rfl) ?_
      refine lv_iload hx hb dX12_looks_92 (lv_at hl 4 rfl) ?_
      refine lv_icmp_ge (tgt := 191) hx hb dX12_looks_94 (by decide) (fun h34 => ?_) (fun h34 => ?_)
      · rw [if_pos h34] at hm
        exact wb_X12_looks_191 cx C X S0 n r S1 _ hk40 a0 x1 x2 x3 x4 S _ _ _ hw hE Ta0 (lv_sub hl [0, 1, 2, 3, 4] rfl) hm
      · rw [if_neg h34] at hm
        refine lv_iconst (v := 1) hx hb dX12_looks_97 (by decide) ?_
        refine lv_aload_n hx hb dX12_looks_98 rfl (lv_at hl 0 rfl) ?_
        obtain ⟨q35, hq35, hm⟩ := bd_some hm
        have Tq35 : TY S q35 14 := hw.wf.ref (k := 12) (j := 62) Ta0 (by decide) (by decide) hq35
        refine pg_rb (k := 12) (j := 62) (f := 1262) hx hb hown hU iu12 hw Ta0 (by decide) rfl (hU _ tw1533) rfl hq35 dX12_looks_99 ?_
        refine lv_iload hx hb dX12_looks_102 (lv_at hl 5 rfl) ?_
        obtain ⟨hi36, hm⟩ := ck_some hm
        refine pw_iald hx hb hw Tq35 hi36 dX12_looks_104 ?_
        refine lv_aload_n hx hb dX12_looks_105 rfl (lv_at hl 0 rfl) ?_
        obtain ⟨q37, hq37, hm⟩ := bd_some hm
        have Tq37 : TY S q37 14 := hw.wf.ref (k := 12) (j := 62) Ta0 (by decide) (by decide) hq37
        refine pg_rb (k := 12) (j := 62) (f := 1262) hx hb hown hU iu12 hw Ta0 (by decide) rfl (hU _ tw1533) rfl hq37 dX12_looks_106 ?_
        refine lv_iload hx hb dX12_looks_109 (lv_at hl 4 rfl) ?_
        refine lv_iload hx hb dX12_looks_111 (lv_at hl 5 rfl) ?_
        refine lv_isub hx hb dX12_looks_113 ?_
        obtain ⟨hi38, hm⟩ := ck_some hm
        refine pw_iald hx hb hw Tq37 hi38 dX12_looks_114 ?_
        refine lv_icmp_le (tgt := 128) hx hb dX12_looks_115 (by decide) (fun h39 => ?_) (fun h39 => ?_)
        · rw [if_pos h39] at hm
          refine lv_aload_n hx hb dX12_looks_128 rfl (lv_at hl 0 rfl) ?_
          obtain ⟨q40, hq40, hm⟩ := bd_some hm
          have Tq40 : TY S q40 14 := hw.wf.ref (k := 12) (j := 62) Ta0 (by decide) (by decide) hq40
          refine pg_rb (k := 12) (j := 62) (f := 1262) hx hb hown hU iu12 hw Ta0 (by decide) rfl (hU _ tw1533) rfl hq40 dX12_looks_129 ?_
          refine lv_iload hx hb dX12_looks_132 (lv_at hl 4 rfl) ?_
          refine lv_iload hx hb dX12_looks_134 (lv_at hl 5 rfl) ?_
          refine lv_isub hx hb dX12_looks_136 ?_
          obtain ⟨hi41, hm⟩ := ck_some hm
          refine pw_iald hx hb hw Tq40 hi41 dX12_looks_137 ?_
          exact wb_X12_looks_138 cx C X S0 n r S1 _ hk40 _ ih a0 x1 x2 x3 x4 x5 1 (pA S q40 (Int32.toNatClampNeg (x4 - x5))) S _ _ _ hw hE Ta0 (lv_sub hl [0, 1, 2, 3, 4, 5] rfl) hm
        · rw [if_neg h39] at hm
          refine lv_aload_n hx hb dX12_looks_118 rfl (lv_at hl 0 rfl) ?_
          obtain ⟨q42, hq42, hm⟩ := bd_some hm
          have Tq42 : TY S q42 14 := hw.wf.ref (k := 12) (j := 62) Ta0 (by decide) (by decide) hq42
          refine pg_rb (k := 12) (j := 62) (f := 1262) hx hb hown hU iu12 hw Ta0 (by decide) rfl (hU _ tw1533) rfl hq42 dX12_looks_119 ?_
          refine lv_iload hx hb dX12_looks_122 (lv_at hl 5 rfl) ?_
          obtain ⟨hi43, hm⟩ := ck_some hm
          refine pw_iald hx hb hw Tq42 hi43 dX12_looks_124 ?_
          refine lv_goto (tgt := 138) hx hb dX12_looks_125 (by decide) ?_
          exact wb_X12_looks_138 cx C X S0 n r S1 _ hk40 _ ih a0 x1 x2 x3 x4 x5 1 (pA S q42 (Int32.toNatClampNeg x5)) S _ _ _ hw hE Ta0 (lv_sub hl [0, 1, 2, 3, 4, 5] rfl) hm
def b_X12_looks_197 (n : Nat) (a0 : Nat) (x1 : Int32) (x3 : Int32) (S : pq_S) : Option (Int32 × pq_S) := if x3 = 0 then Option.bind (pR S 1262 a0) fun q58 => ck (ix x1 (pN S q58)) (dix _ _) (some ((pA S q58 (Int32.toNatClampNeg x1)), S)) else Option.bind (pR S 1263 a0) fun q56 => ck (ix x1 (pN S q56)) (dix _ _) (some ((pA S q56 (Int32.toNatClampNeg x1)), S))
set_option maxHeartbeats 4000000 in
set_option maxRecDepth 100000 in
theorem wb_X12_looks_197 {p : Program} {l : Launch} {e : Env} {s : State} {m : MethodId} {args : Array Value} {below : List Frame} {meth : Method} {c : Code} (cx : Cx p s m args meth c cX12_looks 7 RX12 (some .int)) (C : pq_C) (X : va_W) (S0 : pq_S) (n : Nat) (r : Int32) (S1 : pq_S) : ∀ (a0 : Nat) (x1 : Int32) (x3 : Int32) (S : pq_S) (H : Heap) (locs : List Loc) (ls : Array Slot), PW C X S (pq_F C X S0 s.heap.size) H locs s → Ext S0 S → TY S a0 12 → lv_has ls 7 [(0, .ref a0), (1, .int x1), (3, .int x3)] → b_X12_looks_197 n a0 x1 x3 S = some (r, S1) → W p l e rm_X12_looks s m args below meth c H locs 0 0 (MQ below (QcI C X S0 s.heap.size r S1) args s 0 0 (pq_F C X S0 s.heap.size)) (F0 m 197 ls []) := by
  obtain ⟨hx, hb, hml, hown, hU, hr, hlk⟩ := id cx
  intro a0 x1 x3 S H locs ls hw hE Ta0 hl hm
  rw [b_X12_looks_197] at hm
  refine lv_iload_n hx hb dX12_looks_197 rfl (lv_at hl 2 rfl) ?_
  refine lv_if_ne (tgt := 210) hx hb dX12_looks_198 (by decide) (fun h55 => ?_) (fun h55 => ?_)
  · rw [if_neg h55] at hm
    refine lv_aload_n hx hb dX12_looks_210 rfl (lv_at hl 0 rfl) ?_
    obtain ⟨q56, hq56, hm⟩ := bd_some hm
    have Tq56 : TY S q56 14 := hw.wf.ref (k := 12) (j := 63) Ta0 (by decide) (by decide) hq56
    refine pg_rb (k := 12) (j := 63) (f := 1263) hx hb hown hU iu12 hw Ta0 (by decide) rfl (hU _ tw1534) rfl hq56 dX12_looks_211 ?_
    refine lv_iload_n hx hb dX12_looks_214 rfl (lv_at hl 1 rfl) ?_
    obtain ⟨hi57, hm⟩ := ck_some hm
    refine pw_iald hx hb hw Tq56 hi57 dX12_looks_215 ?_
    cases hm
    exact pw_iret hx hb hr rfl hlk hw hE dX12_looks_216
  · rw [if_pos h55] at hm
    refine lv_aload_n hx hb dX12_looks_201 rfl (lv_at hl 0 rfl) ?_
    obtain ⟨q58, hq58, hm⟩ := bd_some hm
    have Tq58 : TY S q58 14 := hw.wf.ref (k := 12) (j := 62) Ta0 (by decide) (by decide) hq58
    refine pg_rb (k := 12) (j := 62) (f := 1262) hx hb hown hU iu12 hw Ta0 (by decide) rfl (hU _ tw1533) rfl hq58 dX12_looks_202 ?_
    refine lv_iload_n hx hb dX12_looks_205 rfl (lv_at hl 1 rfl) ?_
    obtain ⟨hi59, hm⟩ := ck_some hm
    refine pw_iald hx hb hw Tq58 hi59 dX12_looks_206 ?_
    refine lv_goto (tgt := 216) hx hb dX12_looks_207 (by decide) ?_
    cases hm
    exact pw_iret hx hb hr rfl hlk hw hE dX12_looks_216
def b_X12_looks_67 (n : Nat) : Nat → Nat → Int32 → Int32 → Int32 → Int32 → pq_S → Option (Int32 × pq_S)
  | 0, _, _, _, _, _, _ => none
  | f + 1, a0, x1, x2, x3, x4, S => if x1 < x4 then b_X12_looks_197 n a0 x1 x3 S else Option.bind (pR S 1262 a0) fun q31 => ck (ix x4 (pN S q31)) (dix _ _) (b_X12_looks_84 n (b_X12_looks_67 n f) n a0 x1 x2 x3 x4 1 (sA S q31 (Int32.toNatClampNeg x4) (-1)))
set_option maxHeartbeats 4000000 in
set_option maxRecDepth 100000 in
theorem wb_X12_looks_67 {p : Program} {l : Launch} {e : Env} {s : State} {m : MethodId} {args : Array Value} {below : List Frame} {meth : Method} {c : Code} (cx : Cx p s m args meth c cX12_looks 7 RX12 (some .int)) (C : pq_C) (X : va_W) (S0 : pq_S) (n : Nat) (r : Int32) (S1 : pq_S) : ∀ (f : Nat) (a0 : Nat) (x1 : Int32) (x2 : Int32) (x3 : Int32) (x4 : Int32) (S : pq_S) (H : Heap) (locs : List Loc) (ls : Array Slot), PW C X S (pq_F C X S0 s.heap.size) H locs s → Ext S0 S → TY S a0 12 → lv_has ls 7 [(0, .ref a0), (1, .int x1), (2, .int x2), (3, .int x3), (4, .int x4)] → b_X12_looks_67 n f a0 x1 x2 x3 x4 S = some (r, S1) → W p l e rm_X12_looks s m args below meth c H locs 0 0 (MQ below (QcI C X S0 s.heap.size r S1) args s 0 0 (pq_F C X S0 s.heap.size)) (F0 m 67 ls []) := by
  obtain ⟨hx, hb, hml, hown, hU, hr, hlk⟩ := id cx
  intro f
  induction f with
  | zero =>
    intro a0 x1 x2 x3 x4 S H locs ls hw hE Ta0 hl hm
    cases hm
  | succ f ih =>
    intro a0 x1 x2 x3 x4 S H locs ls hw hE Ta0 hl hm
    rw [b_X12_looks_67] at hm
    refine lv_iload hx hb dX12_looks_67 (lv_at hl 4 rfl) ?_
    refine lv_iload_n hx hb dX12_looks_69 rfl (lv_at hl 1 rfl) ?_
    refine lv_icmp_gt (tgt := 197) hx hb dX12_looks_70 (by decide) (fun h30 => ?_) (fun h30 => ?_)
    · rw [if_pos h30] at hm
      exact wb_X12_looks_197 cx C X S0 n r S1 a0 x1 x3 S _ _ _ hw hE Ta0 (lv_sub hl [0, 1, 3] rfl) hm
    · rw [if_neg h30] at hm
      refine lv_aload_n hx hb dX12_looks_73 rfl (lv_at hl 0 rfl) ?_
      obtain ⟨q31, hq31, hm⟩ := bd_some hm
      have Tq31 : TY S q31 14 := hw.wf.ref (k := 12) (j := 62) Ta0 (by decide) (by decide) hq31
      refine pg_rb (k := 12) (j := 62) (f := 1262) hx hb hown hU iu12 hw Ta0 (by decide) rfl (hU _ tw1533) rfl hq31 dX12_looks_74 ?_
      refine lv_iload hx hb dX12_looks_77 (lv_at hl 4 rfl) ?_
      refine lv_iconst (v := (-1)) hx hb dX12_looks_79 (by decide) ?_
      obtain ⟨hi32, hm⟩ := ck_some hm
      refine pw_iast hx hb hw Tq31 hi32 dX12_looks_80 (fun H locs hw => ?_)
      refine lv_iconst (v := 1) hx hb dX12_looks_81 (by decide) ?_
      refine lv_istore (lv' := [(5, .int 1), (0, .ref a0), (1, .int x1), (2, .int x2), (3, .int x3), (4, .int x4)]) hx hb dX12_looks_82 hl (by decide) rfl (fun ls hl => ?_)
      exact wb_X12_looks_84 cx C X S0 n r S1 _ ih n a0 x1 x2 x3 x4 1 (sA S q31 (Int32.toNatClampNeg x4) (-1)) _ _ _ hw hE Ta0 (lv_sub hl [1, 2, 3, 4, 5, 0] rfl) hm
def b_X12_looks_40 (n : Nat) (a0 : Nat) (x1 : Int32) (x2 : Int32) (x3 : Int32) (b0 : Nat) (z1 : Int32) (S : pq_S) : Option (Int32 × pq_S) := cb (m_X12_may n b0 z1 1 1 S) fun r21 S_19 => if r21 = 0 then some (0, S_19) else Option.bind (pR S_19 1262 a0) fun q25 => ck (ix 1 (pN S_19 q25)) (dix _ _) (Option.bind (pR (sA S_19 q25 (Int32.toNatClampNeg 1) 0) 1263 a0) fun q27 => ck (ix 1 (pN (sA S_19 q25 (Int32.toNatClampNeg 1) 0) q27)) (dix _ _) (lt_ (sA (sA S_19 q25 (Int32.toNatClampNeg 1) 0) q27 (Int32.toNatClampNeg 1) 0) fun S_29 => b_X12_looks_67 n n a0 x1 x2 x3 2 S_29))
set_option maxHeartbeats 4000000 in
set_option maxRecDepth 100000 in
theorem wb_X12_looks_40 {p : Program} {l : Launch} {e : Env} {s : State} {m : MethodId} {args : Array Value} {below : List Frame} {meth : Method} {c : Code} (cx : Cx p s m args meth c cX12_looks 7 RX12 (some .int)) (C : pq_C) (X : va_W) (S0 : pq_S) (n : Nat) (r : Int32) (S1 : pq_S) : ∀ (a0 : Nat) (x1 : Int32) (x2 : Int32) (x3 : Int32) (b0 : Nat) (z1 : Int32) (S : pq_S) (H : Heap) (locs : List Loc) (ls : Array Slot), PW C X S (pq_F C X S0 s.heap.size) H locs s → Ext S0 S → TY S a0 12 → TY S b0 12 → lv_has ls 7 [(0, .ref a0), (1, .int x1), (2, .int x2), (3, .int x3)] → b_X12_looks_40 n a0 x1 x2 x3 b0 z1 S = some (r, S1) → W p l e rm_X12_looks s m args below meth c H locs 0 0 (MQ below (QcI C X S0 s.heap.size r S1) args s 0 0 (pq_F C X S0 s.heap.size)) (F0 m 40 ls [.int z1, .ref b0]) := by
  obtain ⟨hx, hb, hml, hown, hU, hr, hlk⟩ := id cx
  intro a0 x1 x2 x3 b0 z1 S H locs ls hw hE Ta0 Tb0 hl hm
  rw [b_X12_looks_40] at hm
  refine lv_iconst (v := 1) hx hb dX12_looks_40 (by decide) ?_
  refine lv_iconst (v := 1) hx hb dX12_looks_41 (by decide) ?_
  obtain ⟨r21, S_19, hq20, hm⟩ := cb_some hm
  refine pw_cz (va_runV (As := [.int z1, .int 1, .int 1]) (rest := []) ⟨hx, hb, hml, hown, hU⟩ (c_X12_may l C X n S hw.wf _ b0 z1 1 1 (Tb0) r21 S_19 hq20) (cwV 3 hU (pq_gV tw1703 tw1705 ts123 tw14 tc_X12_may) rfl rfl rfl cd_X12_may ⟨Nat.le_of_ble_eq_true rfl, Nat.le_of_ble_eq_true rfl⟩) (pw_preV hw Tb0 (by decide) rfl) rfl rfl hl.1 rfl (lv_room (Nat.le_of_ble_eq_true rfl)) dX12_looks_42 ⟨Nat.zero_le _, Nat.zero_le _⟩) hw (fun H locs hw hx22 hz23 => ?_)
  have Ta0 : TY S_19 a0 12 := ty_ext hx22 Ta0
  have hE : Ext S0 S_19 := Ext.tr hE hx22
  refine lv_if_ne (tgt := 50) hx hb dX12_looks_45 (by decide) (fun h24 => ?_) (fun h24 => ?_)
  · rw [if_neg h24] at hm
    refine lv_aload_n hx hb dX12_looks_50 rfl (lv_at hl 0 rfl) ?_
    obtain ⟨q25, hq25, hm⟩ := bd_some hm
    have Tq25 : TY S_19 q25 14 := hw.wf.ref (k := 12) (j := 62) Ta0 (by decide) (by decide) hq25
    refine pg_rb (k := 12) (j := 62) (f := 1262) hx hb hown hU iu12 hw Ta0 (by decide) rfl (hU _ tw1533) rfl hq25 dX12_looks_51 ?_
    refine lv_iconst (v := 1) hx hb dX12_looks_54 (by decide) ?_
    refine lv_iconst (v := 0) hx hb dX12_looks_55 (by decide) ?_
    obtain ⟨hi26, hm⟩ := ck_some hm
    refine pw_iast hx hb hw Tq25 hi26 dX12_looks_56 (fun H locs hw => ?_)
    refine lv_aload_n hx hb dX12_looks_57 rfl (lv_at hl 0 rfl) ?_
    obtain ⟨q27, hq27, hm⟩ := bd_some hm
    have Tq27 : TY (sA S_19 q25 (Int32.toNatClampNeg 1) 0) q27 14 := hw.wf.ref (k := 12) (j := 63) Ta0 (by decide) (by decide) hq27
    refine pg_rb (k := 12) (j := 63) (f := 1263) hx hb hown hU iu12 hw Ta0 (by decide) rfl (hU _ tw1534) rfl hq27 dX12_looks_58 ?_
    refine lv_iconst (v := 1) hx hb dX12_looks_61 (by decide) ?_
    refine lv_iconst (v := 0) hx hb dX12_looks_62 (by decide) ?_
    obtain ⟨hi28, hm⟩ := ck_some hm
    refine pw_iast hx hb hw Tq27 hi28 dX12_looks_63 (fun H locs hw => ?_)
    obtain ⟨S_29, eS_29, hm⟩ := lt_some hm
    rw [← eS_29] at hw
    have Ta0 : TY S_29 a0 12 := by rw [eS_29]; exact Ta0
    have hE : Ext S0 S_29 := by rw [eS_29]; exact hE
    refine lv_iconst (v := 2) hx hb dX12_looks_64 (by decide) ?_
    refine lv_istore (lv' := [(4, .int 2), (0, .ref a0), (1, .int x1), (2, .int x2), (3, .int x3)]) hx hb dX12_looks_65 hl (by decide) rfl (fun ls hl => ?_)
    exact wb_X12_looks_67 cx C X S0 n r S1 n a0 x1 x2 x3 2 S_29 _ _ _ hw hE Ta0 (lv_sub hl [1, 2, 3, 4, 0] rfl) hm
  · rw [if_pos h24] at hm
    refine lv_iconst (v := 0) hx hb dX12_looks_48 (by decide) ?_
    cases hm
    exact pw_iret hx hb hr rfl hlk hw hE dX12_looks_49
def b_X12_looks_39 (n : Nat) (a0 : Nat) (x1 : Int32) (x2 : Int32) (x3 : Int32) (b0 : Nat) (S : pq_S) : Option (Int32 × pq_S) := b_X12_looks_40 n a0 x1 x2 x3 b0 0 S
set_option maxHeartbeats 4000000 in
set_option maxRecDepth 100000 in
theorem wb_X12_looks_39 {p : Program} {l : Launch} {e : Env} {s : State} {m : MethodId} {args : Array Value} {below : List Frame} {meth : Method} {c : Code} (cx : Cx p s m args meth c cX12_looks 7 RX12 (some .int)) (C : pq_C) (X : va_W) (S0 : pq_S) (n : Nat) (r : Int32) (S1 : pq_S) : ∀ (a0 : Nat) (x1 : Int32) (x2 : Int32) (x3 : Int32) (b0 : Nat) (S : pq_S) (H : Heap) (locs : List Loc) (ls : Array Slot), PW C X S (pq_F C X S0 s.heap.size) H locs s → Ext S0 S → TY S a0 12 → TY S b0 12 → lv_has ls 7 [(0, .ref a0), (1, .int x1), (2, .int x2), (3, .int x3)] → b_X12_looks_39 n a0 x1 x2 x3 b0 S = some (r, S1) → W p l e rm_X12_looks s m args below meth c H locs 0 0 (MQ below (QcI C X S0 s.heap.size r S1) args s 0 0 (pq_F C X S0 s.heap.size)) (F0 m 39 ls [.ref b0]) := by
  obtain ⟨hx, hb, hml, hown, hU, hr, hlk⟩ := id cx
  intro a0 x1 x2 x3 b0 S H locs ls hw hE Ta0 Tb0 hl hm
  rw [b_X12_looks_39] at hm
  refine lv_iconst (v := 0) hx hb dX12_looks_39 (by decide) ?_
  exact wb_X12_looks_40 cx C X S0 n r S1 a0 x1 x2 x3 b0 0 S _ _ _ hw hE Ta0 Tb0 (lv_sub hl [0, 1, 2, 3] rfl) hm
def m_X12_looks (n : Nat) (a0 : Nat) (x1 : Int32) (x2 : Int32) (x3 : Int32) (S0 : pq_S) : Option (Int32 × pq_S) := cb (m_X12_within n x1 1 40 (sI S0 1200 a0 0)) fun r3 S_1 => if r3 = 0 then b_X12_looks_39 n a0 x1 x2 x3 a0 S_1 else cb (m_X12_within n x2 1 40 S_1) fun r9 S_7 => if r9 = 0 then b_X12_looks_39 n a0 x1 x2 x3 a0 S_7 else cb (m_X12_within n x3 0 1 S_7) fun r15 S_13 => if r15 = 0 then b_X12_looks_39 n a0 x1 x2 x3 a0 S_13 else b_X12_looks_40 n a0 x1 x2 x3 a0 1 S_13
theorem tc_X12_looks : Cond.code yX12_looks cX12_looks 7 (some .int) ∈ pq_U := tw2028
theorem cd_X12_looks : yX12_looks.cls = RX12 ∧ yX12_looks.cls ≠ "java/lang/invoke/MethodHandle" ∧ yX12_looks.cls ≠ "java/lang/invoke/VarHandle" ∧ (parseMethodDescriptor yX12_looks.desc).map (fun d => d.parameters.length) = some 3 := by decide +kernel
set_option maxHeartbeats 4000000 in
set_option maxRecDepth 100000 in
theorem c_X12_looks (l : Launch) (C : pq_C) (X : va_W) (n : Nat) (S0 : pq_S) (hF : WF S0) (sz : Nat) (a0 : Nat) (x1 : Int32) (x2 : Int32) (x3 : Int32) (Ta0 : TY S0 a0 12) (r : Int32) (S1 : pq_S) (hm : m_X12_looks n a0 x1 x2 x3 S0 = some (r, S1)) : MI l yX12_looks (.code yX12_looks cX12_looks 7 (some .int) :: pq_U) rm_X12_looks C X S0 sz [.ref a0, .int x1, .int x2, .int x3] r S1 0 0 := by
  refine Met.ofW (cc := cX12_looks) (maxL := 7) (ret := (some .int)) (by decide) rfl ?_
  intro p e s m args below meth c s₁ B hml hv
  obtain ⟨rfl, hv⟩ := hv
  have hsz := hv.1
  subst hsz
  have hw := pw_entry hF hv
  have hts := atoms_spec (ws := .code yX12_looks cX12_looks 7 (some .int) :: pq_U) B.pre
  have hU : ∀ w ∈ pq_U, w.before _ s = true := fun w h => hts w (List.mem_cons_of_mem _ h)
  have hx := B.exec
  have hb := B.bytes
  have hr := B.returns
  have hown : s.vm.findClass RX12 = some m.cls := findClass_of_methodNamed B.named
  have hlk := B.notSynchronized
  have hl := lv_entry ([.ref a0, .int x1, .int x2, .int x3]) (n := 7) (Nat.le_of_ble_eq_true rfl)
  rw [lg_entry_eq]
  generalize (lg_sl ([.ref a0, .int x1, .int x2, .int x3]) ++ List.replicate (7 - (lg_sl ([.ref a0, .int x1, .int x2, .int x3])).length) Slot.unset).toArray = ls at hl ⊢
  have hl : lv_has ls 7 [(0, .ref a0), (1, .int x1), (2, .int x2), (3, .int x3)] := hl
  have hE : Ext S0 S0 := Ext.rf _
  have cx : Cx p s m _ meth c cX12_looks 7 RX12 (some .int) := ⟨hx, hb, hml, hown, hU, hr, hlk⟩
  rw [m_X12_looks] at hm
  refine lv_aload_n hx hb dX12_looks_0 rfl (lv_at hl 0 rfl) ?_
  refine lv_iconst (v := 0) hx hb dX12_looks_1 (by decide) ?_
  refine pp_i (k := 12) (j := 0) (f := 1200) hx hb hown hU iu12 tyX12_ok nmX12 hw Ta0 (by decide) rfl (hU _ tw1471) rfl rfl rfl dX12_looks_2 (fun H locs hw => ?_)
  refine lv_aload_n hx hb dX12_looks_5 rfl (lv_at hl 0 rfl) ?_
  refine lv_iload_n hx hb dX12_looks_6 rfl (lv_at hl 1 rfl) ?_
  refine lv_iconst (v := 1) hx hb dX12_looks_7 (by decide) ?_
  refine lv_bipush (v := 40) hx hb dX12_looks_8 (by decide) ?_
  obtain ⟨r3, S_1, hq2, hm⟩ := cb_some hm
  refine pw_cz (va_runS (As := [.int x1, .int 1, .int 40]) (rest := [.ref a0]) ⟨hx, hb, hml, hown, hU⟩ (c_X12_within l C X n (sI S0 1200 a0 0) hw.wf _ x1 1 40  r3 S_1 hq2) ⟨callB_of 3 hU (pq_g1 tc_X12_within) rfl rfl rfl (hU _ tw14) (hU _ tw1776) cd_X12_within.2 ⟨Nat.le_of_ble_eq_true rfl, Nat.le_of_ble_eq_true rfl⟩, hU _ tw1777⟩ (pw_preS hw) rfl rfl hl.1 rfl (lv_room (Nat.le_of_ble_eq_true rfl)) dX12_looks_10 ⟨Nat.zero_le _, Nat.zero_le _⟩) hw (fun H locs hw hx4 hz5 => ?_)
  have Ta0 : TY S_1 a0 12 := ty_ext hx4 Ta0
  have hE : Ext S0 S_1 := Ext.tr hE hx4
  refine lv_if_eq (tgt := 39) hx hb dX12_looks_13 (by decide) (fun h6 => ?_) (fun h6 => ?_)
  · rw [if_pos h6] at hm
    exact wb_X12_looks_39 cx C X S0 n r S1 a0 x1 x2 x3 a0 S_1 _ _ _ hw hE Ta0 Ta0 (lv_sub hl [0, 1, 2, 3] rfl) hm
  · rw [if_neg h6] at hm
    refine lv_iload_n hx hb dX12_looks_16 rfl (lv_at hl 2 rfl) ?_
    refine lv_iconst (v := 1) hx hb dX12_looks_17 (by decide) ?_
    refine lv_bipush (v := 40) hx hb dX12_looks_18 (by decide) ?_
    obtain ⟨r9, S_7, hq8, hm⟩ := cb_some hm
    refine pw_cz (va_runS (As := [.int x2, .int 1, .int 40]) (rest := [.ref a0]) ⟨hx, hb, hml, hown, hU⟩ (c_X12_within l C X n S_1 hw.wf _ x2 1 40  r9 S_7 hq8) ⟨callB_of 3 hU (pq_g1 tc_X12_within) rfl rfl rfl (hU _ tw14) (hU _ tw1776) cd_X12_within.2 ⟨Nat.le_of_ble_eq_true rfl, Nat.le_of_ble_eq_true rfl⟩, hU _ tw1777⟩ (pw_preS hw) rfl rfl hl.1 rfl (lv_room (Nat.le_of_ble_eq_true rfl)) dX12_looks_20 ⟨Nat.zero_le _, Nat.zero_le _⟩) hw (fun H locs hw hx10 hz11 => ?_)
    have Ta0 : TY S_7 a0 12 := ty_ext hx10 Ta0
    have hE : Ext S0 S_7 := Ext.tr hE hx10
    refine lv_if_eq (tgt := 39) hx hb dX12_looks_23 (by decide) (fun h12 => ?_) (fun h12 => ?_)
    · rw [if_pos h12] at hm
      exact wb_X12_looks_39 cx C X S0 n r S1 a0 x1 x2 x3 a0 S_7 _ _ _ hw hE Ta0 Ta0 (lv_sub hl [0, 1, 2, 3] rfl) hm
    · rw [if_neg h12] at hm
      refine lv_iload_n hx hb dX12_looks_26 rfl (lv_at hl 3 rfl) ?_
      refine lv_iconst (v := 0) hx hb dX12_looks_27 (by decide) ?_
      refine lv_iconst (v := 1) hx hb dX12_looks_28 (by decide) ?_
      obtain ⟨r15, S_13, hq14, hm⟩ := cb_some hm
      refine pw_cz (va_runS (As := [.int x3, .int 0, .int 1]) (rest := [.ref a0]) ⟨hx, hb, hml, hown, hU⟩ (c_X12_within l C X n S_7 hw.wf _ x3 0 1  r15 S_13 hq14) ⟨callB_of 3 hU (pq_g1 tc_X12_within) rfl rfl rfl (hU _ tw14) (hU _ tw1776) cd_X12_within.2 ⟨Nat.le_of_ble_eq_true rfl, Nat.le_of_ble_eq_true rfl⟩, hU _ tw1777⟩ (pw_preS hw) rfl rfl hl.1 rfl (lv_room (Nat.le_of_ble_eq_true rfl)) dX12_looks_29 ⟨Nat.zero_le _, Nat.zero_le _⟩) hw (fun H locs hw hx16 hz17 => ?_)
      have Ta0 : TY S_13 a0 12 := ty_ext hx16 Ta0
      have hE : Ext S0 S_13 := Ext.tr hE hx16
      refine lv_if_eq (tgt := 39) hx hb dX12_looks_32 (by decide) (fun h18 => ?_) (fun h18 => ?_)
      · rw [if_pos h18] at hm
        exact wb_X12_looks_39 cx C X S0 n r S1 a0 x1 x2 x3 a0 S_13 _ _ _ hw hE Ta0 Ta0 (lv_sub hl [0, 1, 2, 3] rfl) hm
      · rw [if_neg h18] at hm
        refine lv_iconst (v := 1) hx hb dX12_looks_35 (by decide) ?_
        refine lv_goto (tgt := 40) hx hb dX12_looks_36 (by decide) ?_
        exact wb_X12_looks_40 cx C X S0 n r S1 a0 x1 x2 x3 a0 1 S_13 _ _ _ hw hE Ta0 Ta0 (lv_sub hl [0, 1, 2, 3] rfl) hm
abbrev rm_X12_findAlong : Room := { frames := 0, cells := 0, slots := 0, locals := 0 }
def b_X12_findAlong_62 (n : Nat) (k2 : Nat → Int32 → pq_S → Option pq_S) (a0 : Nat) (x1 : Int32) (x2 : Int32) (S : pq_S) : Option pq_S := Option.bind (pR S 1264 a0) fun q15 => ck (ix x2 (pN S q15)) (dix _ _) (k2 a0 (x1 + 1) (sA S q15 (Int32.toNatClampNeg x2) x1))
set_option maxHeartbeats 4000000 in
set_option maxRecDepth 100000 in
theorem wb_X12_findAlong_62 {p : Program} {l : Launch} {e : Env} {s : State} {m : MethodId} {args : Array Value} {below : List Frame} {meth : Method} {c : Code} (cx : Cx p s m args meth c cX12_findAlong 3 RX12 none) (C : pq_C) (X : va_W) (S0 : pq_S) (n : Nat) (S1 : pq_S) (k2 : Nat → Int32 → pq_S → Option pq_S) (hk2 : ∀ (a0 : Nat) (x1 : Int32) (S : pq_S) (H : Heap) (locs : List Loc) (ls : Array Slot), PW C X S (pq_F C X S0 s.heap.size) H locs s → Ext S0 S → TY S a0 12 → lv_has ls 3 [(0, .ref a0), (1, .int x1)] → k2 a0 x1 S = some S1 → W p l e rm_X12_findAlong s m args below meth c H locs 0 0 (MQ below (QcV C X S0 s.heap.size S1) args s 0 0 (pq_F C X S0 s.heap.size)) (F0 m 2 ls [])) : ∀ (a0 : Nat) (x1 : Int32) (x2 : Int32) (S : pq_S) (H : Heap) (locs : List Loc) (ls : Array Slot), PW C X S (pq_F C X S0 s.heap.size) H locs s → Ext S0 S → TY S a0 12 → lv_has ls 3 [(0, .ref a0), (1, .int x1), (2, .int x2)] → b_X12_findAlong_62 n k2 a0 x1 x2 S = some S1 → W p l e rm_X12_findAlong s m args below meth c H locs 0 0 (MQ below (QcV C X S0 s.heap.size S1) args s 0 0 (pq_F C X S0 s.heap.size)) (F0 m 62 ls []) := by
  obtain ⟨hx, hb, hml, hown, hU, hr, hlk⟩ := id cx
  intro a0 x1 x2 S H locs ls hw hE Ta0 hl hm
  rw [b_X12_findAlong_62] at hm
  refine lv_aload_n hx hb dX12_findAlong_62 rfl (lv_at hl 0 rfl) ?_
  obtain ⟨q15, hq15, hm⟩ := bd_some hm
  have Tq15 : TY S q15 14 := hw.wf.ref (k := 12) (j := 64) Ta0 (by decide) (by decide) hq15
  refine pg_rb (k := 12) (j := 64) (f := 1264) hx hb hown hU iu12 hw Ta0 (by decide) rfl (hU _ tw1535) rfl hq15 dX12_findAlong_63 ?_
  refine lv_iload_n hx hb dX12_findAlong_66 rfl (lv_at hl 2 rfl) ?_
  refine lv_iload_n hx hb dX12_findAlong_67 rfl (lv_at hl 1 rfl) ?_
  obtain ⟨hi16, hm⟩ := ck_some hm
  refine pw_iast hx hb hw Tq15 hi16 dX12_findAlong_68 (fun H locs hw => ?_)
  refine lv_iinc (v := (x1 + 1)) (lv' := [(1, .int (x1 + 1)), (0, .ref a0), (2, .int x2)]) hx hb dX12_findAlong_69 hl (k := 1) rfl rfl (by decide) rfl (fun ls hl => ?_)
  refine lv_goto (tgt := 2) hx hb dX12_findAlong_72 (by decide) ?_
  exact hk2 a0 (x1 + 1) (sA S q15 (Int32.toNatClampNeg x2) x1) _ _ _ hw hE Ta0 (lv_sub hl [1, 0] rfl) hm
def b_X12_findAlong_12 (n : Nat) (k2 : Nat → Int32 → pq_S → Option pq_S) : Nat → Nat → Int32 → Int32 → pq_S → Option pq_S
  | 0, _, _, _, _ => none
  | f + 1, a0, x1, x2, S => if x2 ≤ 0 then b_X12_findAlong_62 n k2 a0 x1 x2 S else Option.bind (pR S 1214 a0) fun q3 => Option.bind (pR S 1264 a0) fun q4 => ck (ix (x2 - (1 : Int32)) (pN S q4)) (dix _ _) (ck (ix ((4 : Int32) * (pA S q4 (Int32.toNatClampNeg (x2 - (1 : Int32))))) (pN S q3)) (dix _ _) (Option.bind (pR S 1214 a0) fun q7 => ck (ix ((4 : Int32) * x1) (pN S q7)) (dix _ _) (if (pA S q3 (Int32.toNatClampNeg ((4 : Int32) * (pA S q4 (Int32.toNatClampNeg (x2 - (1 : Int32))))))) ≤ (pA S q7 (Int32.toNatClampNeg ((4 : Int32) * x1))) then b_X12_findAlong_62 n k2 a0 x1 x2 S else Option.bind (pR S 1264 a0) fun q10 => Option.bind (pR S 1264 a0) fun q11 => ck (ix (x2 - (1 : Int32)) (pN S q11)) (dix _ _) (ck (ix x2 (pN S q10)) (dix _ _) (lt_ (sA S q10 (Int32.toNatClampNeg x2) (pA S q11 (Int32.toNatClampNeg (x2 - (1 : Int32))))) fun S_14 => b_X12_findAlong_12 n k2 f a0 x1 (x2 + (-1)) S_14)))))
set_option maxHeartbeats 4000000 in
set_option maxRecDepth 100000 in
theorem wb_X12_findAlong_12 {p : Program} {l : Launch} {e : Env} {s : State} {m : MethodId} {args : Array Value} {below : List Frame} {meth : Method} {c : Code} (cx : Cx p s m args meth c cX12_findAlong 3 RX12 none) (C : pq_C) (X : va_W) (S0 : pq_S) (n : Nat) (S1 : pq_S) (k2 : Nat → Int32 → pq_S → Option pq_S) (hk2 : ∀ (a0 : Nat) (x1 : Int32) (S : pq_S) (H : Heap) (locs : List Loc) (ls : Array Slot), PW C X S (pq_F C X S0 s.heap.size) H locs s → Ext S0 S → TY S a0 12 → lv_has ls 3 [(0, .ref a0), (1, .int x1)] → k2 a0 x1 S = some S1 → W p l e rm_X12_findAlong s m args below meth c H locs 0 0 (MQ below (QcV C X S0 s.heap.size S1) args s 0 0 (pq_F C X S0 s.heap.size)) (F0 m 2 ls [])) : ∀ (f : Nat) (a0 : Nat) (x1 : Int32) (x2 : Int32) (S : pq_S) (H : Heap) (locs : List Loc) (ls : Array Slot), PW C X S (pq_F C X S0 s.heap.size) H locs s → Ext S0 S → TY S a0 12 → lv_has ls 3 [(0, .ref a0), (1, .int x1), (2, .int x2)] → b_X12_findAlong_12 n k2 f a0 x1 x2 S = some S1 → W p l e rm_X12_findAlong s m args below meth c H locs 0 0 (MQ below (QcV C X S0 s.heap.size S1) args s 0 0 (pq_F C X S0 s.heap.size)) (F0 m 12 ls []) := by
  obtain ⟨hx, hb, hml, hown, hU, hr, hlk⟩ := id cx
  intro f
  induction f with
  | zero =>
    intro a0 x1 x2 S H locs ls hw hE Ta0 hl hm
    cases hm
  | succ f ih =>
    intro a0 x1 x2 S H locs ls hw hE Ta0 hl hm
    rw [b_X12_findAlong_12] at hm
    refine lv_iload_n hx hb dX12_findAlong_12 rfl (lv_at hl 2 rfl) ?_
    refine lv_if_le (tgt := 62) hx hb dX12_findAlong_13 (by decide) (fun h2 => ?_) (fun h2 => ?_)
    · rw [if_pos h2] at hm
      exact wb_X12_findAlong_62 cx C X S0 n S1 _ hk2 a0 x1 x2 S _ _ _ hw hE Ta0 (lv_sub hl [0, 1, 2] rfl) hm
    · rw [if_neg h2] at hm
      refine lv_aload_n hx hb dX12_findAlong_16 rfl (lv_at hl 0 rfl) ?_
      obtain ⟨q3, hq3, hm⟩ := bd_some hm
      have Tq3 : TY S q3 14 := hw.wf.ref (k := 12) (j := 14) Ta0 (by decide) (by decide) hq3
      refine pg_rb (k := 12) (j := 14) (f := 1214) hx hb hown hU iu12 hw Ta0 (by decide) rfl (hU _ tw1485) rfl hq3 dX12_findAlong_17 ?_
      refine lv_iconst (v := 4) hx hb dX12_findAlong_20 (by decide) ?_
      refine lv_aload_n hx hb dX12_findAlong_21 rfl (lv_at hl 0 rfl) ?_
      obtain ⟨q4, hq4, hm⟩ := bd_some hm
      have Tq4 : TY S q4 14 := hw.wf.ref (k := 12) (j := 64) Ta0 (by decide) (by decide) hq4
      refine pg_rb (k := 12) (j := 64) (f := 1264) hx hb hown hU iu12 hw Ta0 (by decide) rfl (hU _ tw1535) rfl hq4 dX12_findAlong_22 ?_
      refine lv_iload_n hx hb dX12_findAlong_25 rfl (lv_at hl 2 rfl) ?_
      refine lv_iconst (v := 1) hx hb dX12_findAlong_26 (by decide) ?_
      refine lv_isub hx hb dX12_findAlong_27 ?_
      obtain ⟨hi5, hm⟩ := ck_some hm
      refine pw_iald hx hb hw Tq4 hi5 dX12_findAlong_28 ?_
      refine lv_imul hx hb dX12_findAlong_29 ?_
      obtain ⟨hi6, hm⟩ := ck_some hm
      refine pw_iald hx hb hw Tq3 hi6 dX12_findAlong_30 ?_
      refine lv_aload_n hx hb dX12_findAlong_31 rfl (lv_at hl 0 rfl) ?_
      obtain ⟨q7, hq7, hm⟩ := bd_some hm
      have Tq7 : TY S q7 14 := hw.wf.ref (k := 12) (j := 14) Ta0 (by decide) (by decide) hq7
      refine pg_rb (k := 12) (j := 14) (f := 1214) hx hb hown hU iu12 hw Ta0 (by decide) rfl (hU _ tw1485) rfl hq7 dX12_findAlong_32 ?_
      refine lv_iconst (v := 4) hx hb dX12_findAlong_35 (by decide) ?_
      refine lv_iload_n hx hb dX12_findAlong_36 rfl (lv_at hl 1 rfl) ?_
      refine lv_imul hx hb dX12_findAlong_37 ?_
      obtain ⟨hi8, hm⟩ := ck_some hm
      refine pw_iald hx hb hw Tq7 hi8 dX12_findAlong_38 ?_
      refine lv_icmp_le (tgt := 62) hx hb dX12_findAlong_39 (by decide) (fun h9 => ?_) (fun h9 => ?_)
      · rw [if_pos h9] at hm
        exact wb_X12_findAlong_62 cx C X S0 n S1 _ hk2 a0 x1 x2 S _ _ _ hw hE Ta0 (lv_sub hl [0, 1, 2] rfl) hm
      · rw [if_neg h9] at hm
        refine lv_aload_n hx hb dX12_findAlong_42 rfl (lv_at hl 0 rfl) ?_
        obtain ⟨q10, hq10, hm⟩ := bd_some hm
        have Tq10 : TY S q10 14 := hw.wf.ref (k := 12) (j := 64) Ta0 (by decide) (by decide) hq10
        refine pg_rb (k := 12) (j := 64) (f := 1264) hx hb hown hU iu12 hw Ta0 (by decide) rfl (hU _ tw1535) rfl hq10 dX12_findAlong_43 ?_
        refine lv_iload_n hx hb dX12_findAlong_46 rfl (lv_at hl 2 rfl) ?_
        refine lv_aload_n hx hb dX12_findAlong_47 rfl (lv_at hl 0 rfl) ?_
        obtain ⟨q11, hq11, hm⟩ := bd_some hm
        have Tq11 : TY S q11 14 := hw.wf.ref (k := 12) (j := 64) Ta0 (by decide) (by decide) hq11
        refine pg_rb (k := 12) (j := 64) (f := 1264) hx hb hown hU iu12 hw Ta0 (by decide) rfl (hU _ tw1535) rfl hq11 dX12_findAlong_48 ?_
        refine lv_iload_n hx hb dX12_findAlong_51 rfl (lv_at hl 2 rfl) ?_
        refine lv_iconst (v := 1) hx hb dX12_findAlong_52 (by decide) ?_
        refine lv_isub hx hb dX12_findAlong_53 ?_
        obtain ⟨hi12, hm⟩ := ck_some hm
        refine pw_iald hx hb hw Tq11 hi12 dX12_findAlong_54 ?_
        obtain ⟨hi13, hm⟩ := ck_some hm
        refine pw_iast hx hb hw Tq10 hi13 dX12_findAlong_55 (fun H locs hw => ?_)
        obtain ⟨S_14, eS_14, hm⟩ := lt_some hm
        rw [← eS_14] at hw
        have Ta0 : TY S_14 a0 12 := by rw [eS_14]; exact Ta0
        have hE : Ext S0 S_14 := by rw [eS_14]; exact hE
        refine lv_iinc (v := (x2 + (-1))) (lv' := [(2, .int (x2 + (-1))), (0, .ref a0), (1, .int x1)]) hx hb dX12_findAlong_56 hl (k := 2) rfl rfl (by decide) rfl (fun ls hl => ?_)
        refine lv_goto (tgt := 12) hx hb dX12_findAlong_59 (by decide) ?_
        exact ih a0 x1 (x2 + (-1)) S_14 _ _ _ hw hE Ta0 (lv_sub hl [1, 2, 0] rfl) hm
def b_X12_findAlong_2 (n : Nat) : Nat → Nat → Int32 → pq_S → Option pq_S
  | 0, _, _, _ => none
  | f + 1, a0, x1, S => if (pI S 1224 a0) ≤ x1 then some S else b_X12_findAlong_12 n (b_X12_findAlong_2 n f) n a0 x1 x1 S
set_option maxHeartbeats 4000000 in
set_option maxRecDepth 100000 in
theorem wb_X12_findAlong_2 {p : Program} {l : Launch} {e : Env} {s : State} {m : MethodId} {args : Array Value} {below : List Frame} {meth : Method} {c : Code} (cx : Cx p s m args meth c cX12_findAlong 3 RX12 none) (C : pq_C) (X : va_W) (S0 : pq_S) (n : Nat) (S1 : pq_S) : ∀ (f : Nat) (a0 : Nat) (x1 : Int32) (S : pq_S) (H : Heap) (locs : List Loc) (ls : Array Slot), PW C X S (pq_F C X S0 s.heap.size) H locs s → Ext S0 S → TY S a0 12 → lv_has ls 3 [(0, .ref a0), (1, .int x1)] → b_X12_findAlong_2 n f a0 x1 S = some S1 → W p l e rm_X12_findAlong s m args below meth c H locs 0 0 (MQ below (QcV C X S0 s.heap.size S1) args s 0 0 (pq_F C X S0 s.heap.size)) (F0 m 2 ls []) := by
  obtain ⟨hx, hb, hml, hown, hU, hr, hlk⟩ := id cx
  intro f
  induction f with
  | zero =>
    intro a0 x1 S H locs ls hw hE Ta0 hl hm
    cases hm
  | succ f ih =>
    intro a0 x1 S H locs ls hw hE Ta0 hl hm
    rw [b_X12_findAlong_2] at hm
    refine lv_iload_n hx hb dX12_findAlong_2 rfl (lv_at hl 1 rfl) ?_
    refine lv_aload_n hx hb dX12_findAlong_3 rfl (lv_at hl 0 rfl) ?_
    refine pg_i (k := 12) (j := 24) (f := 1224) hx hb hown hU iu12 hw Ta0 (by decide) rfl (hU _ tw1495) rfl dX12_findAlong_4 ?_
    refine lv_icmp_ge (tgt := 75) hx hb dX12_findAlong_7 (by decide) (fun h1 => ?_) (fun h1 => ?_)
    · rw [if_pos h1] at hm
      cases hm
      exact pw_vret hx hb hr hlk hw hE dX12_findAlong_75
    · rw [if_neg h1] at hm
      refine lv_iload_n hx hb dX12_findAlong_10 rfl (lv_at hl 1 rfl) ?_
      refine lv_istore_n (lv' := [(2, .int x1), (0, .ref a0), (1, .int x1)]) hx hb dX12_findAlong_11 rfl hl (by decide) rfl (fun ls hl => ?_)
      exact wb_X12_findAlong_12 cx C X S0 n S1 _ ih n a0 x1 x1 S _ _ _ hw hE Ta0 (lv_sub hl [1, 2, 0] rfl) hm
def m_X12_findAlong (n : Nat) (a0 : Nat) (S0 : pq_S) : Option pq_S := b_X12_findAlong_2 n n a0 0 S0
theorem tc_X12_findAlong : Cond.code yX12_findAlong cX12_findAlong 3 none ∈ pq_U := tw2036
theorem cd_X12_findAlong : yX12_findAlong.cls = RX12 ∧ yX12_findAlong.cls ≠ "java/lang/invoke/MethodHandle" ∧ yX12_findAlong.cls ≠ "java/lang/invoke/VarHandle" ∧ (parseMethodDescriptor yX12_findAlong.desc).map (fun d => d.parameters.length) = some 0 := by decide +kernel
set_option maxHeartbeats 4000000 in
set_option maxRecDepth 100000 in
theorem c_X12_findAlong (l : Launch) (C : pq_C) (X : va_W) (n : Nat) (S0 : pq_S) (hF : WF S0) (sz : Nat) (a0 : Nat) (Ta0 : TY S0 a0 12) (S1 : pq_S) (hm : m_X12_findAlong n a0 S0 = some S1) : MV l yX12_findAlong (.code yX12_findAlong cX12_findAlong 3 none :: pq_U) rm_X12_findAlong C X S0 sz [.ref a0] S1 0 0 := by
  refine Met.ofW (cc := cX12_findAlong) (maxL := 3) (ret := none) (by decide) rfl ?_
  intro p e s m args below meth c s₁ B hml hv
  obtain ⟨rfl, hv⟩ := hv
  have hsz := hv.1
  subst hsz
  have hw := pw_entry hF hv
  have hts := atoms_spec (ws := .code yX12_findAlong cX12_findAlong 3 none :: pq_U) B.pre
  have hU : ∀ w ∈ pq_U, w.before _ s = true := fun w h => hts w (List.mem_cons_of_mem _ h)
  have hx := B.exec
  have hb := B.bytes
  have hr := B.returns
  have hown : s.vm.findClass RX12 = some m.cls := findClass_of_methodNamed B.named
  have hlk := B.notSynchronized
  have hl := lv_entry ([.ref a0]) (n := 3) (Nat.le_of_ble_eq_true rfl)
  rw [lg_entry_eq]
  generalize (lg_sl ([.ref a0]) ++ List.replicate (3 - (lg_sl ([.ref a0])).length) Slot.unset).toArray = ls at hl ⊢
  have hl : lv_has ls 3 [(0, .ref a0)] := hl
  have hE : Ext S0 S0 := Ext.rf _
  have cx : Cx p s m _ meth c cX12_findAlong 3 RX12 none := ⟨hx, hb, hml, hown, hU, hr, hlk⟩
  rw [m_X12_findAlong] at hm
  refine lv_iconst (v := 0) hx hb dX12_findAlong_0 (by decide) ?_
  refine lv_istore_n (lv' := [(1, .int 0), (0, .ref a0)]) hx hb dX12_findAlong_1 rfl hl (by decide) rfl (fun ls hl => ?_)
  exact wb_X12_findAlong_2 cx C X S0 n S1 n a0 0 S0 _ _ _ hw hE Ta0 (lv_sub hl [1, 0] rfl) hm
abbrev rm_X12_missOf : Room := { frames := 0, cells := 0, slots := 0, locals := 0 }
def b_X12_missOf_82 (n : Nat) (k10 : Nat → Int32 → Int32 → Int32 → Int32 → pq_S → Option (Int32 × pq_S)) (a0 : Nat) (x1 : Int32) (x2 : Int32) (x3 : Int32) (x4 : Int32) (S : pq_S) : Option (Int32 × pq_S) := k10 a0 x1 x2 x3 (x4 + 1) S
set_option maxHeartbeats 4000000 in
set_option maxRecDepth 100000 in
theorem wb_X12_missOf_82 {p : Program} {l : Launch} {e : Env} {s : State} {m : MethodId} {args : Array Value} {below : List Frame} {meth : Method} {c : Code} (cx : Cx p s m args meth c cX12_missOf 5 RX12 (some .int)) (C : pq_C) (X : va_W) (S0 : pq_S) (n : Nat) (r : Int32) (S1 : pq_S) (k10 : Nat → Int32 → Int32 → Int32 → Int32 → pq_S → Option (Int32 × pq_S)) (hk10 : ∀ (a0 : Nat) (x1 : Int32) (x2 : Int32) (x3 : Int32) (x4 : Int32) (S : pq_S) (H : Heap) (locs : List Loc) (ls : Array Slot), PW C X S (pq_F C X S0 s.heap.size) H locs s → Ext S0 S → TY S a0 12 → lv_has ls 5 [(0, .ref a0), (1, .int x1), (2, .int x2), (3, .int x3), (4, .int x4)] → k10 a0 x1 x2 x3 x4 S = some (r, S1) → W p l e rm_X12_missOf s m args below meth c H locs 0 0 (MQ below (QcI C X S0 s.heap.size r S1) args s 0 0 (pq_F C X S0 s.heap.size)) (F0 m 11 ls [])) : ∀ (a0 : Nat) (x1 : Int32) (x2 : Int32) (x3 : Int32) (x4 : Int32) (S : pq_S) (H : Heap) (locs : List Loc) (ls : Array Slot), PW C X S (pq_F C X S0 s.heap.size) H locs s → Ext S0 S → TY S a0 12 → lv_has ls 5 [(0, .ref a0), (1, .int x1), (2, .int x2), (3, .int x3), (4, .int x4)] → b_X12_missOf_82 n k10 a0 x1 x2 x3 x4 S = some (r, S1) → W p l e rm_X12_missOf s m args below meth c H locs 0 0 (MQ below (QcI C X S0 s.heap.size r S1) args s 0 0 (pq_F C X S0 s.heap.size)) (F0 m 82 ls []) := by
  obtain ⟨hx, hb, hml, hown, hU, hr, hlk⟩ := id cx
  intro a0 x1 x2 x3 x4 S H locs ls hw hE Ta0 hl hm
  rw [b_X12_missOf_82] at hm
  refine lv_iinc (v := (x4 + 1)) (lv' := [(4, .int (x4 + 1)), (0, .ref a0), (1, .int x1), (2, .int x2), (3, .int x3)]) hx hb dX12_missOf_82 hl (k := 4) rfl rfl (by decide) rfl (fun ls hl => ?_)
  refine lv_goto (tgt := 11) hx hb dX12_missOf_85 (by decide) ?_
  exact hk10 a0 x1 x2 x3 (x4 + 1) S _ _ _ hw hE Ta0 (lv_sub hl [1, 2, 3, 4, 0] rfl) hm
def b_X12_missOf_55 (n : Nat) (k10 : Nat → Int32 → Int32 → Int32 → Int32 → pq_S → Option (Int32 × pq_S)) (a0 : Nat) (x1 : Int32) (x2 : Int32) (x3 : Int32) (x4 : Int32) (S : pq_S) : Option (Int32 × pq_S) := if (pI S 1224 a0) ≤ (x4 + (1 : Int32)) then b_X12_missOf_82 n k10 a0 x1 x2 x3 x4 S else Option.bind (pR S 1264 a0) fun q11 => ck (ix (x4 + (1 : Int32)) (pN S q11)) (dix _ _) (lt_ (x3 + ((x2 >>> ((pA S q11 (Int32.toNatClampNeg (x4 + (1 : Int32)))) &&& (31 : Int32))) &&& (1 : Int32))) fun v13 => b_X12_missOf_82 n k10 a0 x1 x2 v13 x4 S)
set_option maxHeartbeats 4000000 in
set_option maxRecDepth 100000 in
theorem wb_X12_missOf_55 {p : Program} {l : Launch} {e : Env} {s : State} {m : MethodId} {args : Array Value} {below : List Frame} {meth : Method} {c : Code} (cx : Cx p s m args meth c cX12_missOf 5 RX12 (some .int)) (C : pq_C) (X : va_W) (S0 : pq_S) (n : Nat) (r : Int32) (S1 : pq_S) (k10 : Nat → Int32 → Int32 → Int32 → Int32 → pq_S → Option (Int32 × pq_S)) (hk10 : ∀ (a0 : Nat) (x1 : Int32) (x2 : Int32) (x3 : Int32) (x4 : Int32) (S : pq_S) (H : Heap) (locs : List Loc) (ls : Array Slot), PW C X S (pq_F C X S0 s.heap.size) H locs s → Ext S0 S → TY S a0 12 → lv_has ls 5 [(0, .ref a0), (1, .int x1), (2, .int x2), (3, .int x3), (4, .int x4)] → k10 a0 x1 x2 x3 x4 S = some (r, S1) → W p l e rm_X12_missOf s m args below meth c H locs 0 0 (MQ below (QcI C X S0 s.heap.size r S1) args s 0 0 (pq_F C X S0 s.heap.size)) (F0 m 11 ls [])) : ∀ (a0 : Nat) (x1 : Int32) (x2 : Int32) (x3 : Int32) (x4 : Int32) (S : pq_S) (H : Heap) (locs : List Loc) (ls : Array Slot), PW C X S (pq_F C X S0 s.heap.size) H locs s → Ext S0 S → TY S a0 12 → lv_has ls 5 [(0, .ref a0), (1, .int x1), (2, .int x2), (3, .int x3), (4, .int x4)] → b_X12_missOf_55 n k10 a0 x1 x2 x3 x4 S = some (r, S1) → W p l e rm_X12_missOf s m args below meth c H locs 0 0 (MQ below (QcI C X S0 s.heap.size r S1) args s 0 0 (pq_F C X S0 s.heap.size)) (F0 m 55 ls []) := by
  obtain ⟨hx, hb, hml, hown, hU, hr, hlk⟩ := id cx
  intro a0 x1 x2 x3 x4 S H locs ls hw hE Ta0 hl hm
  rw [b_X12_missOf_55] at hm
  refine lv_iload hx hb dX12_missOf_55 (lv_at hl 4 rfl) ?_
  refine lv_iconst (v := 1) hx hb dX12_missOf_57 (by decide) ?_
  refine lv_iadd hx hb dX12_missOf_58 ?_
  refine lv_aload_n hx hb dX12_missOf_59 rfl (lv_at hl 0 rfl) ?_
  refine pg_i (k := 12) (j := 24) (f := 1224) hx hb hown hU iu12 hw Ta0 (by decide) rfl (hU _ tw1495) rfl dX12_missOf_60 ?_
  refine lv_icmp_ge (tgt := 82) hx hb dX12_missOf_63 (by decide) (fun h10 => ?_) (fun h10 => ?_)
  · rw [if_pos h10] at hm
    exact wb_X12_missOf_82 cx C X S0 n r S1 _ hk10 a0 x1 x2 x3 x4 S _ _ _ hw hE Ta0 (lv_sub hl [0, 1, 2, 3, 4] rfl) hm
  · rw [if_neg h10] at hm
    refine lv_iload_n hx hb dX12_missOf_66 rfl (lv_at hl 3 rfl) ?_
    refine lv_iload_n hx hb dX12_missOf_67 rfl (lv_at hl 2 rfl) ?_
    refine lv_aload_n hx hb dX12_missOf_68 rfl (lv_at hl 0 rfl) ?_
    obtain ⟨q11, hq11, hm⟩ := bd_some hm
    have Tq11 : TY S q11 14 := hw.wf.ref (k := 12) (j := 64) Ta0 (by decide) (by decide) hq11
    refine pg_rb (k := 12) (j := 64) (f := 1264) hx hb hown hU iu12 hw Ta0 (by decide) rfl (hU _ tw1535) rfl hq11 dX12_missOf_69 ?_
    refine lv_iload hx hb dX12_missOf_72 (lv_at hl 4 rfl) ?_
    refine lv_iconst (v := 1) hx hb dX12_missOf_74 (by decide) ?_
    refine lv_iadd hx hb dX12_missOf_75 ?_
    obtain ⟨hi12, hm⟩ := ck_some hm
    refine pw_iald hx hb hw Tq11 hi12 dX12_missOf_76 ?_
    refine lv_ishr hx hb dX12_missOf_77 ?_
    refine lv_iconst (v := 1) hx hb dX12_missOf_78 (by decide) ?_
    refine lv_iand hx hb dX12_missOf_79 ?_
    refine lv_iadd hx hb dX12_missOf_80 ?_
    obtain ⟨v13, ev13, hm⟩ := lt_some hm
    refine lv_nmI ev13 ?_
    refine lv_istore_n (lv' := [(3, .int v13), (0, .ref a0), (1, .int x1), (2, .int x2), (4, .int x4)]) hx hb dX12_missOf_81 rfl hl (by decide) rfl (fun ls hl => ?_)
    exact wb_X12_missOf_82 cx C X S0 n r S1 _ hk10 a0 x1 x2 v13 x4 S _ _ _ hw hE Ta0 (lv_sub hl [1, 2, 3, 0, 4] rfl) hm
def b_X12_missOf_11 (n : Nat) : Nat → Nat → Int32 → Int32 → Int32 → Int32 → pq_S → Option (Int32 × pq_S)
  | 0, _, _, _, _, _, _ => none
  | f + 1, a0, x1, x2, x3, x4, S => if (pI S 1224 a0) ≤ x4 then some (x3, S) else Option.bind (pR S 1264 a0) fun q3 => ck (ix x4 (pN S q3)) (dix _ _) (if (pA S q3 (Int32.toNatClampNeg x4)) = x1 then if x4 ≤ 0 then b_X12_missOf_55 n (b_X12_missOf_11 n f) a0 x1 x2 x3 x4 S else Option.bind (pR S 1264 a0) fun q7 => ck (ix (x4 - (1 : Int32)) (pN S q7)) (dix _ _) (lt_ (x3 + ((x2 >>> ((pA S q7 (Int32.toNatClampNeg (x4 - (1 : Int32)))) &&& (31 : Int32))) &&& (1 : Int32))) fun v9 => b_X12_missOf_55 n (b_X12_missOf_11 n f) a0 x1 x2 v9 x4 S) else b_X12_missOf_82 n (b_X12_missOf_11 n f) a0 x1 x2 x3 x4 S)
set_option maxHeartbeats 4000000 in
set_option maxRecDepth 100000 in
theorem wb_X12_missOf_11 {p : Program} {l : Launch} {e : Env} {s : State} {m : MethodId} {args : Array Value} {below : List Frame} {meth : Method} {c : Code} (cx : Cx p s m args meth c cX12_missOf 5 RX12 (some .int)) (C : pq_C) (X : va_W) (S0 : pq_S) (n : Nat) (r : Int32) (S1 : pq_S) : ∀ (f : Nat) (a0 : Nat) (x1 : Int32) (x2 : Int32) (x3 : Int32) (x4 : Int32) (S : pq_S) (H : Heap) (locs : List Loc) (ls : Array Slot), PW C X S (pq_F C X S0 s.heap.size) H locs s → Ext S0 S → TY S a0 12 → lv_has ls 5 [(0, .ref a0), (1, .int x1), (2, .int x2), (3, .int x3), (4, .int x4)] → b_X12_missOf_11 n f a0 x1 x2 x3 x4 S = some (r, S1) → W p l e rm_X12_missOf s m args below meth c H locs 0 0 (MQ below (QcI C X S0 s.heap.size r S1) args s 0 0 (pq_F C X S0 s.heap.size)) (F0 m 11 ls []) := by
  obtain ⟨hx, hb, hml, hown, hU, hr, hlk⟩ := id cx
  intro f
  induction f with
  | zero =>
    intro a0 x1 x2 x3 x4 S H locs ls hw hE Ta0 hl hm
    cases hm
  | succ f ih =>
    intro a0 x1 x2 x3 x4 S H locs ls hw hE Ta0 hl hm
    rw [b_X12_missOf_11] at hm
    refine lv_iload hx hb dX12_missOf_11 (lv_at hl 4 rfl) ?_
    refine lv_aload_n hx hb dX12_missOf_13 rfl (lv_at hl 0 rfl) ?_
    refine pg_i (k := 12) (j := 24) (f := 1224) hx hb hown hU iu12 hw Ta0 (by decide) rfl (hU _ tw1495) rfl dX12_missOf_14 ?_
    refine lv_icmp_ge (tgt := 88) hx hb dX12_missOf_17 (by decide) (fun h2 => ?_) (fun h2 => ?_)
    · rw [if_pos h2] at hm
      refine lv_iload_n hx hb dX12_missOf_88 rfl (lv_at hl 3 rfl) ?_
      cases hm
      exact pw_iret hx hb hr rfl hlk hw hE dX12_missOf_89
    · rw [if_neg h2] at hm
      refine lv_aload_n hx hb dX12_missOf_20 rfl (lv_at hl 0 rfl) ?_
      obtain ⟨q3, hq3, hm⟩ := bd_some hm
      have Tq3 : TY S q3 14 := hw.wf.ref (k := 12) (j := 64) Ta0 (by decide) (by decide) hq3
      refine pg_rb (k := 12) (j := 64) (f := 1264) hx hb hown hU iu12 hw Ta0 (by decide) rfl (hU _ tw1535) rfl hq3 dX12_missOf_21 ?_
      refine lv_iload hx hb dX12_missOf_24 (lv_at hl 4 rfl) ?_
      obtain ⟨hi4, hm⟩ := ck_some hm
      refine pw_iald hx hb hw Tq3 hi4 dX12_missOf_26 ?_
      refine lv_iload_n hx hb dX12_missOf_27 rfl (lv_at hl 1 rfl) ?_
      refine lv_icmp_eq (tgt := 34) hx hb dX12_missOf_28 (by decide) (fun h5 => ?_) (fun h5 => ?_)
      · rw [if_pos h5] at hm
        refine lv_iload hx hb dX12_missOf_34 (lv_at hl 4 rfl) ?_
        refine lv_if_le (tgt := 55) hx hb dX12_missOf_36 (by decide) (fun h6 => ?_) (fun h6 => ?_)
        · rw [if_pos h6] at hm
          exact wb_X12_missOf_55 cx C X S0 n r S1 _ ih a0 x1 x2 x3 x4 S _ _ _ hw hE Ta0 (lv_sub hl [0, 1, 2, 3, 4] rfl) hm
        · rw [if_neg h6] at hm
          refine lv_iload_n hx hb dX12_missOf_39 rfl (lv_at hl 3 rfl) ?_
          refine lv_iload_n hx hb dX12_missOf_40 rfl (lv_at hl 2 rfl) ?_
          refine lv_aload_n hx hb dX12_missOf_41 rfl (lv_at hl 0 rfl) ?_
          obtain ⟨q7, hq7, hm⟩ := bd_some hm
          have Tq7 : TY S q7 14 := hw.wf.ref (k := 12) (j := 64) Ta0 (by decide) (by decide) hq7
          refine pg_rb (k := 12) (j := 64) (f := 1264) hx hb hown hU iu12 hw Ta0 (by decide) rfl (hU _ tw1535) rfl hq7 dX12_missOf_42 ?_
          refine lv_iload hx hb dX12_missOf_45 (lv_at hl 4 rfl) ?_
          refine lv_iconst (v := 1) hx hb dX12_missOf_47 (by decide) ?_
          refine lv_isub hx hb dX12_missOf_48 ?_
          obtain ⟨hi8, hm⟩ := ck_some hm
          refine pw_iald hx hb hw Tq7 hi8 dX12_missOf_49 ?_
          refine lv_ishr hx hb dX12_missOf_50 ?_
          refine lv_iconst (v := 1) hx hb dX12_missOf_51 (by decide) ?_
          refine lv_iand hx hb dX12_missOf_52 ?_
          refine lv_iadd hx hb dX12_missOf_53 ?_
          obtain ⟨v9, ev9, hm⟩ := lt_some hm
          refine lv_nmI ev9 ?_
          refine lv_istore_n (lv' := [(3, .int v9), (0, .ref a0), (1, .int x1), (2, .int x2), (4, .int x4)]) hx hb dX12_missOf_54 rfl hl (by decide) rfl (fun ls hl => ?_)
          exact wb_X12_missOf_55 cx C X S0 n r S1 _ ih a0 x1 x2 v9 x4 S _ _ _ hw hE Ta0 (lv_sub hl [1, 2, 3, 0, 4] rfl) hm
      · rw [if_neg h5] at hm
        refine lv_goto (tgt := 82) hx hb dX12_missOf_31 (by decide) ?_
        exact wb_X12_missOf_82 cx C X S0 n r S1 _ ih a0 x1 x2 x3 x4 S _ _ _ hw hE Ta0 (lv_sub hl [0, 1, 2, 3, 4] rfl) hm
def m_X12_missOf (n : Nat) (a0 : Nat) (x1 : Int32) (x2 : Int32) (S0 : pq_S) : Option (Int32 × pq_S) := lt_ ((2 : Int32) * ((x2 >>> (x1 &&& (31 : Int32))) &&& (1 : Int32))) fun v1 => b_X12_missOf_11 n n a0 x1 x2 v1 0 S0
theorem tc_X12_missOf : Cond.code yX12_missOf cX12_missOf 5 (some .int) ∈ pq_U := tw2040
theorem cd_X12_missOf : yX12_missOf.cls = RX12 ∧ yX12_missOf.cls ≠ "java/lang/invoke/MethodHandle" ∧ yX12_missOf.cls ≠ "java/lang/invoke/VarHandle" ∧ (parseMethodDescriptor yX12_missOf.desc).map (fun d => d.parameters.length) = some 2 := by decide +kernel
set_option maxHeartbeats 4000000 in
set_option maxRecDepth 100000 in
theorem c_X12_missOf (l : Launch) (C : pq_C) (X : va_W) (n : Nat) (S0 : pq_S) (hF : WF S0) (sz : Nat) (a0 : Nat) (x1 : Int32) (x2 : Int32) (Ta0 : TY S0 a0 12) (r : Int32) (S1 : pq_S) (hm : m_X12_missOf n a0 x1 x2 S0 = some (r, S1)) : MI l yX12_missOf (.code yX12_missOf cX12_missOf 5 (some .int) :: pq_U) rm_X12_missOf C X S0 sz [.ref a0, .int x1, .int x2] r S1 0 0 := by
  refine Met.ofW (cc := cX12_missOf) (maxL := 5) (ret := (some .int)) (by decide) rfl ?_
  intro p e s m args below meth c s₁ B hml hv
  obtain ⟨rfl, hv⟩ := hv
  have hsz := hv.1
  subst hsz
  have hw := pw_entry hF hv
  have hts := atoms_spec (ws := .code yX12_missOf cX12_missOf 5 (some .int) :: pq_U) B.pre
  have hU : ∀ w ∈ pq_U, w.before _ s = true := fun w h => hts w (List.mem_cons_of_mem _ h)
  have hx := B.exec
  have hb := B.bytes
  have hr := B.returns
  have hown : s.vm.findClass RX12 = some m.cls := findClass_of_methodNamed B.named
  have hlk := B.notSynchronized
  have hl := lv_entry ([.ref a0, .int x1, .int x2]) (n := 5) (Nat.le_of_ble_eq_true rfl)
  rw [lg_entry_eq]
  generalize (lg_sl ([.ref a0, .int x1, .int x2]) ++ List.replicate (5 - (lg_sl ([.ref a0, .int x1, .int x2])).length) Slot.unset).toArray = ls at hl ⊢
  have hl : lv_has ls 5 [(0, .ref a0), (1, .int x1), (2, .int x2)] := hl
  have hE : Ext S0 S0 := Ext.rf _
  have cx : Cx p s m _ meth c cX12_missOf 5 RX12 (some .int) := ⟨hx, hb, hml, hown, hU, hr, hlk⟩
  rw [m_X12_missOf] at hm
  refine lv_iconst (v := 2) hx hb dX12_missOf_0 (by decide) ?_
  refine lv_iload_n hx hb dX12_missOf_1 rfl (lv_at hl 2 rfl) ?_
  refine lv_iload_n hx hb dX12_missOf_2 rfl (lv_at hl 1 rfl) ?_
  refine lv_ishr hx hb dX12_missOf_3 ?_
  refine lv_iconst (v := 1) hx hb dX12_missOf_4 (by decide) ?_
  refine lv_iand hx hb dX12_missOf_5 ?_
  refine lv_imul hx hb dX12_missOf_6 ?_
  obtain ⟨v1, ev1, hm⟩ := lt_some hm
  refine lv_nmI ev1 ?_
  refine lv_istore_n (lv' := [(3, .int v1), (0, .ref a0), (1, .int x1), (2, .int x2)]) hx hb dX12_missOf_7 rfl hl (by decide) rfl (fun ls hl => ?_)
  refine lv_iconst (v := 0) hx hb dX12_missOf_8 (by decide) ?_
  refine lv_istore (lv' := [(4, .int 0), (3, .int v1), (0, .ref a0), (1, .int x1), (2, .int x2)]) hx hb dX12_missOf_9 hl (by decide) rfl (fun ls hl => ?_)
  exact wb_X12_missOf_11 cx C X S0 n r S1 n a0 x1 x2 v1 0 S0 _ _ _ hw hE Ta0 (lv_sub hl [2, 3, 4, 1, 0] rfl) hm
abbrev rm_X12_leaky : Room := { frames := 1, cells := 0, slots := 0, locals := 24 }
def b_X12_leaky_111 (n : Nat) (k31 : Nat → Int32 → Int32 → Int32 → Int32 → Int32 → Int32 → pq_S → Option (Int32 × pq_S)) (k41 : Nat → Int32 → Int32 → Int32 → Int32 → Int32 → Int32 → Int32 → Int32 → pq_S → Option (Int32 × pq_S)) (a0 : Nat) (x1 : Int32) (x2 : Int32) (x3 : Int32) (x4 : Int32) (x5 : Int32) (x6 : Int32) (x8 : Int32) (z0 : Int32) (S : pq_S) : Option (Int32 × pq_S) := k41 a0 x1 x2 x3 x4 x5 x6 z0 (x8 + 1) S
set_option maxHeartbeats 4000000 in
set_option maxRecDepth 100000 in
theorem wb_X12_leaky_111 {p : Program} {l : Launch} {e : Env} {s : State} {m : MethodId} {args : Array Value} {below : List Frame} {meth : Method} {c : Code} (cx : Cx p s m args meth c cX12_leaky 9 RX12 (some .int)) (C : pq_C) (X : va_W) (S0 : pq_S) (n : Nat) (r : Int32) (S1 : pq_S) (k31 : Nat → Int32 → Int32 → Int32 → Int32 → Int32 → Int32 → pq_S → Option (Int32 × pq_S)) (hk31 : ∀ (a0 : Nat) (x1 : Int32) (x2 : Int32) (x3 : Int32) (x4 : Int32) (x5 : Int32) (x6 : Int32) (S : pq_S) (H : Heap) (locs : List Loc) (ls : Array Slot), PW C X S (pq_F C X S0 s.heap.size) H locs s → Ext S0 S → TY S a0 12 → lv_has ls 9 [(0, .ref a0), (1, .int x1), (2, .int x2), (3, .int x3), (4, .int x4), (5, .int x5), (6, .int x6)] → k31 a0 x1 x2 x3 x4 x5 x6 S = some (r, S1) → W p l e rm_X12_leaky s m args below meth c H locs 0 0 (MQ below (QcI C X S0 s.heap.size r S1) args s 0 0 (pq_F C X S0 s.heap.size)) (F0 m 46 ls [])) (k41 : Nat → Int32 → Int32 → Int32 → Int32 → Int32 → Int32 → Int32 → Int32 → pq_S → Option (Int32 × pq_S)) (hk41 : ∀ (a0 : Nat) (x1 : Int32) (x2 : Int32) (x3 : Int32) (x4 : Int32) (x5 : Int32) (x6 : Int32) (x7 : Int32) (x8 : Int32) (S : pq_S) (H : Heap) (locs : List Loc) (ls : Array Slot), PW C X S (pq_F C X S0 s.heap.size) H locs s → Ext S0 S → TY S a0 12 → lv_has ls 9 [(0, .ref a0), (1, .int x1), (2, .int x2), (3, .int x3), (4, .int x4), (5, .int x5), (6, .int x6), (7, .int x7), (8, .int x8)] → k41 a0 x1 x2 x3 x4 x5 x6 x7 x8 S = some (r, S1) → W p l e rm_X12_leaky s m args below meth c H locs 0 0 (MQ below (QcI C X S0 s.heap.size r S1) args s 0 0 (pq_F C X S0 s.heap.size)) (F0 m 63 ls [])) : ∀ (a0 : Nat) (x1 : Int32) (x2 : Int32) (x3 : Int32) (x4 : Int32) (x5 : Int32) (x6 : Int32) (x8 : Int32) (z0 : Int32) (S : pq_S) (H : Heap) (locs : List Loc) (ls : Array Slot), PW C X S (pq_F C X S0 s.heap.size) H locs s → Ext S0 S → TY S a0 12 → lv_has ls 9 [(0, .ref a0), (1, .int x1), (2, .int x2), (3, .int x3), (4, .int x4), (5, .int x5), (6, .int x6), (8, .int x8)] → b_X12_leaky_111 n k31 k41 a0 x1 x2 x3 x4 x5 x6 x8 z0 S = some (r, S1) → W p l e rm_X12_leaky s m args below meth c H locs 0 0 (MQ below (QcI C X S0 s.heap.size r S1) args s 0 0 (pq_F C X S0 s.heap.size)) (F0 m 111 ls [.int z0]) := by
  obtain ⟨hx, hb, hml, hown, hU, hr, hlk⟩ := id cx
  intro a0 x1 x2 x3 x4 x5 x6 x8 z0 S H locs ls hw hE Ta0 hl hm
  rw [b_X12_leaky_111] at hm
  refine lv_istore (lv' := [(7, .int z0), (0, .ref a0), (1, .int x1), (2, .int x2), (3, .int x3), (4, .int x4), (5, .int x5), (6, .int x6), (8, .int x8)]) hx hb dX12_leaky_111 hl (by decide) rfl (fun ls hl => ?_)
  refine lv_iinc (v := (x8 + 1)) (lv' := [(8, .int (x8 + 1)), (7, .int z0), (0, .ref a0), (1, .int x1), (2, .int x2), (3, .int x3), (4, .int x4), (5, .int x5), (6, .int x6)]) hx hb dX12_leaky_113 hl (k := 8) rfl rfl (by decide) rfl (fun ls hl => ?_)
  refine lv_goto (tgt := 63) hx hb dX12_leaky_116 (by decide) ?_
  exact hk41 a0 x1 x2 x3 x4 x5 x6 z0 (x8 + 1) S _ _ _ hw hE Ta0 (lv_sub hl [2, 3, 4, 5, 6, 7, 8, 1, 0] rfl) hm
def b_X12_leaky_110 (n : Nat) (k31 : Nat → Int32 → Int32 → Int32 → Int32 → Int32 → Int32 → pq_S → Option (Int32 × pq_S)) (k41 : Nat → Int32 → Int32 → Int32 → Int32 → Int32 → Int32 → Int32 → Int32 → pq_S → Option (Int32 × pq_S)) (a0 : Nat) (x1 : Int32) (x2 : Int32) (x3 : Int32) (x4 : Int32) (x5 : Int32) (x6 : Int32) (x8 : Int32) (S : pq_S) : Option (Int32 × pq_S) := b_X12_leaky_111 n k31 k41 a0 x1 x2 x3 x4 x5 x6 x8 0 S
set_option maxHeartbeats 4000000 in
set_option maxRecDepth 100000 in
theorem wb_X12_leaky_110 {p : Program} {l : Launch} {e : Env} {s : State} {m : MethodId} {args : Array Value} {below : List Frame} {meth : Method} {c : Code} (cx : Cx p s m args meth c cX12_leaky 9 RX12 (some .int)) (C : pq_C) (X : va_W) (S0 : pq_S) (n : Nat) (r : Int32) (S1 : pq_S) (k31 : Nat → Int32 → Int32 → Int32 → Int32 → Int32 → Int32 → pq_S → Option (Int32 × pq_S)) (hk31 : ∀ (a0 : Nat) (x1 : Int32) (x2 : Int32) (x3 : Int32) (x4 : Int32) (x5 : Int32) (x6 : Int32) (S : pq_S) (H : Heap) (locs : List Loc) (ls : Array Slot), PW C X S (pq_F C X S0 s.heap.size) H locs s → Ext S0 S → TY S a0 12 → lv_has ls 9 [(0, .ref a0), (1, .int x1), (2, .int x2), (3, .int x3), (4, .int x4), (5, .int x5), (6, .int x6)] → k31 a0 x1 x2 x3 x4 x5 x6 S = some (r, S1) → W p l e rm_X12_leaky s m args below meth c H locs 0 0 (MQ below (QcI C X S0 s.heap.size r S1) args s 0 0 (pq_F C X S0 s.heap.size)) (F0 m 46 ls [])) (k41 : Nat → Int32 → Int32 → Int32 → Int32 → Int32 → Int32 → Int32 → Int32 → pq_S → Option (Int32 × pq_S)) (hk41 : ∀ (a0 : Nat) (x1 : Int32) (x2 : Int32) (x3 : Int32) (x4 : Int32) (x5 : Int32) (x6 : Int32) (x7 : Int32) (x8 : Int32) (S : pq_S) (H : Heap) (locs : List Loc) (ls : Array Slot), PW C X S (pq_F C X S0 s.heap.size) H locs s → Ext S0 S → TY S a0 12 → lv_has ls 9 [(0, .ref a0), (1, .int x1), (2, .int x2), (3, .int x3), (4, .int x4), (5, .int x5), (6, .int x6), (7, .int x7), (8, .int x8)] → k41 a0 x1 x2 x3 x4 x5 x6 x7 x8 S = some (r, S1) → W p l e rm_X12_leaky s m args below meth c H locs 0 0 (MQ below (QcI C X S0 s.heap.size r S1) args s 0 0 (pq_F C X S0 s.heap.size)) (F0 m 63 ls [])) : ∀ (a0 : Nat) (x1 : Int32) (x2 : Int32) (x3 : Int32) (x4 : Int32) (x5 : Int32) (x6 : Int32) (x8 : Int32) (S : pq_S) (H : Heap) (locs : List Loc) (ls : Array Slot), PW C X S (pq_F C X S0 s.heap.size) H locs s → Ext S0 S → TY S a0 12 → lv_has ls 9 [(0, .ref a0), (1, .int x1), (2, .int x2), (3, .int x3), (4, .int x4), (5, .int x5), (6, .int x6), (8, .int x8)] → b_X12_leaky_110 n k31 k41 a0 x1 x2 x3 x4 x5 x6 x8 S = some (r, S1) → W p l e rm_X12_leaky s m args below meth c H locs 0 0 (MQ below (QcI C X S0 s.heap.size r S1) args s 0 0 (pq_F C X S0 s.heap.size)) (F0 m 110 ls []) := by
  obtain ⟨hx, hb, hml, hown, hU, hr, hlk⟩ := id cx
  intro a0 x1 x2 x3 x4 x5 x6 x8 S H locs ls hw hE Ta0 hl hm
  rw [b_X12_leaky_110] at hm
  refine lv_iconst (v := 0) hx hb dX12_leaky_110 (by decide) ?_
  exact wb_X12_leaky_111 cx C X S0 n r S1 _ hk31 _ hk41 a0 x1 x2 x3 x4 x5 x6 x8 0 S _ _ _ hw hE Ta0 (lv_sub hl [0, 1, 2, 3, 4, 5, 6, 7] rfl) hm
def b_X12_leaky_156 (n : Nat) (k31 : Nat → Int32 → Int32 → Int32 → Int32 → Int32 → Int32 → pq_S → Option (Int32 × pq_S)) (a0 : Nat) (x1 : Int32) (x2 : Int32) (x3 : Int32) (x4 : Int32) (x5 : Int32) (x6 : Int32) (S : pq_S) : Option (Int32 × pq_S) := k31 a0 x1 x2 x3 x4 x5 (x6 + 1) S
set_option maxHeartbeats 4000000 in
set_option maxRecDepth 100000 in
theorem wb_X12_leaky_156 {p : Program} {l : Launch} {e : Env} {s : State} {m : MethodId} {args : Array Value} {below : List Frame} {meth : Method} {c : Code} (cx : Cx p s m args meth c cX12_leaky 9 RX12 (some .int)) (C : pq_C) (X : va_W) (S0 : pq_S) (n : Nat) (r : Int32) (S1 : pq_S) (k31 : Nat → Int32 → Int32 → Int32 → Int32 → Int32 → Int32 → pq_S → Option (Int32 × pq_S)) (hk31 : ∀ (a0 : Nat) (x1 : Int32) (x2 : Int32) (x3 : Int32) (x4 : Int32) (x5 : Int32) (x6 : Int32) (S : pq_S) (H : Heap) (locs : List Loc) (ls : Array Slot), PW C X S (pq_F C X S0 s.heap.size) H locs s → Ext S0 S → TY S a0 12 → lv_has ls 9 [(0, .ref a0), (1, .int x1), (2, .int x2), (3, .int x3), (4, .int x4), (5, .int x5), (6, .int x6)] → k31 a0 x1 x2 x3 x4 x5 x6 S = some (r, S1) → W p l e rm_X12_leaky s m args below meth c H locs 0 0 (MQ below (QcI C X S0 s.heap.size r S1) args s 0 0 (pq_F C X S0 s.heap.size)) (F0 m 46 ls [])) : ∀ (a0 : Nat) (x1 : Int32) (x2 : Int32) (x3 : Int32) (x4 : Int32) (x5 : Int32) (x6 : Int32) (S : pq_S) (H : Heap) (locs : List Loc) (ls : Array Slot), PW C X S (pq_F C X S0 s.heap.size) H locs s → Ext S0 S → TY S a0 12 → lv_has ls 9 [(0, .ref a0), (1, .int x1), (2, .int x2), (3, .int x3), (4, .int x4), (5, .int x5), (6, .int x6)] → b_X12_leaky_156 n k31 a0 x1 x2 x3 x4 x5 x6 S = some (r, S1) → W p l e rm_X12_leaky s m args below meth c H locs 0 0 (MQ below (QcI C X S0 s.heap.size r S1) args s 0 0 (pq_F C X S0 s.heap.size)) (F0 m 156 ls []) := by
  obtain ⟨hx, hb, hml, hown, hU, hr, hlk⟩ := id cx
  intro a0 x1 x2 x3 x4 x5 x6 S H locs ls hw hE Ta0 hl hm
  rw [b_X12_leaky_156] at hm
  refine lv_iinc (v := (x6 + 1)) (lv' := [(6, .int (x6 + 1)), (0, .ref a0), (1, .int x1), (2, .int x2), (3, .int x3), (4, .int x4), (5, .int x5)]) hx hb dX12_leaky_156 hl (k := 6) rfl rfl (by decide) rfl (fun ls hl => ?_)
  refine lv_goto (tgt := 46) hx hb dX12_leaky_159 (by decide) ?_
  exact hk31 a0 x1 x2 x3 x4 x5 (x6 + 1) S _ _ _ hw hE Ta0 (lv_sub hl [1, 2, 3, 4, 5, 6, 0] rfl) hm
def b_X12_leaky_141 (n : Nat) (k31 : Nat → Int32 → Int32 → Int32 → Int32 → Int32 → Int32 → pq_S → Option (Int32 × pq_S)) (a0 : Nat) (x1 : Int32) (x2 : Int32) (x4 : Int32) (x5 : Int32) (x6 : Int32) (z0 : Int32) (S : pq_S) : Option (Int32 × pq_S) := b_X12_leaky_156 n k31 a0 x1 x2 z0 (x4 &&& x6) (x5 ||| x6) x6 S
set_option maxHeartbeats 4000000 in
set_option maxRecDepth 100000 in
theorem wb_X12_leaky_141 {p : Program} {l : Launch} {e : Env} {s : State} {m : MethodId} {args : Array Value} {below : List Frame} {meth : Method} {c : Code} (cx : Cx p s m args meth c cX12_leaky 9 RX12 (some .int)) (C : pq_C) (X : va_W) (S0 : pq_S) (n : Nat) (r : Int32) (S1 : pq_S) (k31 : Nat → Int32 → Int32 → Int32 → Int32 → Int32 → Int32 → pq_S → Option (Int32 × pq_S)) (hk31 : ∀ (a0 : Nat) (x1 : Int32) (x2 : Int32) (x3 : Int32) (x4 : Int32) (x5 : Int32) (x6 : Int32) (S : pq_S) (H : Heap) (locs : List Loc) (ls : Array Slot), PW C X S (pq_F C X S0 s.heap.size) H locs s → Ext S0 S → TY S a0 12 → lv_has ls 9 [(0, .ref a0), (1, .int x1), (2, .int x2), (3, .int x3), (4, .int x4), (5, .int x5), (6, .int x6)] → k31 a0 x1 x2 x3 x4 x5 x6 S = some (r, S1) → W p l e rm_X12_leaky s m args below meth c H locs 0 0 (MQ below (QcI C X S0 s.heap.size r S1) args s 0 0 (pq_F C X S0 s.heap.size)) (F0 m 46 ls [])) : ∀ (a0 : Nat) (x1 : Int32) (x2 : Int32) (x4 : Int32) (x5 : Int32) (x6 : Int32) (z0 : Int32) (S : pq_S) (H : Heap) (locs : List Loc) (ls : Array Slot), PW C X S (pq_F C X S0 s.heap.size) H locs s → Ext S0 S → TY S a0 12 → lv_has ls 9 [(0, .ref a0), (1, .int x1), (2, .int x2), (4, .int x4), (5, .int x5), (6, .int x6)] → b_X12_leaky_141 n k31 a0 x1 x2 x4 x5 x6 z0 S = some (r, S1) → W p l e rm_X12_leaky s m args below meth c H locs 0 0 (MQ below (QcI C X S0 s.heap.size r S1) args s 0 0 (pq_F C X S0 s.heap.size)) (F0 m 141 ls [.int z0]) := by
  obtain ⟨hx, hb, hml, hown, hU, hr, hlk⟩ := id cx
  intro a0 x1 x2 x4 x5 x6 z0 S H locs ls hw hE Ta0 hl hm
  rw [b_X12_leaky_141] at hm
  refine lv_istore_n (lv' := [(3, .int z0), (0, .ref a0), (1, .int x1), (2, .int x2), (4, .int x4), (5, .int x5), (6, .int x6)]) hx hb dX12_leaky_141 rfl hl (by decide) rfl (fun ls hl => ?_)
  refine lv_iload hx hb dX12_leaky_142 (lv_at hl 4 rfl) ?_
  refine lv_iload hx hb dX12_leaky_144 (lv_at hl 6 rfl) ?_
  refine lv_iand hx hb dX12_leaky_146 ?_
  refine lv_istore (lv' := [(4, .int (x4 &&& x6)), (3, .int z0), (0, .ref a0), (1, .int x1), (2, .int x2), (5, .int x5), (6, .int x6)]) hx hb dX12_leaky_147 hl (by decide) rfl (fun ls hl => ?_)
  refine lv_iload hx hb dX12_leaky_149 (lv_at hl 5 rfl) ?_
  refine lv_iload hx hb dX12_leaky_151 (lv_at hl 6 rfl) ?_
  refine lv_ior hx hb dX12_leaky_153 ?_
  refine lv_istore (lv' := [(5, .int (x5 ||| x6)), (4, .int (x4 &&& x6)), (3, .int z0), (0, .ref a0), (1, .int x1), (2, .int x2), (6, .int x6)]) hx hb dX12_leaky_154 hl (by decide) rfl (fun ls hl => ?_)
  exact wb_X12_leaky_156 cx C X S0 n r S1 _ hk31 a0 x1 x2 z0 (x4 &&& x6) (x5 ||| x6) x6 S _ _ _ hw hE Ta0 (lv_sub hl [3, 4, 5, 2, 1, 0, 6] rfl) hm
def b_X12_leaky_119 (n : Nat) (k31 : Nat → Int32 → Int32 → Int32 → Int32 → Int32 → Int32 → pq_S → Option (Int32 × pq_S)) (a0 : Nat) (x1 : Int32) (x2 : Int32) (x3 : Int32) (x4 : Int32) (x5 : Int32) (x6 : Int32) (x7 : Int32) (S : pq_S) : Option (Int32 × pq_S) := if x7 = 0 then b_X12_leaky_156 n k31 a0 x1 x2 x3 x4 x5 x6 S else if x3 = (-1) then b_X12_leaky_141 n k31 a0 x1 (x2 + 1) x4 x5 x6 x6 S else b_X12_leaky_141 n k31 a0 x1 (x2 + 1) x4 x5 x6 x3 S
set_option maxHeartbeats 4000000 in
set_option maxRecDepth 100000 in
theorem wb_X12_leaky_119 {p : Program} {l : Launch} {e : Env} {s : State} {m : MethodId} {args : Array Value} {below : List Frame} {meth : Method} {c : Code} (cx : Cx p s m args meth c cX12_leaky 9 RX12 (some .int)) (C : pq_C) (X : va_W) (S0 : pq_S) (n : Nat) (r : Int32) (S1 : pq_S) (k31 : Nat → Int32 → Int32 → Int32 → Int32 → Int32 → Int32 → pq_S → Option (Int32 × pq_S)) (hk31 : ∀ (a0 : Nat) (x1 : Int32) (x2 : Int32) (x3 : Int32) (x4 : Int32) (x5 : Int32) (x6 : Int32) (S : pq_S) (H : Heap) (locs : List Loc) (ls : Array Slot), PW C X S (pq_F C X S0 s.heap.size) H locs s → Ext S0 S → TY S a0 12 → lv_has ls 9 [(0, .ref a0), (1, .int x1), (2, .int x2), (3, .int x3), (4, .int x4), (5, .int x5), (6, .int x6)] → k31 a0 x1 x2 x3 x4 x5 x6 S = some (r, S1) → W p l e rm_X12_leaky s m args below meth c H locs 0 0 (MQ below (QcI C X S0 s.heap.size r S1) args s 0 0 (pq_F C X S0 s.heap.size)) (F0 m 46 ls [])) : ∀ (a0 : Nat) (x1 : Int32) (x2 : Int32) (x3 : Int32) (x4 : Int32) (x5 : Int32) (x6 : Int32) (x7 : Int32) (S : pq_S) (H : Heap) (locs : List Loc) (ls : Array Slot), PW C X S (pq_F C X S0 s.heap.size) H locs s → Ext S0 S → TY S a0 12 → lv_has ls 9 [(0, .ref a0), (1, .int x1), (2, .int x2), (3, .int x3), (4, .int x4), (5, .int x5), (6, .int x6), (7, .int x7)] → b_X12_leaky_119 n k31 a0 x1 x2 x3 x4 x5 x6 x7 S = some (r, S1) → W p l e rm_X12_leaky s m args below meth c H locs 0 0 (MQ below (QcI C X S0 s.heap.size r S1) args s 0 0 (pq_F C X S0 s.heap.size)) (F0 m 119 ls []) := by
  obtain ⟨hx, hb, hml, hown, hU, hr, hlk⟩ := id cx
  intro a0 x1 x2 x3 x4 x5 x6 x7 S H locs ls hw hE Ta0 hl hm
  rw [b_X12_leaky_119] at hm
  refine lv_iload hx hb dX12_leaky_119 (lv_at hl 7 rfl) ?_
  refine lv_if_ne (tgt := 127) hx hb dX12_leaky_121 (by decide) (fun h28 => ?_) (fun h28 => ?_)
  · rw [if_neg h28] at hm
    refine lv_iinc (v := (x2 + 1)) (lv' := [(2, .int (x2 + 1)), (0, .ref a0), (1, .int x1), (3, .int x3), (4, .int x4), (5, .int x5), (6, .int x6), (7, .int x7)]) hx hb dX12_leaky_127 hl (k := 2) rfl rfl (by decide) rfl (fun ls hl => ?_)
    refine lv_iload_n hx hb dX12_leaky_130 rfl (lv_at hl 3 rfl) ?_
    refine lv_iconst (v := (-1)) hx hb dX12_leaky_131 (by decide) ?_
    refine lv_icmp_ne (tgt := 140) hx hb dX12_leaky_132 (by decide) (fun h29 => ?_) (fun h29 => ?_)
    · rw [if_neg h29] at hm
      refine lv_iload_n hx hb dX12_leaky_140 rfl (lv_at hl 3 rfl) ?_
      exact wb_X12_leaky_141 cx C X S0 n r S1 _ hk31 a0 x1 (x2 + 1) x4 x5 x6 x3 S _ _ _ hw hE Ta0 (lv_sub hl [1, 2, 0, 4, 5, 6] rfl) hm
    · rw [if_pos h29] at hm
      refine lv_iload hx hb dX12_leaky_135 (lv_at hl 6 rfl) ?_
      refine lv_goto (tgt := 141) hx hb dX12_leaky_137 (by decide) ?_
      exact wb_X12_leaky_141 cx C X S0 n r S1 _ hk31 a0 x1 (x2 + 1) x4 x5 x6 x6 S _ _ _ hw hE Ta0 (lv_sub hl [1, 2, 0, 4, 5, 6] rfl) hm
  · rw [if_pos h28] at hm
    refine lv_goto (tgt := 156) hx hb dX12_leaky_124 (by decide) ?_
    exact wb_X12_leaky_156 cx C X S0 n r S1 _ hk31 a0 x1 x2 x3 x4 x5 x6 S _ _ _ hw hE Ta0 (lv_sub hl [0, 1, 2, 3, 4, 5, 6] rfl) hm
def b_X12_leaky_63 (n : Nat) (k31 : Nat → Int32 → Int32 → Int32 → Int32 → Int32 → Int32 → pq_S → Option (Int32 × pq_S)) : Nat → Nat → Int32 → Int32 → Int32 → Int32 → Int32 → Int32 → Int32 → Int32 → pq_S → Option (Int32 × pq_S)
  | 0, _, _, _, _, _, _, _, _, _, _ => none
  | f + 1, a0, x1, x2, x3, x4, x5, x6, x7, x8, S => if (pI S 1251 a0) ≤ x8 then b_X12_leaky_119 n k31 a0 x1 x2 x3 x4 x5 x6 x7 S else if x7 = 0 then b_X12_leaky_110 n k31 (b_X12_leaky_63 n k31 f) a0 x1 x2 x3 x4 x5 x6 x8 S else Option.bind (pR S 1250 a0) fun q19 => ck (ix ((2 : Int32) * x8) (pN S q19)) (dix _ _) (cb (m_X12_missOf n a0 (pA S q19 (Int32.toNatClampNeg ((2 : Int32) * x8))) x6 S) fun r23 S_21 => Option.bind (pR S_21 1250 a0) fun q25 => ck (ix (((2 : Int32) * x8) + (1 : Int32)) (pN S_21 q25)) (dix _ _) (if r23 = (pA S_21 q25 (Int32.toNatClampNeg (((2 : Int32) * x8) + (1 : Int32)))) then b_X12_leaky_111 n k31 (b_X12_leaky_63 n k31 f) a0 x1 x2 x3 x4 x5 x6 x8 1 S_21 else b_X12_leaky_110 n k31 (b_X12_leaky_63 n k31 f) a0 x1 x2 x3 x4 x5 x6 x8 S_21))
set_option maxHeartbeats 4000000 in
set_option maxRecDepth 100000 in
theorem wb_X12_leaky_63 {p : Program} {l : Launch} {e : Env} {s : State} {m : MethodId} {args : Array Value} {below : List Frame} {meth : Method} {c : Code} (cx : Cx p s m args meth c cX12_leaky 9 RX12 (some .int)) (C : pq_C) (X : va_W) (S0 : pq_S) (n : Nat) (r : Int32) (S1 : pq_S) (k31 : Nat → Int32 → Int32 → Int32 → Int32 → Int32 → Int32 → pq_S → Option (Int32 × pq_S)) (hk31 : ∀ (a0 : Nat) (x1 : Int32) (x2 : Int32) (x3 : Int32) (x4 : Int32) (x5 : Int32) (x6 : Int32) (S : pq_S) (H : Heap) (locs : List Loc) (ls : Array Slot), PW C X S (pq_F C X S0 s.heap.size) H locs s → Ext S0 S → TY S a0 12 → lv_has ls 9 [(0, .ref a0), (1, .int x1), (2, .int x2), (3, .int x3), (4, .int x4), (5, .int x5), (6, .int x6)] → k31 a0 x1 x2 x3 x4 x5 x6 S = some (r, S1) → W p l e rm_X12_leaky s m args below meth c H locs 0 0 (MQ below (QcI C X S0 s.heap.size r S1) args s 0 0 (pq_F C X S0 s.heap.size)) (F0 m 46 ls [])) : ∀ (f : Nat) (a0 : Nat) (x1 : Int32) (x2 : Int32) (x3 : Int32) (x4 : Int32) (x5 : Int32) (x6 : Int32) (x7 : Int32) (x8 : Int32) (S : pq_S) (H : Heap) (locs : List Loc) (ls : Array Slot), PW C X S (pq_F C X S0 s.heap.size) H locs s → Ext S0 S → TY S a0 12 → lv_has ls 9 [(0, .ref a0), (1, .int x1), (2, .int x2), (3, .int x3), (4, .int x4), (5, .int x5), (6, .int x6), (7, .int x7), (8, .int x8)] → b_X12_leaky_63 n k31 f a0 x1 x2 x3 x4 x5 x6 x7 x8 S = some (r, S1) → W p l e rm_X12_leaky s m args below meth c H locs 0 0 (MQ below (QcI C X S0 s.heap.size r S1) args s 0 0 (pq_F C X S0 s.heap.size)) (F0 m 63 ls []) := by
  obtain ⟨hx, hb, hml, hown, hU, hr, hlk⟩ := id cx
  intro f
  induction f with
  | zero =>
    intro a0 x1 x2 x3 x4 x5 x6 x7 x8 S H locs ls hw hE Ta0 hl hm
    cases hm
  | succ f ih =>
    intro a0 x1 x2 x3 x4 x5 x6 x7 x8 S H locs ls hw hE Ta0 hl hm
    rw [b_X12_leaky_63] at hm
    refine lv_iload hx hb dX12_leaky_63 (lv_at hl 8 rfl) ?_
    refine lv_aload_n hx hb dX12_leaky_65 rfl (lv_at hl 0 rfl) ?_
    refine pg_i (k := 12) (j := 51) (f := 1251) hx hb hown hU iu12 hw Ta0 (by decide) rfl (hU _ tw1522) rfl dX12_leaky_66 ?_
    refine lv_icmp_ge (tgt := 119) hx hb dX12_leaky_69 (by decide) (fun h17 => ?_) (fun h17 => ?_)
    · rw [if_pos h17] at hm
      exact wb_X12_leaky_119 cx C X S0 n r S1 _ hk31 a0 x1 x2 x3 x4 x5 x6 x7 S _ _ _ hw hE Ta0 (lv_sub hl [0, 1, 2, 3, 4, 5, 6, 7] rfl) hm
    · rw [if_neg h17] at hm
      refine lv_iload hx hb dX12_leaky_72 (lv_at hl 7 rfl) ?_
      refine lv_if_eq (tgt := 110) hx hb dX12_leaky_74 (by decide) (fun h18 => ?_) (fun h18 => ?_)
      · rw [if_pos h18] at hm
        exact wb_X12_leaky_110 cx C X S0 n r S1 _ hk31 _ ih a0 x1 x2 x3 x4 x5 x6 x8 S _ _ _ hw hE Ta0 (lv_sub hl [0, 1, 2, 3, 4, 5, 6, 8] rfl) hm
      · rw [if_neg h18] at hm
        refine lv_aload_n hx hb dX12_leaky_77 rfl (lv_at hl 0 rfl) ?_
        refine lv_aload_n hx hb dX12_leaky_78 rfl (lv_at hl 0 rfl) ?_
        obtain ⟨q19, hq19, hm⟩ := bd_some hm
        have Tq19 : TY S q19 14 := hw.wf.ref (k := 12) (j := 50) Ta0 (by decide) (by decide) hq19
        refine pg_rb (k := 12) (j := 50) (f := 1250) hx hb hown hU iu12 hw Ta0 (by decide) rfl (hU _ tw1521) rfl hq19 dX12_leaky_79 ?_
        refine lv_iconst (v := 2) hx hb dX12_leaky_82 (by decide) ?_
        refine lv_iload hx hb dX12_leaky_83 (lv_at hl 8 rfl) ?_
        refine lv_imul hx hb dX12_leaky_85 ?_
        obtain ⟨hi20, hm⟩ := ck_some hm
        refine pw_iald hx hb hw Tq19 hi20 dX12_leaky_86 ?_
        refine lv_iload hx hb dX12_leaky_87 (lv_at hl 6 rfl) ?_
        obtain ⟨r23, S_21, hq22, hm⟩ := cb_some hm
        refine pw_ci (va_runV (As := [.int (pA S q19 (Int32.toNatClampNeg ((2 : Int32) * x8))), .int x6]) (rest := []) ⟨hx, hb, hml, hown, hU⟩ (c_X12_missOf l C X n S hw.wf _ a0 (pA S q19 (Int32.toNatClampNeg ((2 : Int32) * x8))) x6 (Ta0) r23 S_21 hq22) (cwV 2 hU (pq_gV tw2037 tw2039 ts172 tw14 tc_X12_missOf) rfl rfl rfl cd_X12_missOf ⟨Nat.le_of_ble_eq_true rfl, Nat.le_of_ble_eq_true rfl⟩) (pw_preV hw Ta0 (by decide) rfl) rfl rfl hl.1 rfl (lv_room (Nat.le_of_ble_eq_true rfl)) dX12_leaky_89 ⟨Nat.zero_le _, Nat.zero_le _⟩) hw (fun H locs hw hx24 => ?_)
        have Ta0 : TY S_21 a0 12 := ty_ext hx24 Ta0
        have hE : Ext S0 S_21 := Ext.tr hE hx24
        refine lv_aload_n hx hb dX12_leaky_92 rfl (lv_at hl 0 rfl) ?_
        obtain ⟨q25, hq25, hm⟩ := bd_some hm
        have Tq25 : TY S_21 q25 14 := hw.wf.ref (k := 12) (j := 50) Ta0 (by decide) (by decide) hq25
        refine pg_rb (k := 12) (j := 50) (f := 1250) hx hb hown hU iu12 hw Ta0 (by decide) rfl (hU _ tw1521) rfl hq25 dX12_leaky_93 ?_
        refine lv_iconst (v := 2) hx hb dX12_leaky_96 (by decide) ?_
        refine lv_iload hx hb dX12_leaky_97 (lv_at hl 8 rfl) ?_
        refine lv_imul hx hb dX12_leaky_99 ?_
        refine lv_iconst (v := 1) hx hb dX12_leaky_100 (by decide) ?_
        refine lv_iadd hx hb dX12_leaky_101 ?_
        obtain ⟨hi26, hm⟩ := ck_some hm
        refine pw_iald hx hb hw Tq25 hi26 dX12_leaky_102 ?_
        refine lv_icmp_ne (tgt := 110) hx hb dX12_leaky_103 (by decide) (fun h27 => ?_) (fun h27 => ?_)
        · rw [if_neg h27] at hm
          exact wb_X12_leaky_110 cx C X S0 n r S1 _ hk31 _ ih a0 x1 x2 x3 x4 x5 x6 x8 S_21 _ _ _ hw hE Ta0 (lv_sub hl [0, 1, 2, 3, 4, 5, 6, 8] rfl) hm
        · rw [if_pos h27] at hm
          refine lv_iconst (v := 1) hx hb dX12_leaky_106 (by decide) ?_
          refine lv_goto (tgt := 111) hx hb dX12_leaky_107 (by decide) ?_
          exact wb_X12_leaky_111 cx C X S0 n r S1 _ hk31 _ ih a0 x1 x2 x3 x4 x5 x6 x8 1 S_21 _ _ _ hw hE Ta0 (lv_sub hl [0, 1, 2, 3, 4, 5, 6, 8] rfl) hm
def b_X12_leaky_162 (n : Nat) (a0 : Nat) (x1 : Int32) (x2 : Int32) (x3 : Int32) (x4 : Int32) (x5 : Int32) (S : pq_S) : Option (Int32 × pq_S) := if 2 ≤ x1 then if x2 = 0 then some (0, S) else if x1 = 2 then some (x4, S) else some (((((1 : Int32) <<< ((pI S 1224 a0) &&& (31 : Int32))) - (1 : Int32)) &&& (x5 ^^^ (-1 : Int32))), S) else if x1 = 0 then some (x2, S) else some (x3, S)
set_option maxHeartbeats 4000000 in
set_option maxRecDepth 100000 in
theorem wb_X12_leaky_162 {p : Program} {l : Launch} {e : Env} {s : State} {m : MethodId} {args : Array Value} {below : List Frame} {meth : Method} {c : Code} (cx : Cx p s m args meth c cX12_leaky 9 RX12 (some .int)) (C : pq_C) (X : va_W) (S0 : pq_S) (n : Nat) (r : Int32) (S1 : pq_S) : ∀ (a0 : Nat) (x1 : Int32) (x2 : Int32) (x3 : Int32) (x4 : Int32) (x5 : Int32) (S : pq_S) (H : Heap) (locs : List Loc) (ls : Array Slot), PW C X S (pq_F C X S0 s.heap.size) H locs s → Ext S0 S → TY S a0 12 → lv_has ls 9 [(0, .ref a0), (1, .int x1), (2, .int x2), (3, .int x3), (4, .int x4), (5, .int x5)] → b_X12_leaky_162 n a0 x1 x2 x3 x4 x5 S = some (r, S1) → W p l e rm_X12_leaky s m args below meth c H locs 0 0 (MQ below (QcI C X S0 s.heap.size r S1) args s 0 0 (pq_F C X S0 s.heap.size)) (F0 m 162 ls []) := by
  obtain ⟨hx, hb, hml, hown, hU, hr, hlk⟩ := id cx
  intro a0 x1 x2 x3 x4 x5 S H locs ls hw hE Ta0 hl hm
  rw [b_X12_leaky_162] at hm
  refine lv_iload_n hx hb dX12_leaky_162 rfl (lv_at hl 1 rfl) ?_
  refine lv_iconst (v := 2) hx hb dX12_leaky_163 (by decide) ?_
  refine lv_icmp_ge (tgt := 177) hx hb dX12_leaky_164 (by decide) (fun h30 => ?_) (fun h30 => ?_)
  · rw [if_pos h30] at hm
    refine lv_iload_n hx hb dX12_leaky_177 rfl (lv_at hl 2 rfl) ?_
    refine lv_if_ne (tgt := 185) hx hb dX12_leaky_178 (by decide) (fun h31 => ?_) (fun h31 => ?_)
    · rw [if_neg h31] at hm
      refine lv_iload_n hx hb dX12_leaky_185 rfl (lv_at hl 1 rfl) ?_
      refine lv_iconst (v := 2) hx hb dX12_leaky_186 (by decide) ?_
      refine lv_icmp_ne (tgt := 195) hx hb dX12_leaky_187 (by decide) (fun h32 => ?_) (fun h32 => ?_)
      · rw [if_neg h32] at hm
        refine lv_iconst (v := 1) hx hb dX12_leaky_195 (by decide) ?_
        refine lv_aload_n hx hb dX12_leaky_196 rfl (lv_at hl 0 rfl) ?_
        refine pg_i (k := 12) (j := 24) (f := 1224) hx hb hown hU iu12 hw Ta0 (by decide) rfl (hU _ tw1495) rfl dX12_leaky_197 ?_
        refine lv_ishl hx hb dX12_leaky_200 ?_
        refine lv_iconst (v := 1) hx hb dX12_leaky_201 (by decide) ?_
        refine lv_isub hx hb dX12_leaky_202 ?_
        refine lv_iload hx hb dX12_leaky_203 (lv_at hl 5 rfl) ?_
        refine lv_iconst (v := (-1)) hx hb dX12_leaky_205 (by decide) ?_
        refine lv_ixor hx hb dX12_leaky_206 ?_
        refine lv_iand hx hb dX12_leaky_207 ?_
        cases hm
        exact pw_iret hx hb hr rfl hlk hw hE dX12_leaky_208
      · rw [if_pos h32] at hm
        refine lv_iload hx hb dX12_leaky_190 (lv_at hl 4 rfl) ?_
        refine lv_goto (tgt := 208) hx hb dX12_leaky_192 (by decide) ?_
        cases hm
        exact pw_iret hx hb hr rfl hlk hw hE dX12_leaky_208
    · rw [if_pos h31] at hm
      refine lv_iconst (v := 0) hx hb dX12_leaky_181 (by decide) ?_
      refine lv_goto (tgt := 208) hx hb dX12_leaky_182 (by decide) ?_
      cases hm
      exact pw_iret hx hb hr rfl hlk hw hE dX12_leaky_208
  · rw [if_neg h30] at hm
    refine lv_iload_n hx hb dX12_leaky_167 rfl (lv_at hl 1 rfl) ?_
    refine lv_if_ne (tgt := 175) hx hb dX12_leaky_168 (by decide) (fun h33 => ?_) (fun h33 => ?_)
    · rw [if_neg h33] at hm
      refine lv_iload_n hx hb dX12_leaky_175 rfl (lv_at hl 3 rfl) ?_
      cases hm
      exact pw_iret hx hb hr rfl hlk hw hE dX12_leaky_176
    · rw [if_pos h33] at hm
      refine lv_iload_n hx hb dX12_leaky_171 rfl (lv_at hl 2 rfl) ?_
      refine lv_goto (tgt := 176) hx hb dX12_leaky_172 (by decide) ?_
      cases hm
      exact pw_iret hx hb hr rfl hlk hw hE dX12_leaky_176
def b_X12_leaky_46 (n : Nat) : Nat → Nat → Int32 → Int32 → Int32 → Int32 → Int32 → Int32 → pq_S → Option (Int32 × pq_S)
  | 0, _, _, _, _, _, _, _, _ => none
  | f + 1, a0, x1, x2, x3, x4, x5, x6, S => if ((1 : Int32) <<< ((pI S 1224 a0) &&& (31 : Int32))) ≤ x6 then b_X12_leaky_162 n a0 x1 x2 x3 x4 x5 S else b_X12_leaky_63 n (b_X12_leaky_46 n f) n a0 x1 x2 x3 x4 x5 x6 1 0 S
set_option maxHeartbeats 4000000 in
set_option maxRecDepth 100000 in
theorem wb_X12_leaky_46 {p : Program} {l : Launch} {e : Env} {s : State} {m : MethodId} {args : Array Value} {below : List Frame} {meth : Method} {c : Code} (cx : Cx p s m args meth c cX12_leaky 9 RX12 (some .int)) (C : pq_C) (X : va_W) (S0 : pq_S) (n : Nat) (r : Int32) (S1 : pq_S) : ∀ (f : Nat) (a0 : Nat) (x1 : Int32) (x2 : Int32) (x3 : Int32) (x4 : Int32) (x5 : Int32) (x6 : Int32) (S : pq_S) (H : Heap) (locs : List Loc) (ls : Array Slot), PW C X S (pq_F C X S0 s.heap.size) H locs s → Ext S0 S → TY S a0 12 → lv_has ls 9 [(0, .ref a0), (1, .int x1), (2, .int x2), (3, .int x3), (4, .int x4), (5, .int x5), (6, .int x6)] → b_X12_leaky_46 n f a0 x1 x2 x3 x4 x5 x6 S = some (r, S1) → W p l e rm_X12_leaky s m args below meth c H locs 0 0 (MQ below (QcI C X S0 s.heap.size r S1) args s 0 0 (pq_F C X S0 s.heap.size)) (F0 m 46 ls []) := by
  obtain ⟨hx, hb, hml, hown, hU, hr, hlk⟩ := id cx
  intro f
  induction f with
  | zero =>
    intro a0 x1 x2 x3 x4 x5 x6 S H locs ls hw hE Ta0 hl hm
    cases hm
  | succ f ih =>
    intro a0 x1 x2 x3 x4 x5 x6 S H locs ls hw hE Ta0 hl hm
    rw [b_X12_leaky_46] at hm
    refine lv_iload hx hb dX12_leaky_46 (lv_at hl 6 rfl) ?_
    refine lv_iconst (v := 1) hx hb dX12_leaky_48 (by decide) ?_
    refine lv_aload_n hx hb dX12_leaky_49 rfl (lv_at hl 0 rfl) ?_
    refine pg_i (k := 12) (j := 24) (f := 1224) hx hb hown hU iu12 hw Ta0 (by decide) rfl (hU _ tw1495) rfl dX12_leaky_50 ?_
    refine lv_ishl hx hb dX12_leaky_53 ?_
    refine lv_icmp_ge (tgt := 162) hx hb dX12_leaky_54 (by decide) (fun h16 => ?_) (fun h16 => ?_)
    · rw [if_pos h16] at hm
      exact wb_X12_leaky_162 cx C X S0 n r S1 a0 x1 x2 x3 x4 x5 S _ _ _ hw hE Ta0 (lv_sub hl [0, 1, 2, 3, 4, 5] rfl) hm
    · rw [if_neg h16] at hm
      refine lv_iconst (v := 1) hx hb dX12_leaky_57 (by decide) ?_
      refine lv_istore (lv' := [(7, .int 1), (0, .ref a0), (1, .int x1), (2, .int x2), (3, .int x3), (4, .int x4), (5, .int x5), (6, .int x6)]) hx hb dX12_leaky_58 hl (by decide) rfl (fun ls hl => ?_)
      refine lv_iconst (v := 0) hx hb dX12_leaky_60 (by decide) ?_
      refine lv_istore (lv' := [(8, .int 0), (7, .int 1), (0, .ref a0), (1, .int x1), (2, .int x2), (3, .int x3), (4, .int x4), (5, .int x5), (6, .int x6)]) hx hb dX12_leaky_61 hl (by decide) rfl (fun ls hl => ?_)
      exact wb_X12_leaky_63 cx C X S0 n r S1 _ ih n a0 x1 x2 x3 x4 x5 x6 1 0 S _ _ _ hw hE Ta0 (lv_sub hl [2, 3, 4, 5, 6, 7, 8, 1, 0] rfl) hm
def m_X12_leaky (n : Nat) (a0 : Nat) (x1 : Int32) (S0 : pq_S) : Option (Int32 × pq_S) := cb (m_X12_within n x1 0 3 (sI S0 1200 a0 0)) fun r3 S_1 => cb (m_X12_may n a0 r3 1 1 S_1) fun r8 S_6 => if r8 = 0 then some (0, S_6) else Option.bind (m_X12_findAlong n a0 S_6) fun S_12 => lt_ (((1 : Int32) <<< ((pI S_12 1224 a0) &&& (31 : Int32))) - (1 : Int32)) fun v15 => b_X12_leaky_46 n n a0 x1 0 (-1) v15 0 0 S_12
theorem tc_X12_leaky : Cond.code yX12_leaky cX12_leaky 9 (some .int) ∈ pq_U := tw2032
theorem cd_X12_leaky : yX12_leaky.cls = RX12 ∧ yX12_leaky.cls ≠ "java/lang/invoke/MethodHandle" ∧ yX12_leaky.cls ≠ "java/lang/invoke/VarHandle" ∧ (parseMethodDescriptor yX12_leaky.desc).map (fun d => d.parameters.length) = some 1 := by decide +kernel
set_option maxHeartbeats 4000000 in
set_option maxRecDepth 100000 in
theorem c_X12_leaky (l : Launch) (C : pq_C) (X : va_W) (n : Nat) (S0 : pq_S) (hF : WF S0) (sz : Nat) (a0 : Nat) (x1 : Int32) (Ta0 : TY S0 a0 12) (r : Int32) (S1 : pq_S) (hm : m_X12_leaky n a0 x1 S0 = some (r, S1)) : MI l yX12_leaky (.code yX12_leaky cX12_leaky 9 (some .int) :: pq_U) rm_X12_leaky C X S0 sz [.ref a0, .int x1] r S1 0 0 := by
  refine Met.ofW (cc := cX12_leaky) (maxL := 9) (ret := (some .int)) (by decide) rfl ?_
  intro p e s m args below meth c s₁ B hml hv
  obtain ⟨rfl, hv⟩ := hv
  have hsz := hv.1
  subst hsz
  have hw := pw_entry hF hv
  have hts := atoms_spec (ws := .code yX12_leaky cX12_leaky 9 (some .int) :: pq_U) B.pre
  have hU : ∀ w ∈ pq_U, w.before _ s = true := fun w h => hts w (List.mem_cons_of_mem _ h)
  have hx := B.exec
  have hb := B.bytes
  have hr := B.returns
  have hown : s.vm.findClass RX12 = some m.cls := findClass_of_methodNamed B.named
  have hlk := B.notSynchronized
  have hl := lv_entry ([.ref a0, .int x1]) (n := 9) (Nat.le_of_ble_eq_true rfl)
  rw [lg_entry_eq]
  generalize (lg_sl ([.ref a0, .int x1]) ++ List.replicate (9 - (lg_sl ([.ref a0, .int x1])).length) Slot.unset).toArray = ls at hl ⊢
  have hl : lv_has ls 9 [(0, .ref a0), (1, .int x1)] := hl
  have hE : Ext S0 S0 := Ext.rf _
  have cx : Cx p s m _ meth c cX12_leaky 9 RX12 (some .int) := ⟨hx, hb, hml, hown, hU, hr, hlk⟩
  rw [m_X12_leaky] at hm
  refine lv_aload_n hx hb dX12_leaky_0 rfl (lv_at hl 0 rfl) ?_
  refine lv_iconst (v := 0) hx hb dX12_leaky_1 (by decide) ?_
  refine pp_i (k := 12) (j := 0) (f := 1200) hx hb hown hU iu12 tyX12_ok nmX12 hw Ta0 (by decide) rfl (hU _ tw1471) rfl rfl rfl dX12_leaky_2 (fun H locs hw => ?_)
  refine lv_aload_n hx hb dX12_leaky_5 rfl (lv_at hl 0 rfl) ?_
  refine lv_iload_n hx hb dX12_leaky_6 rfl (lv_at hl 1 rfl) ?_
  refine lv_iconst (v := 0) hx hb dX12_leaky_7 (by decide) ?_
  refine lv_iconst (v := 3) hx hb dX12_leaky_8 (by decide) ?_
  obtain ⟨r3, S_1, hq2, hm⟩ := cb_some hm
  refine pw_cz (va_runS (As := [.int x1, .int 0, .int 3]) (rest := [.ref a0]) ⟨hx, hb, hml, hown, hU⟩ (c_X12_within l C X n (sI S0 1200 a0 0) hw.wf _ x1 0 3  r3 S_1 hq2) ⟨callB_of 3 hU (pq_g1 tc_X12_within) rfl rfl rfl (hU _ tw14) (hU _ tw1776) cd_X12_within.2 ⟨Nat.le_of_ble_eq_true rfl, Nat.le_of_ble_eq_true rfl⟩, hU _ tw1777⟩ (pw_preS hw) rfl rfl hl.1 rfl (lv_room (Nat.le_of_ble_eq_true rfl)) dX12_leaky_9 ⟨Nat.zero_le _, Nat.zero_le _⟩) hw (fun H locs hw hx4 hz5 => ?_)
  have Ta0 : TY S_1 a0 12 := ty_ext hx4 Ta0
  have hE : Ext S0 S_1 := Ext.tr hE hx4
  refine lv_iconst (v := 1) hx hb dX12_leaky_12 (by decide) ?_
  refine lv_iconst (v := 1) hx hb dX12_leaky_13 (by decide) ?_
  obtain ⟨r8, S_6, hq7, hm⟩ := cb_some hm
  refine pw_cz (va_runV (As := [.int r3, .int 1, .int 1]) (rest := []) ⟨hx, hb, hml, hown, hU⟩ (c_X12_may l C X n S_1 hw.wf _ a0 r3 1 1 (Ta0) r8 S_6 hq7) (cwV 3 hU (pq_gV tw1703 tw1705 ts123 tw14 tc_X12_may) rfl rfl rfl cd_X12_may ⟨Nat.le_of_ble_eq_true rfl, Nat.le_of_ble_eq_true rfl⟩) (pw_preV hw Ta0 (by decide) rfl) rfl rfl hl.1 rfl (lv_room (Nat.le_of_ble_eq_true rfl)) dX12_leaky_14 ⟨Nat.zero_le _, Nat.zero_le _⟩) hw (fun H locs hw hx9 hz10 => ?_)
  have Ta0 : TY S_6 a0 12 := ty_ext hx9 Ta0
  have hE : Ext S0 S_6 := Ext.tr hE hx9
  refine lv_if_ne (tgt := 22) hx hb dX12_leaky_17 (by decide) (fun h11 => ?_) (fun h11 => ?_)
  · rw [if_neg h11] at hm
    refine lv_aload_n hx hb dX12_leaky_22 rfl (lv_at hl 0 rfl) ?_
    obtain ⟨S_12, hq13, hm⟩ := bd_some hm
    refine pw_cv (va_runV (As := []) (rest := []) ⟨hx, hb, hml, hown, hU⟩ (c_X12_findAlong l C X n S_6 hw.wf _ a0 (Ta0) S_12 hq13) (cwV 0 hU (pq_gV tw2033 tw2035 ts171 tw14 tc_X12_findAlong) rfl rfl rfl cd_X12_findAlong ⟨Nat.le_of_ble_eq_true rfl, Nat.le_of_ble_eq_true rfl⟩) (pw_preV hw Ta0 (by decide) rfl) rfl rfl hl.1 rfl (lv_room (Nat.le_of_ble_eq_true rfl)) dX12_leaky_23 ⟨Nat.zero_le _, Nat.zero_le _⟩) hw (fun H locs hw hx14 => ?_)
    have Ta0 : TY S_12 a0 12 := ty_ext hx14 Ta0
    have hE : Ext S0 S_12 := Ext.tr hE hx14
    refine lv_iconst (v := 0) hx hb dX12_leaky_26 (by decide) ?_
    refine lv_istore_n (lv' := [(2, .int 0), (0, .ref a0), (1, .int x1)]) hx hb dX12_leaky_27 rfl hl (by decide) rfl (fun ls hl => ?_)
    refine lv_iconst (v := (-1)) hx hb dX12_leaky_28 (by decide) ?_
    refine lv_istore_n (lv' := [(3, .int (-1)), (2, .int 0), (0, .ref a0), (1, .int x1)]) hx hb dX12_leaky_29 rfl hl (by decide) rfl (fun ls hl => ?_)
    refine lv_iconst (v := 1) hx hb dX12_leaky_30 (by decide) ?_
    refine lv_aload_n hx hb dX12_leaky_31 rfl (lv_at hl 2 rfl) ?_
    refine pg_i (k := 12) (j := 24) (f := 1224) hx hb hown hU iu12 hw Ta0 (by decide) rfl (hU _ tw1495) rfl dX12_leaky_32 ?_
    refine lv_ishl hx hb dX12_leaky_35 ?_
    refine lv_iconst (v := 1) hx hb dX12_leaky_36 (by decide) ?_
    refine lv_isub hx hb dX12_leaky_37 ?_
    obtain ⟨v15, ev15, hm⟩ := lt_some hm
    refine lv_nmI ev15 ?_
    refine lv_istore (lv' := [(4, .int v15), (3, .int (-1)), (2, .int 0), (0, .ref a0), (1, .int x1)]) hx hb dX12_leaky_38 hl (by decide) rfl (fun ls hl => ?_)
    refine lv_iconst (v := 0) hx hb dX12_leaky_40 (by decide) ?_
    refine lv_istore (lv' := [(5, .int 0), (4, .int v15), (3, .int (-1)), (2, .int 0), (0, .ref a0), (1, .int x1)]) hx hb dX12_leaky_41 hl (by decide) rfl (fun ls hl => ?_)
    refine lv_iconst (v := 0) hx hb dX12_leaky_43 (by decide) ?_
    refine lv_istore (lv' := [(6, .int 0), (5, .int 0), (4, .int v15), (3, .int (-1)), (2, .int 0), (0, .ref a0), (1, .int x1)]) hx hb dX12_leaky_44 hl (by decide) rfl (fun ls hl => ?_)
    exact wb_X12_leaky_46 cx C X S0 n r S1 n a0 x1 0 (-1) v15 0 0 S_12 _ _ _ hw hE Ta0 (lv_sub hl [5, 6, 4, 3, 2, 1, 0] rfl) hm
  · rw [if_pos h11] at hm
    refine lv_iconst (v := 0) hx hb dX12_leaky_20 (by decide) ?_
    cases hm
    exact pw_iret hx hb hr rfl hlk hw hE dX12_leaky_21
abbrev rm_X12_misses : Room := { frames := 2, cells := 0, slots := 0, locals := 45 }
def m_X12_misses (n : Nat) (a0 : Nat) (x1 : Int32) (x2 : Int32) (S0 : pq_S) : Option (Int32 × pq_S) := cb (m_X12_isPlace n a0 x1 1 (sI S0 1200 a0 0)) fun r3 S_1 => if r3 = 0 then some (0, S_1) else cb (m_X12_within n x2 0 (((1 : Int32) <<< ((pI S_1 1224 a0) &&& (31 : Int32))) - (1 : Int32)) S_1) fun r9 S_7 => cb (m_X12_may n a0 r9 2 1 S_7) fun r14 S_12 => if r14 = 0 then some (0, S_12) else Option.bind (m_X12_findAlong n a0 S_12) fun S_18 => cb (m_X12_missOf n a0 x1 x2 S_18) fun r23 S_21 => some (r23, S_21)
theorem tc_X12_misses : Cond.code yX12_misses cX12_misses 3 (some .int) ∈ pq_U := tw2044
theorem cd_X12_misses : yX12_misses.cls = RX12 ∧ yX12_misses.cls ≠ "java/lang/invoke/MethodHandle" ∧ yX12_misses.cls ≠ "java/lang/invoke/VarHandle" ∧ (parseMethodDescriptor yX12_misses.desc).map (fun d => d.parameters.length) = some 2 := by decide +kernel
set_option maxHeartbeats 4000000 in
set_option maxRecDepth 100000 in
theorem c_X12_misses (l : Launch) (C : pq_C) (X : va_W) (n : Nat) (S0 : pq_S) (hF : WF S0) (sz : Nat) (a0 : Nat) (x1 : Int32) (x2 : Int32) (Ta0 : TY S0 a0 12) (r : Int32) (S1 : pq_S) (hm : m_X12_misses n a0 x1 x2 S0 = some (r, S1)) : MI l yX12_misses (.code yX12_misses cX12_misses 3 (some .int) :: pq_U) rm_X12_misses C X S0 sz [.ref a0, .int x1, .int x2] r S1 0 0 := by
  refine Met.ofW (cc := cX12_misses) (maxL := 3) (ret := (some .int)) (by decide) rfl ?_
  intro p e s m args below meth c s₁ B hml hv
  obtain ⟨rfl, hv⟩ := hv
  have hsz := hv.1
  subst hsz
  have hw := pw_entry hF hv
  have hts := atoms_spec (ws := .code yX12_misses cX12_misses 3 (some .int) :: pq_U) B.pre
  have hU : ∀ w ∈ pq_U, w.before _ s = true := fun w h => hts w (List.mem_cons_of_mem _ h)
  have hx := B.exec
  have hb := B.bytes
  have hr := B.returns
  have hown : s.vm.findClass RX12 = some m.cls := findClass_of_methodNamed B.named
  have hlk := B.notSynchronized
  have hl := lv_entry ([.ref a0, .int x1, .int x2]) (n := 3) (Nat.le_of_ble_eq_true rfl)
  rw [lg_entry_eq]
  generalize (lg_sl ([.ref a0, .int x1, .int x2]) ++ List.replicate (3 - (lg_sl ([.ref a0, .int x1, .int x2])).length) Slot.unset).toArray = ls at hl ⊢
  have hl : lv_has ls 3 [(0, .ref a0), (1, .int x1), (2, .int x2)] := hl
  have hE : Ext S0 S0 := Ext.rf _
  have cx : Cx p s m _ meth c cX12_misses 3 RX12 (some .int) := ⟨hx, hb, hml, hown, hU, hr, hlk⟩
  rw [m_X12_misses] at hm
  refine lv_aload_n hx hb dX12_misses_0 rfl (lv_at hl 0 rfl) ?_
  refine lv_iconst (v := 0) hx hb dX12_misses_1 (by decide) ?_
  refine pp_i (k := 12) (j := 0) (f := 1200) hx hb hown hU iu12 tyX12_ok nmX12 hw Ta0 (by decide) rfl (hU _ tw1471) rfl rfl rfl dX12_misses_2 (fun H locs hw => ?_)
  refine lv_aload_n hx hb dX12_misses_5 rfl (lv_at hl 0 rfl) ?_
  refine lv_iload_n hx hb dX12_misses_6 rfl (lv_at hl 1 rfl) ?_
  refine lv_iconst (v := 1) hx hb dX12_misses_7 (by decide) ?_
  obtain ⟨r3, S_1, hq2, hm⟩ := cb_some hm
  refine pw_cz (va_runV (As := [.int x1, .int 1]) (rest := []) ⟨hx, hb, hml, hown, hU⟩ (c_X12_isPlace l C X n (sI S0 1200 a0 0) hw.wf _ a0 x1 1 (Ta0) r3 S_1 hq2) (cwV 2 hU (pq_gV tw1918 tw1920 ts160 tw14 tc_X12_isPlace) rfl rfl rfl cd_X12_isPlace ⟨Nat.le_of_ble_eq_true rfl, Nat.le_of_ble_eq_true rfl⟩) (pw_preV hw Ta0 (by decide) rfl) rfl rfl hl.1 rfl (lv_room (Nat.le_of_ble_eq_true rfl)) dX12_misses_8 ⟨Nat.zero_le _, Nat.zero_le _⟩) hw (fun H locs hw hx4 hz5 => ?_)
  have Ta0 : TY S_1 a0 12 := ty_ext hx4 Ta0
  have hE : Ext S0 S_1 := Ext.tr hE hx4
  refine lv_if_eq (tgt := 36) hx hb dX12_misses_11 (by decide) (fun h6 => ?_) (fun h6 => ?_)
  · rw [if_pos h6] at hm
    refine lv_iconst (v := 0) hx hb dX12_misses_36 (by decide) ?_
    cases hm
    exact pw_iret hx hb hr rfl hlk hw hE dX12_misses_37
  · rw [if_neg h6] at hm
    refine lv_aload_n hx hb dX12_misses_14 rfl (lv_at hl 0 rfl) ?_
    refine lv_iload_n hx hb dX12_misses_15 rfl (lv_at hl 2 rfl) ?_
    refine lv_iconst (v := 0) hx hb dX12_misses_16 (by decide) ?_
    refine lv_iconst (v := 1) hx hb dX12_misses_17 (by decide) ?_
    refine lv_aload_n hx hb dX12_misses_18 rfl (lv_at hl 0 rfl) ?_
    refine pg_i (k := 12) (j := 24) (f := 1224) hx hb hown hU iu12 hw Ta0 (by decide) rfl (hU _ tw1495) rfl dX12_misses_19 ?_
    refine lv_ishl hx hb dX12_misses_22 ?_
    refine lv_iconst (v := 1) hx hb dX12_misses_23 (by decide) ?_
    refine lv_isub hx hb dX12_misses_24 ?_
    obtain ⟨r9, S_7, hq8, hm⟩ := cb_some hm
    refine pw_cz (va_runS (As := [.int x2, .int 0, .int (((1 : Int32) <<< ((pI S_1 1224 a0) &&& (31 : Int32))) - (1 : Int32))]) (rest := [.ref a0]) ⟨hx, hb, hml, hown, hU⟩ (c_X12_within l C X n S_1 hw.wf _ x2 0 (((1 : Int32) <<< ((pI S_1 1224 a0) &&& (31 : Int32))) - (1 : Int32))  r9 S_7 hq8) ⟨callB_of 3 hU (pq_g1 tc_X12_within) rfl rfl rfl (hU _ tw14) (hU _ tw1776) cd_X12_within.2 ⟨Nat.le_of_ble_eq_true rfl, Nat.le_of_ble_eq_true rfl⟩, hU _ tw1777⟩ (pw_preS hw) rfl rfl hl.1 rfl (lv_room (Nat.le_of_ble_eq_true rfl)) dX12_misses_25 ⟨Nat.zero_le _, Nat.zero_le _⟩) hw (fun H locs hw hx10 hz11 => ?_)
    have Ta0 : TY S_7 a0 12 := ty_ext hx10 Ta0
    have hE : Ext S0 S_7 := Ext.tr hE hx10
    refine lv_iconst (v := 2) hx hb dX12_misses_28 (by decide) ?_
    refine lv_iconst (v := 1) hx hb dX12_misses_29 (by decide) ?_
    obtain ⟨r14, S_12, hq13, hm⟩ := cb_some hm
    refine pw_cz (va_runV (As := [.int r9, .int 2, .int 1]) (rest := []) ⟨hx, hb, hml, hown, hU⟩ (c_X12_may l C X n S_7 hw.wf _ a0 r9 2 1 (Ta0) r14 S_12 hq13) (cwV 3 hU (pq_gV tw1703 tw1705 ts123 tw14 tc_X12_may) rfl rfl rfl cd_X12_may ⟨Nat.le_of_ble_eq_true rfl, Nat.le_of_ble_eq_true rfl⟩) (pw_preV hw Ta0 (by decide) rfl) rfl rfl hl.1 rfl (lv_room (Nat.le_of_ble_eq_true rfl)) dX12_misses_30 ⟨Nat.zero_le _, Nat.zero_le _⟩) hw (fun H locs hw hx15 hz16 => ?_)
    have Ta0 : TY S_12 a0 12 := ty_ext hx15 Ta0
    have hE : Ext S0 S_12 := Ext.tr hE hx15
    refine lv_if_ne (tgt := 38) hx hb dX12_misses_33 (by decide) (fun h17 => ?_) (fun h17 => ?_)
    · rw [if_neg h17] at hm
      refine lv_aload_n hx hb dX12_misses_38 rfl (lv_at hl 0 rfl) ?_
      obtain ⟨S_18, hq19, hm⟩ := bd_some hm
      refine pw_cv (va_runV (As := []) (rest := []) ⟨hx, hb, hml, hown, hU⟩ (c_X12_findAlong l C X n S_12 hw.wf _ a0 (Ta0) S_18 hq19) (cwV 0 hU (pq_gV tw2033 tw2035 ts171 tw14 tc_X12_findAlong) rfl rfl rfl cd_X12_findAlong ⟨Nat.le_of_ble_eq_true rfl, Nat.le_of_ble_eq_true rfl⟩) (pw_preV hw Ta0 (by decide) rfl) rfl rfl hl.1 rfl (lv_room (Nat.le_of_ble_eq_true rfl)) dX12_misses_39 ⟨Nat.zero_le _, Nat.zero_le _⟩) hw (fun H locs hw hx20 => ?_)
      have Ta0 : TY S_18 a0 12 := ty_ext hx20 Ta0
      have hE : Ext S0 S_18 := Ext.tr hE hx20
      refine lv_aload_n hx hb dX12_misses_42 rfl (lv_at hl 0 rfl) ?_
      refine lv_iload_n hx hb dX12_misses_43 rfl (lv_at hl 1 rfl) ?_
      refine lv_iload_n hx hb dX12_misses_44 rfl (lv_at hl 2 rfl) ?_
      obtain ⟨r23, S_21, hq22, hm⟩ := cb_some hm
      refine pw_ci (va_runV (As := [.int x1, .int x2]) (rest := []) ⟨hx, hb, hml, hown, hU⟩ (c_X12_missOf l C X n S_18 hw.wf _ a0 x1 x2 (Ta0) r23 S_21 hq22) (cwV 2 hU (pq_gV tw2037 tw2039 ts172 tw14 tc_X12_missOf) rfl rfl rfl cd_X12_missOf ⟨Nat.le_of_ble_eq_true rfl, Nat.le_of_ble_eq_true rfl⟩) (pw_preV hw Ta0 (by decide) rfl) rfl rfl hl.1 rfl (lv_room (Nat.le_of_ble_eq_true rfl)) dX12_misses_45 ⟨Nat.zero_le _, Nat.zero_le _⟩) hw (fun H locs hw hx24 => ?_)
      have Ta0 : TY S_21 a0 12 := ty_ext hx24 Ta0
      have hE : Ext S0 S_21 := Ext.tr hE hx24
      cases hm
      exact pw_iret hx hb hr rfl hlk hw hE dX12_misses_48
    · rw [if_pos h17] at hm
      refine lv_iconst (v := 0) hx hb dX12_misses_36 (by decide) ?_
      cases hm
      exact pw_iret hx hb hr rfl hlk hw hE dX12_misses_37
abbrev rm_X12_getsOf : Room := { frames := 0, cells := 0, slots := 0, locals := 0 }
def b_X12_getsOf_105 (n : Nat) (k9 : Nat → Int32 → Int32 → Int32 → Int32 → Int32 → pq_S → Option (Int32 × pq_S)) (a0 : Nat) (x1 : Int32) (x2 : Int32) (x3 : Int32) (x4 : Int32) (x5 : Int32) (S : pq_S) : Option (Int32 × pq_S) := k9 a0 x1 x2 x3 x4 (x5 + 1) S
set_option maxHeartbeats 4000000 in
set_option maxRecDepth 100000 in
theorem wb_X12_getsOf_105 {p : Program} {l : Launch} {e : Env} {s : State} {m : MethodId} {args : Array Value} {below : List Frame} {meth : Method} {c : Code} (cx : Cx p s m args meth c cX12_getsOf 6 RX12 (some .int)) (C : pq_C) (X : va_W) (S0 : pq_S) (n : Nat) (r : Int32) (S1 : pq_S) (k9 : Nat → Int32 → Int32 → Int32 → Int32 → Int32 → pq_S → Option (Int32 × pq_S)) (hk9 : ∀ (a0 : Nat) (x1 : Int32) (x2 : Int32) (x3 : Int32) (x4 : Int32) (x5 : Int32) (S : pq_S) (H : Heap) (locs : List Loc) (ls : Array Slot), PW C X S (pq_F C X S0 s.heap.size) H locs s → Ext S0 S → TY S a0 12 → lv_has ls 6 [(0, .ref a0), (1, .int x1), (2, .int x2), (3, .int x3), (4, .int x4), (5, .int x5)] → k9 a0 x1 x2 x3 x4 x5 S = some (r, S1) → W p l e rm_X12_getsOf s m args below meth c H locs 0 0 (MQ below (QcI C X S0 s.heap.size r S1) args s 0 0 (pq_F C X S0 s.heap.size)) (F0 m 13 ls [])) : ∀ (a0 : Nat) (x1 : Int32) (x2 : Int32) (x3 : Int32) (x4 : Int32) (x5 : Int32) (S : pq_S) (H : Heap) (locs : List Loc) (ls : Array Slot), PW C X S (pq_F C X S0 s.heap.size) H locs s → Ext S0 S → TY S a0 12 → lv_has ls 6 [(0, .ref a0), (1, .int x1), (2, .int x2), (3, .int x3), (4, .int x4), (5, .int x5)] → b_X12_getsOf_105 n k9 a0 x1 x2 x3 x4 x5 S = some (r, S1) → W p l e rm_X12_getsOf s m args below meth c H locs 0 0 (MQ below (QcI C X S0 s.heap.size r S1) args s 0 0 (pq_F C X S0 s.heap.size)) (F0 m 105 ls []) := by
  obtain ⟨hx, hb, hml, hown, hU, hr, hlk⟩ := id cx
  intro a0 x1 x2 x3 x4 x5 S H locs ls hw hE Ta0 hl hm
  rw [b_X12_getsOf_105] at hm
  refine lv_iinc (v := (x5 + 1)) (lv' := [(5, .int (x5 + 1)), (0, .ref a0), (1, .int x1), (2, .int x2), (3, .int x3), (4, .int x4)]) hx hb dX12_getsOf_105 hl (k := 5) rfl rfl (by decide) rfl (fun ls hl => ?_)
  refine lv_goto (tgt := 13) hx hb dX12_getsOf_108 (by decide) ?_
  exact hk9 a0 x1 x2 x3 x4 (x5 + 1) S _ _ _ hw hE Ta0 (lv_sub hl [1, 2, 3, 4, 5, 0] rfl) hm
def b_X12_getsOf_101 (n : Nat) (k9 : Nat → Int32 → Int32 → Int32 → Int32 → Int32 → pq_S → Option (Int32 × pq_S)) (a0 : Nat) (x1 : Int32) (x2 : Int32) (x3 : Int32) (x5 : Int32) (z0 : Int32) (z1 : Int32) (z2 : Int32) (S : pq_S) : Option (Int32 × pq_S) := b_X12_getsOf_105 n k9 a0 x1 x2 x3 (z0 + (z1 * z2)) x5 S
set_option maxHeartbeats 4000000 in
set_option maxRecDepth 100000 in
theorem wb_X12_getsOf_101 {p : Program} {l : Launch} {e : Env} {s : State} {m : MethodId} {args : Array Value} {below : List Frame} {meth : Method} {c : Code} (cx : Cx p s m args meth c cX12_getsOf 6 RX12 (some .int)) (C : pq_C) (X : va_W) (S0 : pq_S) (n : Nat) (r : Int32) (S1 : pq_S) (k9 : Nat → Int32 → Int32 → Int32 → Int32 → Int32 → pq_S → Option (Int32 × pq_S)) (hk9 : ∀ (a0 : Nat) (x1 : Int32) (x2 : Int32) (x3 : Int32) (x4 : Int32) (x5 : Int32) (S : pq_S) (H : Heap) (locs : List Loc) (ls : Array Slot), PW C X S (pq_F C X S0 s.heap.size) H locs s → Ext S0 S → TY S a0 12 → lv_has ls 6 [(0, .ref a0), (1, .int x1), (2, .int x2), (3, .int x3), (4, .int x4), (5, .int x5)] → k9 a0 x1 x2 x3 x4 x5 S = some (r, S1) → W p l e rm_X12_getsOf s m args below meth c H locs 0 0 (MQ below (QcI C X S0 s.heap.size r S1) args s 0 0 (pq_F C X S0 s.heap.size)) (F0 m 13 ls [])) : ∀ (a0 : Nat) (x1 : Int32) (x2 : Int32) (x3 : Int32) (x5 : Int32) (z0 : Int32) (z1 : Int32) (z2 : Int32) (S : pq_S) (H : Heap) (locs : List Loc) (ls : Array Slot), PW C X S (pq_F C X S0 s.heap.size) H locs s → Ext S0 S → TY S a0 12 → lv_has ls 6 [(0, .ref a0), (1, .int x1), (2, .int x2), (3, .int x3), (5, .int x5)] → b_X12_getsOf_101 n k9 a0 x1 x2 x3 x5 z0 z1 z2 S = some (r, S1) → W p l e rm_X12_getsOf s m args below meth c H locs 0 0 (MQ below (QcI C X S0 s.heap.size r S1) args s 0 0 (pq_F C X S0 s.heap.size)) (F0 m 101 ls [.int z2, .int z1, .int z0]) := by
  obtain ⟨hx, hb, hml, hown, hU, hr, hlk⟩ := id cx
  intro a0 x1 x2 x3 x5 z0 z1 z2 S H locs ls hw hE Ta0 hl hm
  rw [b_X12_getsOf_101] at hm
  refine lv_imul hx hb dX12_getsOf_101 ?_
  refine lv_iadd hx hb dX12_getsOf_102 ?_
  refine lv_istore (lv' := [(4, .int (z0 + (z1 * z2))), (0, .ref a0), (1, .int x1), (2, .int x2), (3, .int x3), (5, .int x5)]) hx hb dX12_getsOf_103 hl (by decide) rfl (fun ls hl => ?_)
  exact wb_X12_getsOf_105 cx C X S0 n r S1 _ hk9 a0 x1 x2 x3 (z0 + (z1 * z2)) x5 S _ _ _ hw hE Ta0 (lv_sub hl [1, 2, 3, 4, 0, 5] rfl) hm
def b_X12_getsOf_13 (n : Nat) : Nat → Nat → Int32 → Int32 → Int32 → Int32 → Int32 → pq_S → Option (Int32 × pq_S)
  | 0, _, _, _, _, _, _, _ => none
  | f + 1, a0, x1, x2, x3, x4, x5, S => if (pI S 1225 a0) ≤ x5 then some (x4, S) else Option.bind (pR S 1247 a0) fun q3 => ck (ix ((18 : Int32) + x5) (pN S q3)) (dix _ _) (if (pA S q3 (Int32.toNatClampNeg ((18 : Int32) + x5))) = 0 then b_X12_getsOf_105 n (b_X12_getsOf_13 n f) a0 x1 x2 x3 x4 x5 S else Option.bind (pR S 1215 a0) fun q6 => ck (ix ((4 : Int32) * x5) (pN S q6)) (dix _ _) (if (pA S q6 (Int32.toNatClampNeg ((4 : Int32) * x5))) = x1 then Option.bind (pR S 1215 a0) fun q9 => ck (ix (((4 : Int32) * x5) + (3 : Int32)) (pN S q9)) (dix _ _) (if x2 ≤ (pA S q9 (Int32.toNatClampNeg (((4 : Int32) * x5) + (3 : Int32)))) then if x2 = x3 then Option.bind (pR S 1215 a0) fun q15 => ck (ix (((4 : Int32) * x5) + (1 : Int32)) (pN S q15)) (dix _ _) (b_X12_getsOf_101 n (b_X12_getsOf_13 n f) a0 x1 x2 x3 x5 x4 x2 ((pA S q15 (Int32.toNatClampNeg (((4 : Int32) * x5) + (1 : Int32)))) / 2) S) else Option.bind (pR S 1215 a0) fun q13 => ck (ix (((4 : Int32) * x5) + (1 : Int32)) (pN S q13)) (dix _ _) (b_X12_getsOf_101 n (b_X12_getsOf_13 n f) a0 x1 x2 x3 x5 x4 x2 (pA S q13 (Int32.toNatClampNeg (((4 : Int32) * x5) + (1 : Int32)))) S) else b_X12_getsOf_105 n (b_X12_getsOf_13 n f) a0 x1 x2 x3 x4 x5 S) else b_X12_getsOf_105 n (b_X12_getsOf_13 n f) a0 x1 x2 x3 x4 x5 S))
set_option maxHeartbeats 4000000 in
set_option maxRecDepth 100000 in
theorem wb_X12_getsOf_13 {p : Program} {l : Launch} {e : Env} {s : State} {m : MethodId} {args : Array Value} {below : List Frame} {meth : Method} {c : Code} (cx : Cx p s m args meth c cX12_getsOf 6 RX12 (some .int)) (C : pq_C) (X : va_W) (S0 : pq_S) (n : Nat) (r : Int32) (S1 : pq_S) : ∀ (f : Nat) (a0 : Nat) (x1 : Int32) (x2 : Int32) (x3 : Int32) (x4 : Int32) (x5 : Int32) (S : pq_S) (H : Heap) (locs : List Loc) (ls : Array Slot), PW C X S (pq_F C X S0 s.heap.size) H locs s → Ext S0 S → TY S a0 12 → lv_has ls 6 [(0, .ref a0), (1, .int x1), (2, .int x2), (3, .int x3), (4, .int x4), (5, .int x5)] → b_X12_getsOf_13 n f a0 x1 x2 x3 x4 x5 S = some (r, S1) → W p l e rm_X12_getsOf s m args below meth c H locs 0 0 (MQ below (QcI C X S0 s.heap.size r S1) args s 0 0 (pq_F C X S0 s.heap.size)) (F0 m 13 ls []) := by
  obtain ⟨hx, hb, hml, hown, hU, hr, hlk⟩ := id cx
  intro f
  induction f with
  | zero =>
    intro a0 x1 x2 x3 x4 x5 S H locs ls hw hE Ta0 hl hm
    cases hm
  | succ f ih =>
    intro a0 x1 x2 x3 x4 x5 S H locs ls hw hE Ta0 hl hm
    rw [b_X12_getsOf_13] at hm
    refine lv_iload hx hb dX12_getsOf_13 (lv_at hl 5 rfl) ?_
    refine lv_aload_n hx hb dX12_getsOf_15 rfl (lv_at hl 0 rfl) ?_
    refine pg_i (k := 12) (j := 25) (f := 1225) hx hb hown hU iu12 hw Ta0 (by decide) rfl (hU _ tw1496) rfl dX12_getsOf_16 ?_
    refine lv_icmp_ge (tgt := 111) hx hb dX12_getsOf_19 (by decide) (fun h2 => ?_) (fun h2 => ?_)
    · rw [if_pos h2] at hm
      refine lv_iload hx hb dX12_getsOf_111 (lv_at hl 4 rfl) ?_
      cases hm
      exact pw_iret hx hb hr rfl hlk hw hE dX12_getsOf_113
    · rw [if_neg h2] at hm
      refine lv_aload_n hx hb dX12_getsOf_22 rfl (lv_at hl 0 rfl) ?_
      obtain ⟨q3, hq3, hm⟩ := bd_some hm
      have Tq3 : TY S q3 14 := hw.wf.ref (k := 12) (j := 47) Ta0 (by decide) (by decide) hq3
      refine pg_rb (k := 12) (j := 47) (f := 1247) hx hb hown hU iu12 hw Ta0 (by decide) rfl (hU _ tw1518) rfl hq3 dX12_getsOf_23 ?_
      refine lv_bipush (v := 18) hx hb dX12_getsOf_26 (by decide) ?_
      refine lv_iload hx hb dX12_getsOf_28 (lv_at hl 5 rfl) ?_
      refine lv_iadd hx hb dX12_getsOf_30 ?_
      obtain ⟨hi4, hm⟩ := ck_some hm
      refine pw_iald hx hb hw Tq3 hi4 dX12_getsOf_31 ?_
      refine lv_if_eq (tgt := 105) hx hb dX12_getsOf_32 (by decide) (fun h5 => ?_) (fun h5 => ?_)
      · rw [if_pos h5] at hm
        exact wb_X12_getsOf_105 cx C X S0 n r S1 _ ih a0 x1 x2 x3 x4 x5 S _ _ _ hw hE Ta0 (lv_sub hl [0, 1, 2, 3, 4, 5] rfl) hm
      · rw [if_neg h5] at hm
        refine lv_aload_n hx hb dX12_getsOf_35 rfl (lv_at hl 0 rfl) ?_
        obtain ⟨q6, hq6, hm⟩ := bd_some hm
        have Tq6 : TY S q6 14 := hw.wf.ref (k := 12) (j := 15) Ta0 (by decide) (by decide) hq6
        refine pg_rb (k := 12) (j := 15) (f := 1215) hx hb hown hU iu12 hw Ta0 (by decide) rfl (hU _ tw1486) rfl hq6 dX12_getsOf_36 ?_
        refine lv_iconst (v := 4) hx hb dX12_getsOf_39 (by decide) ?_
        refine lv_iload hx hb dX12_getsOf_40 (lv_at hl 5 rfl) ?_
        refine lv_imul hx hb dX12_getsOf_42 ?_
        obtain ⟨hi7, hm⟩ := ck_some hm
        refine pw_iald hx hb hw Tq6 hi7 dX12_getsOf_43 ?_
        refine lv_iload_n hx hb dX12_getsOf_44 rfl (lv_at hl 1 rfl) ?_
        refine lv_icmp_ne (tgt := 105) hx hb dX12_getsOf_45 (by decide) (fun h8 => ?_) (fun h8 => ?_)
        · rw [if_neg h8] at hm
          exact wb_X12_getsOf_105 cx C X S0 n r S1 _ ih a0 x1 x2 x3 x4 x5 S _ _ _ hw hE Ta0 (lv_sub hl [0, 1, 2, 3, 4, 5] rfl) hm
        · rw [if_pos h8] at hm
          refine lv_aload_n hx hb dX12_getsOf_48 rfl (lv_at hl 0 rfl) ?_
          obtain ⟨q9, hq9, hm⟩ := bd_some hm
          have Tq9 : TY S q9 14 := hw.wf.ref (k := 12) (j := 15) Ta0 (by decide) (by decide) hq9
          refine pg_rb (k := 12) (j := 15) (f := 1215) hx hb hown hU iu12 hw Ta0 (by decide) rfl (hU _ tw1486) rfl hq9 dX12_getsOf_49 ?_
          refine lv_iconst (v := 4) hx hb dX12_getsOf_52 (by decide) ?_
          refine lv_iload hx hb dX12_getsOf_53 (lv_at hl 5 rfl) ?_
          refine lv_imul hx hb dX12_getsOf_55 ?_
          refine lv_iconst (v := 3) hx hb dX12_getsOf_56 (by decide) ?_
          refine lv_iadd hx hb dX12_getsOf_57 ?_
          obtain ⟨hi10, hm⟩ := ck_some hm
          refine pw_iald hx hb hw Tq9 hi10 dX12_getsOf_58 ?_
          refine lv_iload_n hx hb dX12_getsOf_59 rfl (lv_at hl 2 rfl) ?_
          refine lv_icmp_ge (tgt := 66) hx hb dX12_getsOf_60 (by decide) (fun h11 => ?_) (fun h11 => ?_)
          · rw [if_pos h11] at hm
            refine lv_iload hx hb dX12_getsOf_66 (lv_at hl 4 rfl) ?_
            refine lv_iload_n hx hb dX12_getsOf_68 rfl (lv_at hl 2 rfl) ?_
            refine lv_iload_n hx hb dX12_getsOf_69 rfl (lv_at hl 2 rfl) ?_
            refine lv_iload_n hx hb dX12_getsOf_70 rfl (lv_at hl 3 rfl) ?_
            refine lv_icmp_ne (tgt := 90) hx hb dX12_getsOf_71 (by decide) (fun h12 => ?_) (fun h12 => ?_)
            · rw [if_neg h12] at hm
              refine lv_aload_n hx hb dX12_getsOf_90 rfl (lv_at hl 0 rfl) ?_
              obtain ⟨q13, hq13, hm⟩ := bd_some hm
              have Tq13 : TY S q13 14 := hw.wf.ref (k := 12) (j := 15) Ta0 (by decide) (by decide) hq13
              refine pg_rb (k := 12) (j := 15) (f := 1215) hx hb hown hU iu12 hw Ta0 (by decide) rfl (hU _ tw1486) rfl hq13 dX12_getsOf_91 ?_
              refine lv_iconst (v := 4) hx hb dX12_getsOf_94 (by decide) ?_
              refine lv_iload hx hb dX12_getsOf_95 (lv_at hl 5 rfl) ?_
              refine lv_imul hx hb dX12_getsOf_97 ?_
              refine lv_iconst (v := 1) hx hb dX12_getsOf_98 (by decide) ?_
              refine lv_iadd hx hb dX12_getsOf_99 ?_
              obtain ⟨hi14, hm⟩ := ck_some hm
              refine pw_iald hx hb hw Tq13 hi14 dX12_getsOf_100 ?_
              exact wb_X12_getsOf_101 cx C X S0 n r S1 _ ih a0 x1 x2 x3 x5 x4 x2 (pA S q13 (Int32.toNatClampNeg (((4 : Int32) * x5) + (1 : Int32)))) S _ _ _ hw hE Ta0 (lv_sub hl [0, 1, 2, 3, 5] rfl) hm
            · rw [if_pos h12] at hm
              refine lv_aload_n hx hb dX12_getsOf_74 rfl (lv_at hl 0 rfl) ?_
              obtain ⟨q15, hq15, hm⟩ := bd_some hm
              have Tq15 : TY S q15 14 := hw.wf.ref (k := 12) (j := 15) Ta0 (by decide) (by decide) hq15
              refine pg_rb (k := 12) (j := 15) (f := 1215) hx hb hown hU iu12 hw Ta0 (by decide) rfl (hU _ tw1486) rfl hq15 dX12_getsOf_75 ?_
              refine lv_iconst (v := 4) hx hb dX12_getsOf_78 (by decide) ?_
              refine lv_iload hx hb dX12_getsOf_79 (lv_at hl 5 rfl) ?_
              refine lv_imul hx hb dX12_getsOf_81 ?_
              refine lv_iconst (v := 1) hx hb dX12_getsOf_82 (by decide) ?_
              refine lv_iadd hx hb dX12_getsOf_83 ?_
              obtain ⟨hi16, hm⟩ := ck_some hm
              refine pw_iald hx hb hw Tq15 hi16 dX12_getsOf_84 ?_
              refine lv_iconst (v := 2) hx hb dX12_getsOf_85 (by decide) ?_
              refine lv_idiv hx hb dX12_getsOf_86 (by decide) ?_
              refine lv_goto (tgt := 101) hx hb dX12_getsOf_87 (by decide) ?_
              exact wb_X12_getsOf_101 cx C X S0 n r S1 _ ih a0 x1 x2 x3 x5 x4 x2 ((pA S q15 (Int32.toNatClampNeg (((4 : Int32) * x5) + (1 : Int32)))) / 2) S _ _ _ hw hE Ta0 (lv_sub hl [0, 1, 2, 3, 5] rfl) hm
          · rw [if_neg h11] at hm
            refine lv_goto (tgt := 105) hx hb dX12_getsOf_63 (by decide) ?_
            exact wb_X12_getsOf_105 cx C X S0 n r S1 _ ih a0 x1 x2 x3 x4 x5 S _ _ _ hw hE Ta0 (lv_sub hl [0, 1, 2, 3, 4, 5] rfl) hm
def m_X12_getsOf (n : Nat) (a0 : Nat) (x1 : Int32) (x2 : Int32) (x3 : Int32) (S0 : pq_S) : Option (Int32 × pq_S) := if x2 ≤ x3 then b_X12_getsOf_13 n n a0 x1 x2 x3 0 0 S0 else some (0, S0)
theorem tc_X12_getsOf : Cond.code yX12_getsOf cX12_getsOf 6 (some .int) ∈ pq_U := tw2065
theorem cd_X12_getsOf : yX12_getsOf.cls = RX12 ∧ yX12_getsOf.cls ≠ "java/lang/invoke/MethodHandle" ∧ yX12_getsOf.cls ≠ "java/lang/invoke/VarHandle" ∧ (parseMethodDescriptor yX12_getsOf.desc).map (fun d => d.parameters.length) = some 3 := by decide +kernel
set_option maxHeartbeats 4000000 in
set_option maxRecDepth 100000 in
theorem c_X12_getsOf (l : Launch) (C : pq_C) (X : va_W) (n : Nat) (S0 : pq_S) (hF : WF S0) (sz : Nat) (a0 : Nat) (x1 : Int32) (x2 : Int32) (x3 : Int32) (Ta0 : TY S0 a0 12) (r : Int32) (S1 : pq_S) (hm : m_X12_getsOf n a0 x1 x2 x3 S0 = some (r, S1)) : MI l yX12_getsOf (.code yX12_getsOf cX12_getsOf 6 (some .int) :: pq_U) rm_X12_getsOf C X S0 sz [.ref a0, .int x1, .int x2, .int x3] r S1 0 0 := by
  refine Met.ofW (cc := cX12_getsOf) (maxL := 6) (ret := (some .int)) (by decide) rfl ?_
  intro p e s m args below meth c s₁ B hml hv
  obtain ⟨rfl, hv⟩ := hv
  have hsz := hv.1
  subst hsz
  have hw := pw_entry hF hv
  have hts := atoms_spec (ws := .code yX12_getsOf cX12_getsOf 6 (some .int) :: pq_U) B.pre
  have hU : ∀ w ∈ pq_U, w.before _ s = true := fun w h => hts w (List.mem_cons_of_mem _ h)
  have hx := B.exec
  have hb := B.bytes
  have hr := B.returns
  have hown : s.vm.findClass RX12 = some m.cls := findClass_of_methodNamed B.named
  have hlk := B.notSynchronized
  have hl := lv_entry ([.ref a0, .int x1, .int x2, .int x3]) (n := 6) (Nat.le_of_ble_eq_true rfl)
  rw [lg_entry_eq]
  generalize (lg_sl ([.ref a0, .int x1, .int x2, .int x3]) ++ List.replicate (6 - (lg_sl ([.ref a0, .int x1, .int x2, .int x3])).length) Slot.unset).toArray = ls at hl ⊢
  have hl : lv_has ls 6 [(0, .ref a0), (1, .int x1), (2, .int x2), (3, .int x3)] := hl
  have hE : Ext S0 S0 := Ext.rf _
  have cx : Cx p s m _ meth c cX12_getsOf 6 RX12 (some .int) := ⟨hx, hb, hml, hown, hU, hr, hlk⟩
  rw [m_X12_getsOf] at hm
  refine lv_iload_n hx hb dX12_getsOf_0 rfl (lv_at hl 2 rfl) ?_
  refine lv_iload_n hx hb dX12_getsOf_1 rfl (lv_at hl 3 rfl) ?_
  refine lv_icmp_le (tgt := 7) hx hb dX12_getsOf_2 (by decide) (fun h1 => ?_) (fun h1 => ?_)
  · rw [if_pos h1] at hm
    refine lv_iconst (v := 0) hx hb dX12_getsOf_7 (by decide) ?_
    refine lv_istore (lv' := [(4, .int 0), (0, .ref a0), (1, .int x1), (2, .int x2), (3, .int x3)]) hx hb dX12_getsOf_8 hl (by decide) rfl (fun ls hl => ?_)
    refine lv_iconst (v := 0) hx hb dX12_getsOf_10 (by decide) ?_
    refine lv_istore (lv' := [(5, .int 0), (4, .int 0), (0, .ref a0), (1, .int x1), (2, .int x2), (3, .int x3)]) hx hb dX12_getsOf_11 hl (by decide) rfl (fun ls hl => ?_)
    exact wb_X12_getsOf_13 cx C X S0 n r S1 n a0 x1 x2 x3 0 0 S0 _ _ _ hw hE Ta0 (lv_sub hl [2, 3, 4, 5, 1, 0] rfl) hm
  · rw [if_neg h1] at hm
    refine lv_iconst (v := 0) hx hb dX12_getsOf_5 (by decide) ?_
    cases hm
    exact pw_iret hx hb hr rfl hlk hw hE dX12_getsOf_6
abbrev rm_X12_isBest : Room := { frames := 1, cells := 0, slots := 0, locals := 25 }
def b_X12_isBest_3 (n : Nat) : Nat → Nat → Int32 → Int32 → Int32 → Int32 → Int32 → pq_S → Option (Int32 × pq_S)
  | 0, _, _, _, _, _, _, _ => none
  | f + 1, a0, x1, x2, x3, x4, x5, S => if x4 < x5 then some (1, S) else cb (m_X12_getsOf n a0 x1 x5 x3 S) fun r4 S_2 => cb (m_X12_getsOf n a0 x1 x2 x3 S_2) fun r8 S_6 => if r4 ≤ r8 then b_X12_isBest_3 n f a0 x1 x2 x3 x4 (x5 + 1) S_6 else some (0, S_6)
set_option maxHeartbeats 4000000 in
set_option maxRecDepth 100000 in
theorem wb_X12_isBest_3 {p : Program} {l : Launch} {e : Env} {s : State} {m : MethodId} {args : Array Value} {below : List Frame} {meth : Method} {c : Code} (cx : Cx p s m args meth c cX12_isBest 6 RX12 (some .boolean)) (C : pq_C) (X : va_W) (S0 : pq_S) (n : Nat) (r : Int32) (S1 : pq_S) : ∀ (f : Nat) (a0 : Nat) (x1 : Int32) (x2 : Int32) (x3 : Int32) (x4 : Int32) (x5 : Int32) (S : pq_S) (H : Heap) (locs : List Loc) (ls : Array Slot), PW C X S (pq_F C X S0 s.heap.size) H locs s → Ext S0 S → TY S a0 12 → lv_has ls 6 [(0, .ref a0), (1, .int x1), (2, .int x2), (3, .int x3), (4, .int x4), (5, .int x5)] → b_X12_isBest_3 n f a0 x1 x2 x3 x4 x5 S = some (r, S1) → W p l e rm_X12_isBest s m args below meth c H locs 0 0 (MQ below (QcZ C X S0 s.heap.size r S1) args s 0 0 (pq_F C X S0 s.heap.size)) (F0 m 3 ls []) := by
  obtain ⟨hx, hb, hml, hown, hU, hr, hlk⟩ := id cx
  intro f
  induction f with
  | zero =>
    intro a0 x1 x2 x3 x4 x5 S H locs ls hw hE Ta0 hl hm
    cases hm
  | succ f ih =>
    intro a0 x1 x2 x3 x4 x5 S H locs ls hw hE Ta0 hl hm
    rw [b_X12_isBest_3] at hm
    refine lv_iload hx hb dX12_isBest_3 (lv_at hl 5 rfl) ?_
    refine lv_iload hx hb dX12_isBest_5 (lv_at hl 4 rfl) ?_
    refine lv_icmp_gt (tgt := 36) hx hb dX12_isBest_7 (by decide) (fun h1 => ?_) (fun h1 => ?_)
    · rw [if_pos h1] at hm
      refine lv_iconst (v := 1) hx hb dX12_isBest_36 (by decide) ?_
      cases hm
      exact pw_zret hx hb hr bz_1 hlk hw hE dX12_isBest_37
    · rw [if_neg h1] at hm
      refine lv_aload_n hx hb dX12_isBest_10 rfl (lv_at hl 0 rfl) ?_
      refine lv_iload_n hx hb dX12_isBest_11 rfl (lv_at hl 1 rfl) ?_
      refine lv_iload hx hb dX12_isBest_12 (lv_at hl 5 rfl) ?_
      refine lv_iload_n hx hb dX12_isBest_14 rfl (lv_at hl 3 rfl) ?_
      obtain ⟨r4, S_2, hq3, hm⟩ := cb_some hm
      refine pw_ci (va_runV (As := [.int x1, .int x5, .int x3]) (rest := []) ⟨hx, hb, hml, hown, hU⟩ (c_X12_getsOf l C X n S hw.wf _ a0 x1 x5 x3 (Ta0) r4 S_2 hq3) (cwV 3 hU (pq_gV tw2062 tw2064 ts175 tw14 tc_X12_getsOf) rfl rfl rfl cd_X12_getsOf ⟨Nat.le_of_ble_eq_true rfl, Nat.le_of_ble_eq_true rfl⟩) (pw_preV hw Ta0 (by decide) rfl) rfl rfl hl.1 rfl (lv_room (Nat.le_of_ble_eq_true rfl)) dX12_isBest_15 ⟨Nat.zero_le _, Nat.zero_le _⟩) hw (fun H locs hw hx5 => ?_)
      have Ta0 : TY S_2 a0 12 := ty_ext hx5 Ta0
      have hE : Ext S0 S_2 := Ext.tr hE hx5
      refine lv_aload_n hx hb dX12_isBest_18 rfl (lv_at hl 0 rfl) ?_
      refine lv_iload_n hx hb dX12_isBest_19 rfl (lv_at hl 1 rfl) ?_
      refine lv_iload_n hx hb dX12_isBest_20 rfl (lv_at hl 2 rfl) ?_
      refine lv_iload_n hx hb dX12_isBest_21 rfl (lv_at hl 3 rfl) ?_
      obtain ⟨r8, S_6, hq7, hm⟩ := cb_some hm
      refine pw_ci (va_runV (As := [.int x1, .int x2, .int x3]) (rest := [.int r4]) ⟨hx, hb, hml, hown, hU⟩ (c_X12_getsOf l C X n S_2 hw.wf _ a0 x1 x2 x3 (Ta0) r8 S_6 hq7) (cwV 3 hU (pq_gV tw2062 tw2064 ts175 tw14 tc_X12_getsOf) rfl rfl rfl cd_X12_getsOf ⟨Nat.le_of_ble_eq_true rfl, Nat.le_of_ble_eq_true rfl⟩) (pw_preV hw Ta0 (by decide) rfl) rfl rfl hl.1 rfl (lv_room (Nat.le_of_ble_eq_true rfl)) dX12_isBest_22 ⟨Nat.zero_le _, Nat.zero_le _⟩) hw (fun H locs hw hx9 => ?_)
      have Ta0 : TY S_6 a0 12 := ty_ext hx9 Ta0
      have hE : Ext S0 S_6 := Ext.tr hE hx9
      refine lv_icmp_le (tgt := 30) hx hb dX12_isBest_25 (by decide) (fun h10 => ?_) (fun h10 => ?_)
      · rw [if_pos h10] at hm
        refine lv_iinc (v := (x5 + 1)) (lv' := [(5, .int (x5 + 1)), (0, .ref a0), (1, .int x1), (2, .int x2), (3, .int x3), (4, .int x4)]) hx hb dX12_isBest_30 hl (k := 5) rfl rfl (by decide) rfl (fun ls hl => ?_)
        refine lv_goto (tgt := 3) hx hb dX12_isBest_33 (by decide) ?_
        exact ih a0 x1 x2 x3 x4 (x5 + 1) S_6 _ _ _ hw hE Ta0 (lv_sub hl [1, 2, 3, 4, 5, 0] rfl) hm
      · rw [if_neg h10] at hm
        refine lv_iconst (v := 0) hx hb dX12_isBest_28 (by decide) ?_
        cases hm
        exact pw_zret hx hb hr bz_0 hlk hw hE dX12_isBest_29
def m_X12_isBest (n : Nat) (a0 : Nat) (x1 : Int32) (x2 : Int32) (x3 : Int32) (x4 : Int32) (S0 : pq_S) : Option (Int32 × pq_S) := b_X12_isBest_3 n n a0 x1 x2 x3 x4 0 S0
theorem tc_X12_isBest : Cond.code yX12_isBest cX12_isBest 6 (some .boolean) ∈ pq_U := tw2061
theorem cd_X12_isBest : yX12_isBest.cls = RX12 ∧ yX12_isBest.cls ≠ "java/lang/invoke/MethodHandle" ∧ yX12_isBest.cls ≠ "java/lang/invoke/VarHandle" ∧ (parseMethodDescriptor yX12_isBest.desc).map (fun d => d.parameters.length) = some 4 := by decide +kernel
set_option maxHeartbeats 4000000 in
set_option maxRecDepth 100000 in
theorem c_X12_isBest (l : Launch) (C : pq_C) (X : va_W) (n : Nat) (S0 : pq_S) (hF : WF S0) (sz : Nat) (a0 : Nat) (x1 : Int32) (x2 : Int32) (x3 : Int32) (x4 : Int32) (Ta0 : TY S0 a0 12) (r : Int32) (S1 : pq_S) (hm : m_X12_isBest n a0 x1 x2 x3 x4 S0 = some (r, S1)) : MZ l yX12_isBest (.code yX12_isBest cX12_isBest 6 (some .boolean) :: pq_U) rm_X12_isBest C X S0 sz [.ref a0, .int x1, .int x2, .int x3, .int x4] r S1 0 0 := by
  refine Met.ofW (cc := cX12_isBest) (maxL := 6) (ret := (some .boolean)) (by decide) rfl ?_
  intro p e s m args below meth c s₁ B hml hv
  obtain ⟨rfl, hv⟩ := hv
  have hsz := hv.1
  subst hsz
  have hw := pw_entry hF hv
  have hts := atoms_spec (ws := .code yX12_isBest cX12_isBest 6 (some .boolean) :: pq_U) B.pre
  have hU : ∀ w ∈ pq_U, w.before _ s = true := fun w h => hts w (List.mem_cons_of_mem _ h)
  have hx := B.exec
  have hb := B.bytes
  have hr := B.returns
  have hown : s.vm.findClass RX12 = some m.cls := findClass_of_methodNamed B.named
  have hlk := B.notSynchronized
  have hl := lv_entry ([.ref a0, .int x1, .int x2, .int x3, .int x4]) (n := 6) (Nat.le_of_ble_eq_true rfl)
  rw [lg_entry_eq]
  generalize (lg_sl ([.ref a0, .int x1, .int x2, .int x3, .int x4]) ++ List.replicate (6 - (lg_sl ([.ref a0, .int x1, .int x2, .int x3, .int x4])).length) Slot.unset).toArray = ls at hl ⊢
  have hl : lv_has ls 6 [(0, .ref a0), (1, .int x1), (2, .int x2), (3, .int x3), (4, .int x4)] := hl
  have hE : Ext S0 S0 := Ext.rf _
  have cx : Cx p s m _ meth c cX12_isBest 6 RX12 (some .boolean) := ⟨hx, hb, hml, hown, hU, hr, hlk⟩
  rw [m_X12_isBest] at hm
  refine lv_iconst (v := 0) hx hb dX12_isBest_0 (by decide) ?_
  refine lv_istore (lv' := [(5, .int 0), (0, .ref a0), (1, .int x1), (2, .int x2), (3, .int x3), (4, .int x4)]) hx hb dX12_isBest_1 hl (by decide) rfl (fun ls hl => ?_)
  exact wb_X12_isBest_3 cx C X S0 n r S1 n a0 x1 x2 x3 x4 0 S0 _ _ _ hw hE Ta0 (lv_sub hl [1, 2, 3, 4, 5, 0] rfl) hm
abbrev rm_X12_sellers : Room := { frames := 2, cells := 0, slots := 0, locals := 50 }
def b_X12_sellers_136 (n : Nat) (k36 : Nat → Int32 → Int32 → Int32 → Int32 → Int32 → Int32 → pq_S → Option (Int32 × pq_S)) (a0 : Nat) (x1 : Int32) (x2 : Int32) (x3 : Int32) (x4 : Int32) (x5 : Int32) (x6 : Int32) (S : pq_S) : Option (Int32 × pq_S) := k36 a0 x1 x2 x3 x4 x5 (x6 + 1) S
set_option maxHeartbeats 4000000 in
set_option maxRecDepth 100000 in
theorem wb_X12_sellers_136 {p : Program} {l : Launch} {e : Env} {s : State} {m : MethodId} {args : Array Value} {below : List Frame} {meth : Method} {c : Code} (cx : Cx p s m args meth c cX12_sellers 8 RX12 (some .int)) (C : pq_C) (X : va_W) (S0 : pq_S) (n : Nat) (r : Int32) (S1 : pq_S) (k36 : Nat → Int32 → Int32 → Int32 → Int32 → Int32 → Int32 → pq_S → Option (Int32 × pq_S)) (hk36 : ∀ (a0 : Nat) (x1 : Int32) (x2 : Int32) (x3 : Int32) (x4 : Int32) (x5 : Int32) (x6 : Int32) (S : pq_S) (H : Heap) (locs : List Loc) (ls : Array Slot), PW C X S (pq_F C X S0 s.heap.size) H locs s → Ext S0 S → TY S a0 12 → lv_has ls 8 [(0, .ref a0), (1, .int x1), (2, .int x2), (3, .int x3), (4, .int x4), (5, .int x5), (6, .int x6)] → k36 a0 x1 x2 x3 x4 x5 x6 S = some (r, S1) → W p l e rm_X12_sellers s m args below meth c H locs 0 0 (MQ below (QcI C X S0 s.heap.size r S1) args s 0 0 (pq_F C X S0 s.heap.size)) (F0 m 62 ls [])) : ∀ (a0 : Nat) (x1 : Int32) (x2 : Int32) (x3 : Int32) (x4 : Int32) (x5 : Int32) (x6 : Int32) (S : pq_S) (H : Heap) (locs : List Loc) (ls : Array Slot), PW C X S (pq_F C X S0 s.heap.size) H locs s → Ext S0 S → TY S a0 12 → lv_has ls 8 [(0, .ref a0), (1, .int x1), (2, .int x2), (3, .int x3), (4, .int x4), (5, .int x5), (6, .int x6)] → b_X12_sellers_136 n k36 a0 x1 x2 x3 x4 x5 x6 S = some (r, S1) → W p l e rm_X12_sellers s m args below meth c H locs 0 0 (MQ below (QcI C X S0 s.heap.size r S1) args s 0 0 (pq_F C X S0 s.heap.size)) (F0 m 136 ls []) := by
  obtain ⟨hx, hb, hml, hown, hU, hr, hlk⟩ := id cx
  intro a0 x1 x2 x3 x4 x5 x6 S H locs ls hw hE Ta0 hl hm
  rw [b_X12_sellers_136] at hm
  refine lv_iinc (v := (x6 + 1)) (lv' := [(6, .int (x6 + 1)), (0, .ref a0), (1, .int x1), (2, .int x2), (3, .int x3), (4, .int x4), (5, .int x5)]) hx hb dX12_sellers_136 hl (k := 6) rfl rfl (by decide) rfl (fun ls hl => ?_)
  refine lv_goto (tgt := 62) hx hb dX12_sellers_139 (by decide) ?_
  exact hk36 a0 x1 x2 x3 x4 x5 (x6 + 1) S _ _ _ hw hE Ta0 (lv_sub hl [1, 2, 3, 4, 5, 6, 0] rfl) hm
def b_X12_sellers_130 (n : Nat) (k36 : Nat → Int32 → Int32 → Int32 → Int32 → Int32 → Int32 → pq_S → Option (Int32 × pq_S)) (k41 : Nat → Int32 → Int32 → Int32 → Int32 → Int32 → Int32 → Int32 → pq_S → Option (Int32 × pq_S)) (a0 : Nat) (x1 : Int32) (x2 : Int32) (x3 : Int32) (x4 : Int32) (x5 : Int32) (x6 : Int32) (x7 : Int32) (S : pq_S) : Option (Int32 × pq_S) := k41 a0 x1 x2 x3 x4 x5 x6 (x7 + 1) S
set_option maxHeartbeats 4000000 in
set_option maxRecDepth 100000 in
theorem wb_X12_sellers_130 {p : Program} {l : Launch} {e : Env} {s : State} {m : MethodId} {args : Array Value} {below : List Frame} {meth : Method} {c : Code} (cx : Cx p s m args meth c cX12_sellers 8 RX12 (some .int)) (C : pq_C) (X : va_W) (S0 : pq_S) (n : Nat) (r : Int32) (S1 : pq_S) (k36 : Nat → Int32 → Int32 → Int32 → Int32 → Int32 → Int32 → pq_S → Option (Int32 × pq_S)) (hk36 : ∀ (a0 : Nat) (x1 : Int32) (x2 : Int32) (x3 : Int32) (x4 : Int32) (x5 : Int32) (x6 : Int32) (S : pq_S) (H : Heap) (locs : List Loc) (ls : Array Slot), PW C X S (pq_F C X S0 s.heap.size) H locs s → Ext S0 S → TY S a0 12 → lv_has ls 8 [(0, .ref a0), (1, .int x1), (2, .int x2), (3, .int x3), (4, .int x4), (5, .int x5), (6, .int x6)] → k36 a0 x1 x2 x3 x4 x5 x6 S = some (r, S1) → W p l e rm_X12_sellers s m args below meth c H locs 0 0 (MQ below (QcI C X S0 s.heap.size r S1) args s 0 0 (pq_F C X S0 s.heap.size)) (F0 m 62 ls [])) (k41 : Nat → Int32 → Int32 → Int32 → Int32 → Int32 → Int32 → Int32 → pq_S → Option (Int32 × pq_S)) (hk41 : ∀ (a0 : Nat) (x1 : Int32) (x2 : Int32) (x3 : Int32) (x4 : Int32) (x5 : Int32) (x6 : Int32) (x7 : Int32) (S : pq_S) (H : Heap) (locs : List Loc) (ls : Array Slot), PW C X S (pq_F C X S0 s.heap.size) H locs s → Ext S0 S → TY S a0 12 → lv_has ls 8 [(0, .ref a0), (1, .int x1), (2, .int x2), (3, .int x3), (4, .int x4), (5, .int x5), (6, .int x6), (7, .int x7)] → k41 a0 x1 x2 x3 x4 x5 x6 x7 S = some (r, S1) → W p l e rm_X12_sellers s m args below meth c H locs 0 0 (MQ below (QcI C X S0 s.heap.size r S1) args s 0 0 (pq_F C X S0 s.heap.size)) (F0 m 71 ls [])) : ∀ (a0 : Nat) (x1 : Int32) (x2 : Int32) (x3 : Int32) (x4 : Int32) (x5 : Int32) (x6 : Int32) (x7 : Int32) (S : pq_S) (H : Heap) (locs : List Loc) (ls : Array Slot), PW C X S (pq_F C X S0 s.heap.size) H locs s → Ext S0 S → TY S a0 12 → lv_has ls 8 [(0, .ref a0), (1, .int x1), (2, .int x2), (3, .int x3), (4, .int x4), (5, .int x5), (6, .int x6), (7, .int x7)] → b_X12_sellers_130 n k36 k41 a0 x1 x2 x3 x4 x5 x6 x7 S = some (r, S1) → W p l e rm_X12_sellers s m args below meth c H locs 0 0 (MQ below (QcI C X S0 s.heap.size r S1) args s 0 0 (pq_F C X S0 s.heap.size)) (F0 m 130 ls []) := by
  obtain ⟨hx, hb, hml, hown, hU, hr, hlk⟩ := id cx
  intro a0 x1 x2 x3 x4 x5 x6 x7 S H locs ls hw hE Ta0 hl hm
  rw [b_X12_sellers_130] at hm
  refine lv_iinc (v := (x7 + 1)) (lv' := [(7, .int (x7 + 1)), (0, .ref a0), (1, .int x1), (2, .int x2), (3, .int x3), (4, .int x4), (5, .int x5), (6, .int x6)]) hx hb dX12_sellers_130 hl (k := 7) rfl rfl (by decide) rfl (fun ls hl => ?_)
  refine lv_goto (tgt := 71) hx hb dX12_sellers_133 (by decide) ?_
  exact hk41 a0 x1 x2 x3 x4 x5 x6 (x7 + 1) S _ _ _ hw hE Ta0 (lv_sub hl [1, 2, 3, 4, 5, 6, 7, 0] rfl) hm
def b_X12_sellers_128 (n : Nat) (k36 : Nat → Int32 → Int32 → Int32 → Int32 → Int32 → Int32 → pq_S → Option (Int32 × pq_S)) (k41 : Nat → Int32 → Int32 → Int32 → Int32 → Int32 → Int32 → Int32 → pq_S → Option (Int32 × pq_S)) (a0 : Nat) (x1 : Int32) (x2 : Int32) (x3 : Int32) (x4 : Int32) (x6 : Int32) (x7 : Int32) (z0 : Int32) (S : pq_S) : Option (Int32 × pq_S) := b_X12_sellers_130 n k36 k41 a0 x1 x2 x3 x4 z0 x6 x7 S
set_option maxHeartbeats 4000000 in
set_option maxRecDepth 100000 in
theorem wb_X12_sellers_128 {p : Program} {l : Launch} {e : Env} {s : State} {m : MethodId} {args : Array Value} {below : List Frame} {meth : Method} {c : Code} (cx : Cx p s m args meth c cX12_sellers 8 RX12 (some .int)) (C : pq_C) (X : va_W) (S0 : pq_S) (n : Nat) (r : Int32) (S1 : pq_S) (k36 : Nat → Int32 → Int32 → Int32 → Int32 → Int32 → Int32 → pq_S → Option (Int32 × pq_S)) (hk36 : ∀ (a0 : Nat) (x1 : Int32) (x2 : Int32) (x3 : Int32) (x4 : Int32) (x5 : Int32) (x6 : Int32) (S : pq_S) (H : Heap) (locs : List Loc) (ls : Array Slot), PW C X S (pq_F C X S0 s.heap.size) H locs s → Ext S0 S → TY S a0 12 → lv_has ls 8 [(0, .ref a0), (1, .int x1), (2, .int x2), (3, .int x3), (4, .int x4), (5, .int x5), (6, .int x6)] → k36 a0 x1 x2 x3 x4 x5 x6 S = some (r, S1) → W p l e rm_X12_sellers s m args below meth c H locs 0 0 (MQ below (QcI C X S0 s.heap.size r S1) args s 0 0 (pq_F C X S0 s.heap.size)) (F0 m 62 ls [])) (k41 : Nat → Int32 → Int32 → Int32 → Int32 → Int32 → Int32 → Int32 → pq_S → Option (Int32 × pq_S)) (hk41 : ∀ (a0 : Nat) (x1 : Int32) (x2 : Int32) (x3 : Int32) (x4 : Int32) (x5 : Int32) (x6 : Int32) (x7 : Int32) (S : pq_S) (H : Heap) (locs : List Loc) (ls : Array Slot), PW C X S (pq_F C X S0 s.heap.size) H locs s → Ext S0 S → TY S a0 12 → lv_has ls 8 [(0, .ref a0), (1, .int x1), (2, .int x2), (3, .int x3), (4, .int x4), (5, .int x5), (6, .int x6), (7, .int x7)] → k41 a0 x1 x2 x3 x4 x5 x6 x7 S = some (r, S1) → W p l e rm_X12_sellers s m args below meth c H locs 0 0 (MQ below (QcI C X S0 s.heap.size r S1) args s 0 0 (pq_F C X S0 s.heap.size)) (F0 m 71 ls [])) : ∀ (a0 : Nat) (x1 : Int32) (x2 : Int32) (x3 : Int32) (x4 : Int32) (x6 : Int32) (x7 : Int32) (z0 : Int32) (S : pq_S) (H : Heap) (locs : List Loc) (ls : Array Slot), PW C X S (pq_F C X S0 s.heap.size) H locs s → Ext S0 S → TY S a0 12 → lv_has ls 8 [(0, .ref a0), (1, .int x1), (2, .int x2), (3, .int x3), (4, .int x4), (6, .int x6), (7, .int x7)] → b_X12_sellers_128 n k36 k41 a0 x1 x2 x3 x4 x6 x7 z0 S = some (r, S1) → W p l e rm_X12_sellers s m args below meth c H locs 0 0 (MQ below (QcI C X S0 s.heap.size r S1) args s 0 0 (pq_F C X S0 s.heap.size)) (F0 m 128 ls [.int z0]) := by
  obtain ⟨hx, hb, hml, hown, hU, hr, hlk⟩ := id cx
  intro a0 x1 x2 x3 x4 x6 x7 z0 S H locs ls hw hE Ta0 hl hm
  rw [b_X12_sellers_128] at hm
  refine lv_istore (lv' := [(5, .int z0), (0, .ref a0), (1, .int x1), (2, .int x2), (3, .int x3), (4, .int x4), (6, .int x6), (7, .int x7)]) hx hb dX12_sellers_128 hl (by decide) rfl (fun ls hl => ?_)
  exact wb_X12_sellers_130 cx C X S0 n r S1 _ hk36 _ hk41 a0 x1 x2 x3 x4 z0 x6 x7 S _ _ _ hw hE Ta0 (lv_sub hl [1, 2, 3, 4, 5, 0, 6, 7] rfl) hm
def b_X12_sellers_71 (n : Nat) (k36 : Nat → Int32 → Int32 → Int32 → Int32 → Int32 → Int32 → pq_S → Option (Int32 × pq_S)) : Nat → Nat → Int32 → Int32 → Int32 → Int32 → Int32 → Int32 → Int32 → pq_S → Option (Int32 × pq_S)
  | 0, _, _, _, _, _, _, _, _, _ => none
  | f + 1, a0, x1, x2, x3, x4, x5, x6, x7, S => if x2 < x7 then b_X12_sellers_136 n k36 a0 x1 x2 x3 x4 x5 x6 S else cb (m_X12_isBest n a0 x1 x6 x7 x2 S) fun r32 S_30 => if r32 = 0 then b_X12_sellers_130 n k36 (b_X12_sellers_71 n k36 f) a0 x1 x2 x3 x4 x5 x6 x7 S_30 else cb (m_X12_isBest n a0 x1 x7 x6 x2 S_30) fun r38 S_36 => if r38 = 0 then b_X12_sellers_130 n k36 (b_X12_sellers_71 n k36 f) a0 x1 x2 x3 x4 x5 x6 x7 S_36 else if x5 = (-1) then b_X12_sellers_128 n k36 (b_X12_sellers_71 n k36 f) a0 x1 x2 x3 (x4 + 1) x6 x7 (((100 : Int32) * x6) + x7) S_36 else b_X12_sellers_128 n k36 (b_X12_sellers_71 n k36 f) a0 x1 x2 x3 (x4 + 1) x6 x7 x5 S_36
set_option maxHeartbeats 4000000 in
set_option maxRecDepth 100000 in
theorem wb_X12_sellers_71 {p : Program} {l : Launch} {e : Env} {s : State} {m : MethodId} {args : Array Value} {below : List Frame} {meth : Method} {c : Code} (cx : Cx p s m args meth c cX12_sellers 8 RX12 (some .int)) (C : pq_C) (X : va_W) (S0 : pq_S) (n : Nat) (r : Int32) (S1 : pq_S) (k36 : Nat → Int32 → Int32 → Int32 → Int32 → Int32 → Int32 → pq_S → Option (Int32 × pq_S)) (hk36 : ∀ (a0 : Nat) (x1 : Int32) (x2 : Int32) (x3 : Int32) (x4 : Int32) (x5 : Int32) (x6 : Int32) (S : pq_S) (H : Heap) (locs : List Loc) (ls : Array Slot), PW C X S (pq_F C X S0 s.heap.size) H locs s → Ext S0 S → TY S a0 12 → lv_has ls 8 [(0, .ref a0), (1, .int x1), (2, .int x2), (3, .int x3), (4, .int x4), (5, .int x5), (6, .int x6)] → k36 a0 x1 x2 x3 x4 x5 x6 S = some (r, S1) → W p l e rm_X12_sellers s m args below meth c H locs 0 0 (MQ below (QcI C X S0 s.heap.size r S1) args s 0 0 (pq_F C X S0 s.heap.size)) (F0 m 62 ls [])) : ∀ (f : Nat) (a0 : Nat) (x1 : Int32) (x2 : Int32) (x3 : Int32) (x4 : Int32) (x5 : Int32) (x6 : Int32) (x7 : Int32) (S : pq_S) (H : Heap) (locs : List Loc) (ls : Array Slot), PW C X S (pq_F C X S0 s.heap.size) H locs s → Ext S0 S → TY S a0 12 → lv_has ls 8 [(0, .ref a0), (1, .int x1), (2, .int x2), (3, .int x3), (4, .int x4), (5, .int x5), (6, .int x6), (7, .int x7)] → b_X12_sellers_71 n k36 f a0 x1 x2 x3 x4 x5 x6 x7 S = some (r, S1) → W p l e rm_X12_sellers s m args below meth c H locs 0 0 (MQ below (QcI C X S0 s.heap.size r S1) args s 0 0 (pq_F C X S0 s.heap.size)) (F0 m 71 ls []) := by
  obtain ⟨hx, hb, hml, hown, hU, hr, hlk⟩ := id cx
  intro f
  induction f with
  | zero =>
    intro a0 x1 x2 x3 x4 x5 x6 x7 S H locs ls hw hE Ta0 hl hm
    cases hm
  | succ f ih =>
    intro a0 x1 x2 x3 x4 x5 x6 x7 S H locs ls hw hE Ta0 hl hm
    rw [b_X12_sellers_71] at hm
    refine lv_iload hx hb dX12_sellers_71 (lv_at hl 7 rfl) ?_
    refine lv_iload_n hx hb dX12_sellers_73 rfl (lv_at hl 2 rfl) ?_
    refine lv_icmp_gt (tgt := 136) hx hb dX12_sellers_74 (by decide) (fun h29 => ?_) (fun h29 => ?_)
    · rw [if_pos h29] at hm
      exact wb_X12_sellers_136 cx C X S0 n r S1 _ hk36 a0 x1 x2 x3 x4 x5 x6 S _ _ _ hw hE Ta0 (lv_sub hl [0, 1, 2, 3, 4, 5, 6] rfl) hm
    · rw [if_neg h29] at hm
      refine lv_aload_n hx hb dX12_sellers_77 rfl (lv_at hl 0 rfl) ?_
      refine lv_iload_n hx hb dX12_sellers_78 rfl (lv_at hl 1 rfl) ?_
      refine lv_iload hx hb dX12_sellers_79 (lv_at hl 6 rfl) ?_
      refine lv_iload hx hb dX12_sellers_81 (lv_at hl 7 rfl) ?_
      refine lv_iload_n hx hb dX12_sellers_83 rfl (lv_at hl 2 rfl) ?_
      obtain ⟨r32, S_30, hq31, hm⟩ := cb_some hm
      refine pw_cz (va_runV (As := [.int x1, .int x6, .int x7, .int x2]) (rest := []) ⟨hx, hb, hml, hown, hU⟩ (c_X12_isBest l C X n S hw.wf _ a0 x1 x6 x7 x2 (Ta0) r32 S_30 hq31) (cwV 4 hU (pq_gV tw2058 tw2060 ts174 tw14 tc_X12_isBest) rfl rfl rfl cd_X12_isBest ⟨Nat.le_of_ble_eq_true rfl, Nat.le_of_ble_eq_true rfl⟩) (pw_preV hw Ta0 (by decide) rfl) rfl rfl hl.1 rfl (lv_room (Nat.le_of_ble_eq_true rfl)) dX12_sellers_84 ⟨Nat.zero_le _, Nat.zero_le _⟩) hw (fun H locs hw hx33 hz34 => ?_)
      have Ta0 : TY S_30 a0 12 := ty_ext hx33 Ta0
      have hE : Ext S0 S_30 := Ext.tr hE hx33
      refine lv_if_eq (tgt := 130) hx hb dX12_sellers_87 (by decide) (fun h35 => ?_) (fun h35 => ?_)
      · rw [if_pos h35] at hm
        exact wb_X12_sellers_130 cx C X S0 n r S1 _ hk36 _ ih a0 x1 x2 x3 x4 x5 x6 x7 S_30 _ _ _ hw hE Ta0 (lv_sub hl [0, 1, 2, 3, 4, 5, 6, 7] rfl) hm
      · rw [if_neg h35] at hm
        refine lv_aload_n hx hb dX12_sellers_90 rfl (lv_at hl 0 rfl) ?_
        refine lv_iload_n hx hb dX12_sellers_91 rfl (lv_at hl 1 rfl) ?_
        refine lv_iload hx hb dX12_sellers_92 (lv_at hl 7 rfl) ?_
        refine lv_iload hx hb dX12_sellers_94 (lv_at hl 6 rfl) ?_
        refine lv_iload_n hx hb dX12_sellers_96 rfl (lv_at hl 2 rfl) ?_
        obtain ⟨r38, S_36, hq37, hm⟩ := cb_some hm
        refine pw_cz (va_runV (As := [.int x1, .int x7, .int x6, .int x2]) (rest := []) ⟨hx, hb, hml, hown, hU⟩ (c_X12_isBest l C X n S_30 hw.wf _ a0 x1 x7 x6 x2 (Ta0) r38 S_36 hq37) (cwV 4 hU (pq_gV tw2058 tw2060 ts174 tw14 tc_X12_isBest) rfl rfl rfl cd_X12_isBest ⟨Nat.le_of_ble_eq_true rfl, Nat.le_of_ble_eq_true rfl⟩) (pw_preV hw Ta0 (by decide) rfl) rfl rfl hl.1 rfl (lv_room (Nat.le_of_ble_eq_true rfl)) dX12_sellers_97 ⟨Nat.zero_le _, Nat.zero_le _⟩) hw (fun H locs hw hx39 hz40 => ?_)
        have Ta0 : TY S_36 a0 12 := ty_ext hx39 Ta0
        have hE : Ext S0 S_36 := Ext.tr hE hx39
        refine lv_if_ne (tgt := 106) hx hb dX12_sellers_100 (by decide) (fun h41 => ?_) (fun h41 => ?_)
        · rw [if_neg h41] at hm
          refine lv_iinc (v := (x4 + 1)) (lv' := [(4, .int (x4 + 1)), (0, .ref a0), (1, .int x1), (2, .int x2), (3, .int x3), (5, .int x5), (6, .int x6), (7, .int x7)]) hx hb dX12_sellers_106 hl (k := 4) rfl rfl (by decide) rfl (fun ls hl => ?_)
          refine lv_iload hx hb dX12_sellers_109 (lv_at hl 5 rfl) ?_
          refine lv_iconst (v := (-1)) hx hb dX12_sellers_111 (by decide) ?_
          refine lv_icmp_ne (tgt := 126) hx hb dX12_sellers_112 (by decide) (fun h42 => ?_) (fun h42 => ?_)
          · rw [if_neg h42] at hm
            refine lv_iload hx hb dX12_sellers_126 (lv_at hl 5 rfl) ?_
            exact wb_X12_sellers_128 cx C X S0 n r S1 _ hk36 _ ih a0 x1 x2 x3 (x4 + 1) x6 x7 x5 S_36 _ _ _ hw hE Ta0 (lv_sub hl [1, 2, 3, 4, 0, 6, 7] rfl) hm
          · rw [if_pos h42] at hm
            refine lv_bipush (v := 100) hx hb dX12_sellers_115 (by decide) ?_
            refine lv_iload hx hb dX12_sellers_117 (lv_at hl 6 rfl) ?_
            refine lv_imul hx hb dX12_sellers_119 ?_
            refine lv_iload hx hb dX12_sellers_120 (lv_at hl 7 rfl) ?_
            refine lv_iadd hx hb dX12_sellers_122 ?_
            refine lv_goto (tgt := 128) hx hb dX12_sellers_123 (by decide) ?_
            exact wb_X12_sellers_128 cx C X S0 n r S1 _ hk36 _ ih a0 x1 x2 x3 (x4 + 1) x6 x7 (((100 : Int32) * x6) + x7) S_36 _ _ _ hw hE Ta0 (lv_sub hl [1, 2, 3, 4, 0, 6, 7] rfl) hm
        · rw [if_pos h41] at hm
          refine lv_goto (tgt := 130) hx hb dX12_sellers_103 (by decide) ?_
          exact wb_X12_sellers_130 cx C X S0 n r S1 _ hk36 _ ih a0 x1 x2 x3 x4 x5 x6 x7 S_36 _ _ _ hw hE Ta0 (lv_sub hl [0, 1, 2, 3, 4, 5, 6, 7] rfl) hm
def b_X12_sellers_142 (n : Nat) (a0 : Nat) (x1 : Int32) (x3 : Int32) (x4 : Int32) (x5 : Int32) (S : pq_S) : Option (Int32 × pq_S) := if x3 = 0 then some (x4, S) else if x3 = 1 then some (x5, S) else if x5 = (-1) then some (0, S) else cb (m_X12_getsOf n a0 x1 (x5 / 100) (x5 - x5 / 100 * 100) S) fun r48 S_46 => some (r48, S_46)
set_option maxHeartbeats 4000000 in
set_option maxRecDepth 100000 in
theorem wb_X12_sellers_142 {p : Program} {l : Launch} {e : Env} {s : State} {m : MethodId} {args : Array Value} {below : List Frame} {meth : Method} {c : Code} (cx : Cx p s m args meth c cX12_sellers 8 RX12 (some .int)) (C : pq_C) (X : va_W) (S0 : pq_S) (n : Nat) (r : Int32) (S1 : pq_S) : ∀ (a0 : Nat) (x1 : Int32) (x3 : Int32) (x4 : Int32) (x5 : Int32) (S : pq_S) (H : Heap) (locs : List Loc) (ls : Array Slot), PW C X S (pq_F C X S0 s.heap.size) H locs s → Ext S0 S → TY S a0 12 → lv_has ls 8 [(0, .ref a0), (1, .int x1), (3, .int x3), (4, .int x4), (5, .int x5)] → b_X12_sellers_142 n a0 x1 x3 x4 x5 S = some (r, S1) → W p l e rm_X12_sellers s m args below meth c H locs 0 0 (MQ below (QcI C X S0 s.heap.size r S1) args s 0 0 (pq_F C X S0 s.heap.size)) (F0 m 142 ls []) := by
  obtain ⟨hx, hb, hml, hown, hU, hr, hlk⟩ := id cx
  intro a0 x1 x3 x4 x5 S H locs ls hw hE Ta0 hl hm
  rw [b_X12_sellers_142] at hm
  refine lv_iload_n hx hb dX12_sellers_142 rfl (lv_at hl 2 rfl) ?_
  refine lv_if_ne (tgt := 151) hx hb dX12_sellers_143 (by decide) (fun h43 => ?_) (fun h43 => ?_)
  · rw [if_neg h43] at hm
    refine lv_iload_n hx hb dX12_sellers_151 rfl (lv_at hl 2 rfl) ?_
    refine lv_iconst (v := 1) hx hb dX12_sellers_152 (by decide) ?_
    refine lv_icmp_ne (tgt := 161) hx hb dX12_sellers_153 (by decide) (fun h44 => ?_) (fun h44 => ?_)
    · rw [if_neg h44] at hm
      refine lv_iload hx hb dX12_sellers_161 (lv_at hl 4 rfl) ?_
      refine lv_iconst (v := (-1)) hx hb dX12_sellers_163 (by decide) ?_
      refine lv_icmp_ne (tgt := 171) hx hb dX12_sellers_164 (by decide) (fun h45 => ?_) (fun h45 => ?_)
      · rw [if_neg h45] at hm
        refine lv_aload_n hx hb dX12_sellers_171 rfl (lv_at hl 0 rfl) ?_
        refine lv_iload_n hx hb dX12_sellers_172 rfl (lv_at hl 1 rfl) ?_
        refine lv_iload hx hb dX12_sellers_173 (lv_at hl 4 rfl) ?_
        refine lv_bipush (v := 100) hx hb dX12_sellers_175 (by decide) ?_
        refine lv_idiv hx hb dX12_sellers_177 (by decide) ?_
        refine lv_iload hx hb dX12_sellers_178 (lv_at hl 4 rfl) ?_
        refine lv_bipush (v := 100) hx hb dX12_sellers_180 (by decide) ?_
        refine lv_irem hx hb dX12_sellers_182 (by decide) ?_
        obtain ⟨r48, S_46, hq47, hm⟩ := cb_some hm
        refine pw_ci (va_runV (As := [.int x1, .int (x5 / 100), .int (x5 - x5 / 100 * 100)]) (rest := []) ⟨hx, hb, hml, hown, hU⟩ (c_X12_getsOf l C X n S hw.wf _ a0 x1 (x5 / 100) (x5 - x5 / 100 * 100) (Ta0) r48 S_46 hq47) (cwV 3 hU (pq_gV tw2062 tw2064 ts175 tw14 tc_X12_getsOf) rfl rfl rfl cd_X12_getsOf ⟨Nat.le_of_ble_eq_true rfl, Nat.le_of_ble_eq_true rfl⟩) (pw_preV hw Ta0 (by decide) rfl) rfl rfl hl.1 rfl (lv_room (Nat.le_of_ble_eq_true rfl)) dX12_sellers_183 ⟨Nat.zero_le _, Nat.zero_le _⟩) hw (fun H locs hw hx49 => ?_)
        have Ta0 : TY S_46 a0 12 := ty_ext hx49 Ta0
        have hE : Ext S0 S_46 := Ext.tr hE hx49
        cases hm
        exact pw_iret hx hb hr rfl hlk hw hE dX12_sellers_186
      · rw [if_pos h45] at hm
        refine lv_iconst (v := 0) hx hb dX12_sellers_167 (by decide) ?_
        refine lv_goto (tgt := 186) hx hb dX12_sellers_168 (by decide) ?_
        cases hm
        exact pw_iret hx hb hr rfl hlk hw hE dX12_sellers_186
    · rw [if_pos h44] at hm
      refine lv_iload hx hb dX12_sellers_156 (lv_at hl 4 rfl) ?_
      refine lv_goto (tgt := 186) hx hb dX12_sellers_158 (by decide) ?_
      cases hm
      exact pw_iret hx hb hr rfl hlk hw hE dX12_sellers_186
  · rw [if_pos h43] at hm
    refine lv_iload hx hb dX12_sellers_146 (lv_at hl 3 rfl) ?_
    refine lv_goto (tgt := 186) hx hb dX12_sellers_148 (by decide) ?_
    cases hm
    exact pw_iret hx hb hr rfl hlk hw hE dX12_sellers_186
def b_X12_sellers_62 (n : Nat) : Nat → Nat → Int32 → Int32 → Int32 → Int32 → Int32 → Int32 → pq_S → Option (Int32 × pq_S)
  | 0, _, _, _, _, _, _, _, _ => none
  | f + 1, a0, x1, x2, x3, x4, x5, x6, S => if x2 < x6 then b_X12_sellers_142 n a0 x1 x3 x4 x5 S else b_X12_sellers_71 n (b_X12_sellers_62 n f) n a0 x1 x2 x3 x4 x5 x6 0 S
set_option maxHeartbeats 4000000 in
set_option maxRecDepth 100000 in
theorem wb_X12_sellers_62 {p : Program} {l : Launch} {e : Env} {s : State} {m : MethodId} {args : Array Value} {below : List Frame} {meth : Method} {c : Code} (cx : Cx p s m args meth c cX12_sellers 8 RX12 (some .int)) (C : pq_C) (X : va_W) (S0 : pq_S) (n : Nat) (r : Int32) (S1 : pq_S) : ∀ (f : Nat) (a0 : Nat) (x1 : Int32) (x2 : Int32) (x3 : Int32) (x4 : Int32) (x5 : Int32) (x6 : Int32) (S : pq_S) (H : Heap) (locs : List Loc) (ls : Array Slot), PW C X S (pq_F C X S0 s.heap.size) H locs s → Ext S0 S → TY S a0 12 → lv_has ls 8 [(0, .ref a0), (1, .int x1), (2, .int x2), (3, .int x3), (4, .int x4), (5, .int x5), (6, .int x6)] → b_X12_sellers_62 n f a0 x1 x2 x3 x4 x5 x6 S = some (r, S1) → W p l e rm_X12_sellers s m args below meth c H locs 0 0 (MQ below (QcI C X S0 s.heap.size r S1) args s 0 0 (pq_F C X S0 s.heap.size)) (F0 m 62 ls []) := by
  obtain ⟨hx, hb, hml, hown, hU, hr, hlk⟩ := id cx
  intro f
  induction f with
  | zero =>
    intro a0 x1 x2 x3 x4 x5 x6 S H locs ls hw hE Ta0 hl hm
    cases hm
  | succ f ih =>
    intro a0 x1 x2 x3 x4 x5 x6 S H locs ls hw hE Ta0 hl hm
    rw [b_X12_sellers_62] at hm
    refine lv_iload hx hb dX12_sellers_62 (lv_at hl 6 rfl) ?_
    refine lv_iload_n hx hb dX12_sellers_64 rfl (lv_at hl 2 rfl) ?_
    refine lv_icmp_gt (tgt := 142) hx hb dX12_sellers_65 (by decide) (fun h28 => ?_) (fun h28 => ?_)
    · rw [if_pos h28] at hm
      exact wb_X12_sellers_142 cx C X S0 n r S1 a0 x1 x3 x4 x5 S _ _ _ hw hE Ta0 (lv_sub hl [0, 1, 3, 4, 5] rfl) hm
    · rw [if_neg h28] at hm
      refine lv_iconst (v := 0) hx hb dX12_sellers_68 (by decide) ?_
      refine lv_istore (lv' := [(7, .int 0), (0, .ref a0), (1, .int x1), (2, .int x2), (3, .int x3), (4, .int x4), (5, .int x5), (6, .int x6)]) hx hb dX12_sellers_69 hl (by decide) rfl (fun ls hl => ?_)
      exact wb_X12_sellers_71 cx C X S0 n r S1 _ ih n a0 x1 x2 x3 x4 x5 x6 0 S _ _ _ hw hE Ta0 (lv_sub hl [1, 2, 3, 4, 5, 6, 7, 0] rfl) hm
def b_X12_sellers_39 (n : Nat) (a0 : Nat) (x1 : Int32) (x2 : Int32) (x3 : Int32) (b0 : Nat) (z1 : Int32) (S : pq_S) : Option (Int32 × pq_S) := cb (m_X12_may n b0 z1 2 1 S) fun r21 S_19 => if r21 = 0 then some (0, S_19) else Option.bind (m_X12_take n a0 S_19) fun S_25 => b_X12_sellers_62 n n a0 x1 x2 x3 0 (-1) 0 S_25
set_option maxHeartbeats 4000000 in
set_option maxRecDepth 100000 in
theorem wb_X12_sellers_39 {p : Program} {l : Launch} {e : Env} {s : State} {m : MethodId} {args : Array Value} {below : List Frame} {meth : Method} {c : Code} (cx : Cx p s m args meth c cX12_sellers 8 RX12 (some .int)) (C : pq_C) (X : va_W) (S0 : pq_S) (n : Nat) (r : Int32) (S1 : pq_S) : ∀ (a0 : Nat) (x1 : Int32) (x2 : Int32) (x3 : Int32) (b0 : Nat) (z1 : Int32) (S : pq_S) (H : Heap) (locs : List Loc) (ls : Array Slot), PW C X S (pq_F C X S0 s.heap.size) H locs s → Ext S0 S → TY S a0 12 → TY S b0 12 → lv_has ls 8 [(0, .ref a0), (1, .int x1), (2, .int x2), (3, .int x3)] → b_X12_sellers_39 n a0 x1 x2 x3 b0 z1 S = some (r, S1) → W p l e rm_X12_sellers s m args below meth c H locs 0 0 (MQ below (QcI C X S0 s.heap.size r S1) args s 0 0 (pq_F C X S0 s.heap.size)) (F0 m 39 ls [.int z1, .ref b0]) := by
  obtain ⟨hx, hb, hml, hown, hU, hr, hlk⟩ := id cx
  intro a0 x1 x2 x3 b0 z1 S H locs ls hw hE Ta0 Tb0 hl hm
  rw [b_X12_sellers_39] at hm
  refine lv_iconst (v := 2) hx hb dX12_sellers_39 (by decide) ?_
  refine lv_iconst (v := 1) hx hb dX12_sellers_40 (by decide) ?_
  obtain ⟨r21, S_19, hq20, hm⟩ := cb_some hm
  refine pw_cz (va_runV (As := [.int z1, .int 2, .int 1]) (rest := []) ⟨hx, hb, hml, hown, hU⟩ (c_X12_may l C X n S hw.wf _ b0 z1 2 1 (Tb0) r21 S_19 hq20) (cwV 3 hU (pq_gV tw1703 tw1705 ts123 tw14 tc_X12_may) rfl rfl rfl cd_X12_may ⟨Nat.le_of_ble_eq_true rfl, Nat.le_of_ble_eq_true rfl⟩) (pw_preV hw Tb0 (by decide) rfl) rfl rfl hl.1 rfl (lv_room (Nat.le_of_ble_eq_true rfl)) dX12_sellers_41 ⟨Nat.zero_le _, Nat.zero_le _⟩) hw (fun H locs hw hx22 hz23 => ?_)
  have Ta0 : TY S_19 a0 12 := ty_ext hx22 Ta0
  have hE : Ext S0 S_19 := Ext.tr hE hx22
  refine lv_if_ne (tgt := 49) hx hb dX12_sellers_44 (by decide) (fun h24 => ?_) (fun h24 => ?_)
  · rw [if_neg h24] at hm
    refine lv_aload_n hx hb dX12_sellers_49 rfl (lv_at hl 0 rfl) ?_
    obtain ⟨S_25, hq26, hm⟩ := bd_some hm
    refine pw_cv (va_runV (As := []) (rest := []) ⟨hx, hb, hml, hown, hU⟩ (c_X12_take l C X n S_19 hw.wf _ a0 (Ta0) S_25 hq26) (cwV 0 hU (pq_gV tw1922 tw1924 ts161 tw14 tc_X12_take) rfl rfl rfl cd_X12_take ⟨Nat.le_of_ble_eq_true rfl, Nat.le_of_ble_eq_true rfl⟩) (pw_preV hw Ta0 (by decide) rfl) rfl rfl hl.1 rfl (lv_room (Nat.le_of_ble_eq_true rfl)) dX12_sellers_50 ⟨Nat.zero_le _, Nat.zero_le _⟩) hw (fun H locs hw hx27 => ?_)
    have Ta0 : TY S_25 a0 12 := ty_ext hx27 Ta0
    have hE : Ext S0 S_25 := Ext.tr hE hx27
    refine lv_iconst (v := 0) hx hb dX12_sellers_53 (by decide) ?_
    refine lv_istore (lv' := [(4, .int 0), (0, .ref a0), (1, .int x1), (2, .int x2), (3, .int x3)]) hx hb dX12_sellers_54 hl (by decide) rfl (fun ls hl => ?_)
    refine lv_iconst (v := (-1)) hx hb dX12_sellers_56 (by decide) ?_
    refine lv_istore (lv' := [(5, .int (-1)), (4, .int 0), (0, .ref a0), (1, .int x1), (2, .int x2), (3, .int x3)]) hx hb dX12_sellers_57 hl (by decide) rfl (fun ls hl => ?_)
    refine lv_iconst (v := 0) hx hb dX12_sellers_59 (by decide) ?_
    refine lv_istore (lv' := [(6, .int 0), (5, .int (-1)), (4, .int 0), (0, .ref a0), (1, .int x1), (2, .int x2), (3, .int x3)]) hx hb dX12_sellers_60 hl (by decide) rfl (fun ls hl => ?_)
    exact wb_X12_sellers_62 cx C X S0 n r S1 n a0 x1 x2 x3 0 (-1) 0 S_25 _ _ _ hw hE Ta0 (lv_sub hl [3, 4, 5, 6, 2, 1, 0] rfl) hm
  · rw [if_pos h24] at hm
    refine lv_iconst (v := 0) hx hb dX12_sellers_47 (by decide) ?_
    cases hm
    exact pw_iret hx hb hr rfl hlk hw hE dX12_sellers_48
def b_X12_sellers_38 (n : Nat) (a0 : Nat) (x1 : Int32) (x2 : Int32) (x3 : Int32) (b0 : Nat) (S : pq_S) : Option (Int32 × pq_S) := b_X12_sellers_39 n a0 x1 x2 x3 b0 0 S
set_option maxHeartbeats 4000000 in
set_option maxRecDepth 100000 in
theorem wb_X12_sellers_38 {p : Program} {l : Launch} {e : Env} {s : State} {m : MethodId} {args : Array Value} {below : List Frame} {meth : Method} {c : Code} (cx : Cx p s m args meth c cX12_sellers 8 RX12 (some .int)) (C : pq_C) (X : va_W) (S0 : pq_S) (n : Nat) (r : Int32) (S1 : pq_S) : ∀ (a0 : Nat) (x1 : Int32) (x2 : Int32) (x3 : Int32) (b0 : Nat) (S : pq_S) (H : Heap) (locs : List Loc) (ls : Array Slot), PW C X S (pq_F C X S0 s.heap.size) H locs s → Ext S0 S → TY S a0 12 → TY S b0 12 → lv_has ls 8 [(0, .ref a0), (1, .int x1), (2, .int x2), (3, .int x3)] → b_X12_sellers_38 n a0 x1 x2 x3 b0 S = some (r, S1) → W p l e rm_X12_sellers s m args below meth c H locs 0 0 (MQ below (QcI C X S0 s.heap.size r S1) args s 0 0 (pq_F C X S0 s.heap.size)) (F0 m 38 ls [.ref b0]) := by
  obtain ⟨hx, hb, hml, hown, hU, hr, hlk⟩ := id cx
  intro a0 x1 x2 x3 b0 S H locs ls hw hE Ta0 Tb0 hl hm
  rw [b_X12_sellers_38] at hm
  refine lv_iconst (v := 0) hx hb dX12_sellers_38 (by decide) ?_
  exact wb_X12_sellers_39 cx C X S0 n r S1 a0 x1 x2 x3 b0 0 S _ _ _ hw hE Ta0 Tb0 (lv_sub hl [0, 1, 2, 3] rfl) hm
def m_X12_sellers (n : Nat) (a0 : Nat) (x1 : Int32) (x2 : Int32) (x3 : Int32) (S0 : pq_S) : Option (Int32 × pq_S) := cb (m_X12_isPlace n a0 x1 1 (sI S0 1200 a0 0)) fun r3 S_1 => if r3 = 0 then some (0, S_1) else cb (m_X12_within n x2 0 20 S_1) fun r9 S_7 => if r9 = 0 then b_X12_sellers_38 n a0 x1 x2 x3 a0 S_7 else cb (m_X12_within n x3 0 2 S_7) fun r15 S_13 => if r15 = 0 then b_X12_sellers_38 n a0 x1 x2 x3 a0 S_13 else b_X12_sellers_39 n a0 x1 x2 x3 a0 1 S_13
theorem tc_X12_sellers : Cond.code yX12_sellers cX12_sellers 8 (some .int) ∈ pq_U := tw2057
theorem cd_X12_sellers : yX12_sellers.cls = RX12 ∧ yX12_sellers.cls ≠ "java/lang/invoke/MethodHandle" ∧ yX12_sellers.cls ≠ "java/lang/invoke/VarHandle" ∧ (parseMethodDescriptor yX12_sellers.desc).map (fun d => d.parameters.length) = some 3 := by decide +kernel
set_option maxHeartbeats 4000000 in
set_option maxRecDepth 100000 in
theorem c_X12_sellers (l : Launch) (C : pq_C) (X : va_W) (n : Nat) (S0 : pq_S) (hF : WF S0) (sz : Nat) (a0 : Nat) (x1 : Int32) (x2 : Int32) (x3 : Int32) (Ta0 : TY S0 a0 12) (r : Int32) (S1 : pq_S) (hm : m_X12_sellers n a0 x1 x2 x3 S0 = some (r, S1)) : MI l yX12_sellers (.code yX12_sellers cX12_sellers 8 (some .int) :: pq_U) rm_X12_sellers C X S0 sz [.ref a0, .int x1, .int x2, .int x3] r S1 0 0 := by
  refine Met.ofW (cc := cX12_sellers) (maxL := 8) (ret := (some .int)) (by decide) rfl ?_
  intro p e s m args below meth c s₁ B hml hv
  obtain ⟨rfl, hv⟩ := hv
  have hsz := hv.1
  subst hsz
  have hw := pw_entry hF hv
  have hts := atoms_spec (ws := .code yX12_sellers cX12_sellers 8 (some .int) :: pq_U) B.pre
  have hU : ∀ w ∈ pq_U, w.before _ s = true := fun w h => hts w (List.mem_cons_of_mem _ h)
  have hx := B.exec
  have hb := B.bytes
  have hr := B.returns
  have hown : s.vm.findClass RX12 = some m.cls := findClass_of_methodNamed B.named
  have hlk := B.notSynchronized
  have hl := lv_entry ([.ref a0, .int x1, .int x2, .int x3]) (n := 8) (Nat.le_of_ble_eq_true rfl)
  rw [lg_entry_eq]
  generalize (lg_sl ([.ref a0, .int x1, .int x2, .int x3]) ++ List.replicate (8 - (lg_sl ([.ref a0, .int x1, .int x2, .int x3])).length) Slot.unset).toArray = ls at hl ⊢
  have hl : lv_has ls 8 [(0, .ref a0), (1, .int x1), (2, .int x2), (3, .int x3)] := hl
  have hE : Ext S0 S0 := Ext.rf _
  have cx : Cx p s m _ meth c cX12_sellers 8 RX12 (some .int) := ⟨hx, hb, hml, hown, hU, hr, hlk⟩
  rw [m_X12_sellers] at hm
  refine lv_aload_n hx hb dX12_sellers_0 rfl (lv_at hl 0 rfl) ?_
  refine lv_iconst (v := 0) hx hb dX12_sellers_1 (by decide) ?_
  refine pp_i (k := 12) (j := 0) (f := 1200) hx hb hown hU iu12 tyX12_ok nmX12 hw Ta0 (by decide) rfl (hU _ tw1471) rfl rfl rfl dX12_sellers_2 (fun H locs hw => ?_)
  refine lv_aload_n hx hb dX12_sellers_5 rfl (lv_at hl 0 rfl) ?_
  refine lv_iload_n hx hb dX12_sellers_6 rfl (lv_at hl 1 rfl) ?_
  refine lv_iconst (v := 1) hx hb dX12_sellers_7 (by decide) ?_
  obtain ⟨r3, S_1, hq2, hm⟩ := cb_some hm
  refine pw_cz (va_runV (As := [.int x1, .int 1]) (rest := []) ⟨hx, hb, hml, hown, hU⟩ (c_X12_isPlace l C X n (sI S0 1200 a0 0) hw.wf _ a0 x1 1 (Ta0) r3 S_1 hq2) (cwV 2 hU (pq_gV tw1918 tw1920 ts160 tw14 tc_X12_isPlace) rfl rfl rfl cd_X12_isPlace ⟨Nat.le_of_ble_eq_true rfl, Nat.le_of_ble_eq_true rfl⟩) (pw_preV hw Ta0 (by decide) rfl) rfl rfl hl.1 rfl (lv_room (Nat.le_of_ble_eq_true rfl)) dX12_sellers_8 ⟨Nat.zero_le _, Nat.zero_le _⟩) hw (fun H locs hw hx4 hz5 => ?_)
  have Ta0 : TY S_1 a0 12 := ty_ext hx4 Ta0
  have hE : Ext S0 S_1 := Ext.tr hE hx4
  refine lv_if_eq (tgt := 47) hx hb dX12_sellers_11 (by decide) (fun h6 => ?_) (fun h6 => ?_)
  · rw [if_pos h6] at hm
    refine lv_iconst (v := 0) hx hb dX12_sellers_47 (by decide) ?_
    cases hm
    exact pw_iret hx hb hr rfl hlk hw hE dX12_sellers_48
  · rw [if_neg h6] at hm
    refine lv_aload_n hx hb dX12_sellers_14 rfl (lv_at hl 0 rfl) ?_
    refine lv_iload_n hx hb dX12_sellers_15 rfl (lv_at hl 2 rfl) ?_
    refine lv_iconst (v := 0) hx hb dX12_sellers_16 (by decide) ?_
    refine lv_bipush (v := 20) hx hb dX12_sellers_17 (by decide) ?_
    obtain ⟨r9, S_7, hq8, hm⟩ := cb_some hm
    refine pw_cz (va_runS (As := [.int x2, .int 0, .int 20]) (rest := [.ref a0]) ⟨hx, hb, hml, hown, hU⟩ (c_X12_within l C X n S_1 hw.wf _ x2 0 20  r9 S_7 hq8) ⟨callB_of 3 hU (pq_g1 tc_X12_within) rfl rfl rfl (hU _ tw14) (hU _ tw1776) cd_X12_within.2 ⟨Nat.le_of_ble_eq_true rfl, Nat.le_of_ble_eq_true rfl⟩, hU _ tw1777⟩ (pw_preS hw) rfl rfl hl.1 rfl (lv_room (Nat.le_of_ble_eq_true rfl)) dX12_sellers_19 ⟨Nat.zero_le _, Nat.zero_le _⟩) hw (fun H locs hw hx10 hz11 => ?_)
    have Ta0 : TY S_7 a0 12 := ty_ext hx10 Ta0
    have hE : Ext S0 S_7 := Ext.tr hE hx10
    refine lv_if_eq (tgt := 38) hx hb dX12_sellers_22 (by decide) (fun h12 => ?_) (fun h12 => ?_)
    · rw [if_pos h12] at hm
      exact wb_X12_sellers_38 cx C X S0 n r S1 a0 x1 x2 x3 a0 S_7 _ _ _ hw hE Ta0 Ta0 (lv_sub hl [0, 1, 2, 3] rfl) hm
    · rw [if_neg h12] at hm
      refine lv_iload_n hx hb dX12_sellers_25 rfl (lv_at hl 3 rfl) ?_
      refine lv_iconst (v := 0) hx hb dX12_sellers_26 (by decide) ?_
      refine lv_iconst (v := 2) hx hb dX12_sellers_27 (by decide) ?_
      obtain ⟨r15, S_13, hq14, hm⟩ := cb_some hm
      refine pw_cz (va_runS (As := [.int x3, .int 0, .int 2]) (rest := [.ref a0]) ⟨hx, hb, hml, hown, hU⟩ (c_X12_within l C X n S_7 hw.wf _ x3 0 2  r15 S_13 hq14) ⟨callB_of 3 hU (pq_g1 tc_X12_within) rfl rfl rfl (hU _ tw14) (hU _ tw1776) cd_X12_within.2 ⟨Nat.le_of_ble_eq_true rfl, Nat.le_of_ble_eq_true rfl⟩, hU _ tw1777⟩ (pw_preS hw) rfl rfl hl.1 rfl (lv_room (Nat.le_of_ble_eq_true rfl)) dX12_sellers_28 ⟨Nat.zero_le _, Nat.zero_le _⟩) hw (fun H locs hw hx16 hz17 => ?_)
      have Ta0 : TY S_13 a0 12 := ty_ext hx16 Ta0
      have hE : Ext S0 S_13 := Ext.tr hE hx16
      refine lv_if_eq (tgt := 38) hx hb dX12_sellers_31 (by decide) (fun h18 => ?_) (fun h18 => ?_)
      · rw [if_pos h18] at hm
        exact wb_X12_sellers_38 cx C X S0 n r S1 a0 x1 x2 x3 a0 S_13 _ _ _ hw hE Ta0 Ta0 (lv_sub hl [0, 1, 2, 3] rfl) hm
      · rw [if_neg h18] at hm
        refine lv_iconst (v := 1) hx hb dX12_sellers_34 (by decide) ?_
        refine lv_goto (tgt := 39) hx hb dX12_sellers_35 (by decide) ?_
        exact wb_X12_sellers_39 cx C X S0 n r S1 a0 x1 x2 x3 a0 1 S_13 _ _ _ hw hE Ta0 Ta0 (lv_sub hl [0, 1, 2, 3] rfl) hm
