abbrev rw_X11_mine (mc ms : Nat) : Room := { frames := 8, cells := mc, slots := ms, locals := 131 }
def wp_X11_mine (n : Nat) (a0 : Nat) (x1 : Int32) (x2 : Int32) (S0 : pq_S) (mc ms : Nat) (E : (Nat → pq_S → Prop)) (Q : (Int32 → pq_S → Prop)) : Prop := ∃ c2 s3 : Nat, c2 ≤ mc ∧ s3 ≤ ms ∧ wp_X11_needMine n a0 x1 S0 c2 s3 E (fun S_1 => if x2 = 0 then ∃ q8 : Nat, (pR S_1 1101 a0) = some q8 ∧ (∃ q9 : Nat, (pR S_1 700 q8) = some q9 ∧ (∃ q10 : Nat, (pR S_1 102 q9) = some q10 ∧ (∃ r13 S_11, m_X9_at n q10 x1 0 S_1 = some (r13, S_11) ∧ (Q r13 S_11)))) else if x2 = 1 then ∃ q16 : Nat, (pR S_1 1101 a0) = some q16 ∧ (∃ q17 : Nat, (pR S_1 701 q16) = some q17 ∧ (∃ q18 : Nat, (pR S_1 802 q17) = some q18 ∧ (∃ r21 S_19, m_X9_at n q18 x1 0 S_1 = some (r21, S_19) ∧ (Q r21 S_19)))) else if x2 = 2 then ∃ q24 : Nat, (pR S_1 1101 a0) = some q24 ∧ (∃ q25 : Nat, (pR S_1 700 q24) = some q25 ∧ (∃ q26 : Nat, (pR S_1 102 q25) = some q26 ∧ (∃ r29 S_27, m_X9_at n q26 x1 2 S_1 = some (r29, S_27) ∧ (Q r29 S_27)))) else if x2 = 3 then ∃ q32 : Nat, (pR S_1 1101 a0) = some q32 ∧ (∃ q33 : Nat, (pR S_1 1101 a0) = some q33 ∧ (∃ q34 : Nat, (pR S_1 701 q33) = some q34 ∧ (∃ r37 S_35, m_X7_isMineOpen n q32 x1 (pI S_1 803 q34) S_1 = some (r37, S_35) ∧ (if r37 = 0 then Q 0 S_35 else Q 1 S_35)))) else if x2 = 4 then ∃ q42 : Nat, (pR S_1 1101 a0) = some q42 ∧ (∃ q43 : Nat, (pR S_1 701 q42) = some q43 ∧ (∃ q44 : Nat, (pR S_1 802 q43) = some q44 ∧ (∃ r47 S_45, m_X9_at n q44 x1 1 S_1 = some (r47, S_45) ∧ (Q r47 S_45)))) else ∃ c50 s51 : Nat, c50 ≤ (mc - (c2)) ∧ s51 ≤ (ms - (s3)) ∧ wp_X11_need n a0 0 S_1 c50 s51 E (fun S_49 => Q (-1) S_49))
theorem tc_X11_mine : Cond.code yX11_mine cX11_mine 3 (some .int) ∈ pq_U := tw1049
theorem cd_X11_mine : yX11_mine.cls = RX11 ∧ yX11_mine.cls ≠ "java/lang/invoke/MethodHandle" ∧ yX11_mine.cls ≠ "java/lang/invoke/VarHandle" ∧ (parseMethodDescriptor yX11_mine.desc).map (fun d => d.parameters.length) = some 2 := by decide +kernel
set_option maxHeartbeats 4000000 in
set_option maxRecDepth 100000 in
theorem cw_X11_mine (l : Launch) (C : pq_C) (X : va_W) (n : Nat) (S0 : pq_S) (hF : WF S0) (sz : Nat) (a0 : Nat) (x1 : Int32) (x2 : Int32) (Ta0 : TY S0 a0 11) (mc ms : Nat) (hst : l.stackTraces = false) (E : (Nat → pq_S → Prop)) (Q : (Int32 → pq_S → Prop)) (hm : wp_X11_mine n a0 x1 x2 S0 mc ms E Q) : vx_Met l yX11_mine (.code yX11_mine cX11_mine 3 (some .int) :: pq_U) (rw_X11_mine mc ms) (va_Pc [.ref a0, .int x1, .int x2] (CPre C X S0 sz)) (QwI C X S0 sz Q) (XcP C X S0 sz E) mc ms (pq_F C X S0 sz) := by
  refine vx_ofW (cc := cX11_mine) (maxL := 3) (ret := (some .int)) (by decide) rfl ?_
  intro p e s m args below meth c s₁ B hml hno hv
  obtain ⟨rfl, hv⟩ := hv
  have hsz := hv.1
  subst hsz
  have hw := pw_entry hF hv
  have hts := atoms_spec (ws := .code yX11_mine cX11_mine 3 (some .int) :: pq_U) B.pre
  have hU : ∀ w ∈ pq_U, w.before _ s = true := fun w h => hts w (List.mem_cons_of_mem _ h)
  have hx := B.exec
  have hb := B.bytes
  have hr := B.returns
  have hown : s.vm.findClass RX11 = some m.cls := findClass_of_methodNamed B.named
  have hlk := B.notSynchronized
  have hl := lv_entry ([.ref a0, .int x1, .int x2]) (n := 3) (Nat.le_of_ble_eq_true rfl)
  rw [lg_entry_eq]
  generalize (lg_sl ([.ref a0, .int x1, .int x2]) ++ List.replicate (3 - (lg_sl ([.ref a0, .int x1, .int x2])).length) Slot.unset).toArray = ls at hl ⊢
  have hl : lv_has ls 3 [(0, .ref a0), (1, .int x1), (2, .int x2)] := hl
  have hE : Ext S0 S0 := Ext.rf _
  have cx : Cx p s m _ meth c cX11_mine 3 RX11 (some .int) := ⟨hx, hb, hml, hown, hU, hr, hlk⟩
  have hcc : 0 + mc ≤ mc := by omega
  have hss : 0 + ms ≤ ms := by omega
  rw [wp_X11_mine] at hm
  refine lv_aload_n hx hb dX11_mine_0 rfl (lv_at hl 0 rfl) ?_
  refine lv_iload_n hx hb dX11_mine_1 rfl (lv_at hl 1 rfl) ?_
  obtain ⟨c2, s3, hb4, hb5, hm⟩ := hm
  refine px_v (vx_runV (As := [.int x1]) (rest := []) ⟨hx, hb, hml, hown, hU⟩ (cw_X11_needMine l C X n S0 hw.wf _ a0 x1 (Ta0) c2 s3 hst E _ hm) (cwV 1 hU (pq_gV tw1050 tw1052 ts82 tw1 tc_X11_needMine) rfl rfl rfl cd_X11_needMine ⟨Nat.le_of_ble_eq_true rfl, Nat.le_of_ble_eq_true rfl⟩) (pw_preV hw Ta0 (by decide) rfl) rfl rfl hl.1 rfl (lv_room (Nat.le_of_ble_eq_true rfl)) dX11_mine_2 ⟨by show _ ≤ mc; omega, by show _ ≤ ms; omega⟩) hw hE hno hlk (by omega) (by omega) (fun S_1 H locs hm hw hx6 => ?_)
  have Ta0 : TY S_1 a0 11 := ty_ext hx6 Ta0
  have hE : Ext S0 S_1 := Ext.tr hE hx6
  refine W.widen (k := c2) (n := s3) (by omega) (by omega) ?_
  have hcc : c2 + (mc - (c2)) ≤ mc := by omega
  have hss : s3 + (ms - (s3)) ≤ ms := by omega
  refine lv_iload_n hx hb dX11_mine_5 rfl (lv_at hl 2 rfl) ?_
  by_cases h7 : x2 = 0
  · rw [if_pos h7] at hm
    refine lv_tsIn (v := 0) h7 ?_
    refine lv_tableIn (tgt := 40) hx hb dX11_mine_6 (by decide) (by decide) rfl (by decide) ?_
    refine lv_aload_n hx hb dX11_mine_40 rfl (lv_at hl 0 rfl) ?_
    obtain ⟨q8, hq8, hm⟩ := hm
    have Tq8 : TY S_1 q8 7 := hw.wf.ref (k := 11) (j := 1) Ta0 (by decide) (by decide) hq8
    refine pg_rb (k := 11) (j := 1) (f := 1101) hx hb hown hU iu11 hw Ta0 (by decide) rfl (hU _ tw364) rfl hq8 dX11_mine_41 ?_
    obtain ⟨q9, hq9, hm⟩ := hm
    have Tq9 : TY S_1 q9 1 := hw.wf.ref (k := 7) (j := 0) Tq8 (by decide) (by decide) hq9
    refine pgN_rb (k := 7) (j := 0) (f := 700) hx hb hown hU iu7 hw Tq8 (by decide) rfl 55 rfl rfl hq9 dX11_mine_44 ?_
    obtain ⟨q10, hq10, hm⟩ := hm
    have Tq10 : TY S_1 q10 9 := hw.wf.ref (k := 1) (j := 2) Tq9 (by decide) (by decide) hq10
    refine pgN_rb (k := 1) (j := 2) (f := 102) hx hb hown hU iu1 hw Tq9 (by decide) rfl 36 rfl rfl hq10 dX11_mine_47 ?_
    refine lv_iload_n hx hb dX11_mine_50 rfl (lv_at hl 1 rfl) ?_
    refine lv_iconst (v := 0) hx hb dX11_mine_51 (by decide) ?_
    obtain ⟨r13, S_11, hq12, hm⟩ := hm
    refine pw_ci (va_runVN (As := [.int x1, .int 0]) (rest := []) ⟨hx, hb, hml, hown, hU⟩ (c_X9_at l C X n S_1 hw.wf _ q10 x1 0 (Tq10) r13 S_11 hq12) ⟨va_cnB (host := "WickNights") 2 hU (pq_g1 tc_X9_at) rfl rfl rfl (hw.nw 157 rfl) (hU _ tw5) cd_X9_at.2 ⟨Nat.le_of_ble_eq_true rfl, Nat.le_of_ble_eq_true rfl⟩, hU _ tw719, hU _ ts32⟩ (pw_preV hw Tq10 (by decide) rfl) rfl rfl hl.1 rfl (lv_room (Nat.le_of_ble_eq_true rfl)) dX11_mine_52 ⟨by show _ ≤ mc; omega, by show _ ≤ ms; omega⟩) hw (fun H locs hw hx14 => ?_)
    have Ta0 : TY S_11 a0 11 := ty_ext hx14 Ta0
    have hE : Ext S0 S_11 := Ext.tr hE hx14
    refine vx_ret ?_
    exact pw_wiret hx hb hr rfl hlk hw hE hm (by omega) (by omega) dX11_mine_55
  · rw [if_neg h7] at hm
    by_cases h15 : x2 = 1
    · rw [if_pos h15] at hm
      refine lv_tsIn (v := 1) h15 ?_
      refine lv_tableIn (tgt := 56) hx hb dX11_mine_6 (by decide) (by decide) rfl (by decide) ?_
      refine lv_aload_n hx hb dX11_mine_56 rfl (lv_at hl 0 rfl) ?_
      obtain ⟨q16, hq16, hm⟩ := hm
      have Tq16 : TY S_1 q16 7 := hw.wf.ref (k := 11) (j := 1) Ta0 (by decide) (by decide) hq16
      refine pg_rb (k := 11) (j := 1) (f := 1101) hx hb hown hU iu11 hw Ta0 (by decide) rfl (hU _ tw364) rfl hq16 dX11_mine_57 ?_
      obtain ⟨q17, hq17, hm⟩ := hm
      have Tq17 : TY S_1 q17 8 := hw.wf.ref (k := 7) (j := 1) Tq16 (by decide) (by decide) hq17
      refine pgN_rb (k := 7) (j := 1) (f := 701) hx hb hown hU iu7 hw Tq16 (by decide) rfl 59 rfl rfl hq17 dX11_mine_60 ?_
      obtain ⟨q18, hq18, hm⟩ := hm
      have Tq18 : TY S_1 q18 9 := hw.wf.ref (k := 8) (j := 2) Tq17 (by decide) (by decide) hq18
      refine pgN_rb (k := 8) (j := 2) (f := 802) hx hb hown hU iu8 hw Tq17 (by decide) rfl 47 rfl rfl hq18 dX11_mine_63 ?_
      refine lv_iload_n hx hb dX11_mine_66 rfl (lv_at hl 1 rfl) ?_
      refine lv_iconst (v := 0) hx hb dX11_mine_67 (by decide) ?_
      obtain ⟨r21, S_19, hq20, hm⟩ := hm
      refine pw_ci (va_runVN (As := [.int x1, .int 0]) (rest := []) ⟨hx, hb, hml, hown, hU⟩ (c_X9_at l C X n S_1 hw.wf _ q18 x1 0 (Tq18) r21 S_19 hq20) ⟨va_cnB (host := "WickNights") 2 hU (pq_g1 tc_X9_at) rfl rfl rfl (hw.nw 157 rfl) (hU _ tw5) cd_X9_at.2 ⟨Nat.le_of_ble_eq_true rfl, Nat.le_of_ble_eq_true rfl⟩, hU _ tw719, hU _ ts32⟩ (pw_preV hw Tq18 (by decide) rfl) rfl rfl hl.1 rfl (lv_room (Nat.le_of_ble_eq_true rfl)) dX11_mine_68 ⟨by show _ ≤ mc; omega, by show _ ≤ ms; omega⟩) hw (fun H locs hw hx22 => ?_)
      have Ta0 : TY S_19 a0 11 := ty_ext hx22 Ta0
      have hE : Ext S0 S_19 := Ext.tr hE hx22
      refine vx_ret ?_
      exact pw_wiret hx hb hr rfl hlk hw hE hm (by omega) (by omega) dX11_mine_71
    · rw [if_neg h15] at hm
      by_cases h23 : x2 = 2
      · rw [if_pos h23] at hm
        refine lv_tsIn (v := 2) h23 ?_
        refine lv_tableIn (tgt := 72) hx hb dX11_mine_6 (by decide) (by decide) rfl (by decide) ?_
        refine lv_aload_n hx hb dX11_mine_72 rfl (lv_at hl 0 rfl) ?_
        obtain ⟨q24, hq24, hm⟩ := hm
        have Tq24 : TY S_1 q24 7 := hw.wf.ref (k := 11) (j := 1) Ta0 (by decide) (by decide) hq24
        refine pg_rb (k := 11) (j := 1) (f := 1101) hx hb hown hU iu11 hw Ta0 (by decide) rfl (hU _ tw364) rfl hq24 dX11_mine_73 ?_
        obtain ⟨q25, hq25, hm⟩ := hm
        have Tq25 : TY S_1 q25 1 := hw.wf.ref (k := 7) (j := 0) Tq24 (by decide) (by decide) hq25
        refine pgN_rb (k := 7) (j := 0) (f := 700) hx hb hown hU iu7 hw Tq24 (by decide) rfl 55 rfl rfl hq25 dX11_mine_76 ?_
        obtain ⟨q26, hq26, hm⟩ := hm
        have Tq26 : TY S_1 q26 9 := hw.wf.ref (k := 1) (j := 2) Tq25 (by decide) (by decide) hq26
        refine pgN_rb (k := 1) (j := 2) (f := 102) hx hb hown hU iu1 hw Tq25 (by decide) rfl 36 rfl rfl hq26 dX11_mine_79 ?_
        refine lv_iload_n hx hb dX11_mine_82 rfl (lv_at hl 1 rfl) ?_
        refine lv_iconst (v := 2) hx hb dX11_mine_83 (by decide) ?_
        obtain ⟨r29, S_27, hq28, hm⟩ := hm
        refine pw_ci (va_runVN (As := [.int x1, .int 2]) (rest := []) ⟨hx, hb, hml, hown, hU⟩ (c_X9_at l C X n S_1 hw.wf _ q26 x1 2 (Tq26) r29 S_27 hq28) ⟨va_cnB (host := "WickNights") 2 hU (pq_g1 tc_X9_at) rfl rfl rfl (hw.nw 157 rfl) (hU _ tw5) cd_X9_at.2 ⟨Nat.le_of_ble_eq_true rfl, Nat.le_of_ble_eq_true rfl⟩, hU _ tw719, hU _ ts32⟩ (pw_preV hw Tq26 (by decide) rfl) rfl rfl hl.1 rfl (lv_room (Nat.le_of_ble_eq_true rfl)) dX11_mine_84 ⟨by show _ ≤ mc; omega, by show _ ≤ ms; omega⟩) hw (fun H locs hw hx30 => ?_)
        have Ta0 : TY S_27 a0 11 := ty_ext hx30 Ta0
        have hE : Ext S0 S_27 := Ext.tr hE hx30
        refine vx_ret ?_
        exact pw_wiret hx hb hr rfl hlk hw hE hm (by omega) (by omega) dX11_mine_87
      · rw [if_neg h23] at hm
        by_cases h31 : x2 = 3
        · rw [if_pos h31] at hm
          refine lv_tsIn (v := 3) h31 ?_
          refine lv_tableIn (tgt := 88) hx hb dX11_mine_6 (by decide) (by decide) rfl (by decide) ?_
          refine lv_aload_n hx hb dX11_mine_88 rfl (lv_at hl 0 rfl) ?_
          obtain ⟨q32, hq32, hm⟩ := hm
          have Tq32 : TY S_1 q32 7 := hw.wf.ref (k := 11) (j := 1) Ta0 (by decide) (by decide) hq32
          refine pg_rb (k := 11) (j := 1) (f := 1101) hx hb hown hU iu11 hw Ta0 (by decide) rfl (hU _ tw364) rfl hq32 dX11_mine_89 ?_
          refine lv_iload_n hx hb dX11_mine_92 rfl (lv_at hl 1 rfl) ?_
          refine lv_aload_n hx hb dX11_mine_93 rfl (lv_at hl 0 rfl) ?_
          obtain ⟨q33, hq33, hm⟩ := hm
          have Tq33 : TY S_1 q33 7 := hw.wf.ref (k := 11) (j := 1) Ta0 (by decide) (by decide) hq33
          refine pg_rb (k := 11) (j := 1) (f := 1101) hx hb hown hU iu11 hw Ta0 (by decide) rfl (hU _ tw364) rfl hq33 dX11_mine_94 ?_
          obtain ⟨q34, hq34, hm⟩ := hm
          have Tq34 : TY S_1 q34 8 := hw.wf.ref (k := 7) (j := 1) Tq33 (by decide) (by decide) hq34
          refine pgN_rb (k := 7) (j := 1) (f := 701) hx hb hown hU iu7 hw Tq33 (by decide) rfl 59 rfl rfl hq34 dX11_mine_97 ?_
          refine pgN_i (k := 8) (j := 3) (f := 803) hx hb hown hU iu8 hw Tq34 (by decide) rfl 50 rfl rfl dX11_mine_100 ?_
          obtain ⟨r37, S_35, hq36, hm⟩ := hm
          refine pw_cz (va_runVN (As := [.int x1, .int (pI S_1 803 q34)]) (rest := []) ⟨hx, hb, hml, hown, hU⟩ (c_X7_isMineOpen l C X n S_1 hw.wf _ q32 x1 (pI S_1 803 q34) (Tq32) r37 S_35 hq36) ⟨va_cnB (host := "WickNights") 2 hU (pq_g1 tc_X7_isMineOpen) rfl rfl rfl (hw.nw 159 rfl) (hU _ tw3) cd_X7_isMineOpen.2 ⟨Nat.le_of_ble_eq_true rfl, Nat.le_of_ble_eq_true rfl⟩, hU _ tw923, hU _ ts65⟩ (pw_preV hw Tq32 (by decide) rfl) rfl rfl hl.1 rfl (lv_room (Nat.le_of_ble_eq_true rfl)) dX11_mine_103 ⟨by show _ ≤ mc; omega, by show _ ≤ ms; omega⟩) hw (fun H locs hw hx38 hz39 => ?_)
          have Ta0 : TY S_35 a0 11 := ty_ext hx38 Ta0
          have hE : Ext S0 S_35 := Ext.tr hE hx38
          refine lv_if_eq (tgt := 113) hx hb dX11_mine_106 (by decide) (fun h40 => ?_) (fun h40 => ?_)
          · rw [if_pos h40] at hm
            refine lv_iconst (v := 0) hx hb dX11_mine_113 (by decide) ?_
            refine vx_ret ?_
            exact pw_wiret hx hb hr rfl hlk hw hE hm (by omega) (by omega) dX11_mine_114
          · rw [if_neg h40] at hm
            refine lv_iconst (v := 1) hx hb dX11_mine_109 (by decide) ?_
            refine lv_goto (tgt := 114) hx hb dX11_mine_110 (by decide) ?_
            refine vx_ret ?_
            exact pw_wiret hx hb hr rfl hlk hw hE hm (by omega) (by omega) dX11_mine_114
        · rw [if_neg h31] at hm
          by_cases h41 : x2 = 4
          · rw [if_pos h41] at hm
            refine lv_tsIn (v := 4) h41 ?_
            refine lv_tableIn (tgt := 115) hx hb dX11_mine_6 (by decide) (by decide) rfl (by decide) ?_
            refine lv_aload_n hx hb dX11_mine_115 rfl (lv_at hl 0 rfl) ?_
            obtain ⟨q42, hq42, hm⟩ := hm
            have Tq42 : TY S_1 q42 7 := hw.wf.ref (k := 11) (j := 1) Ta0 (by decide) (by decide) hq42
            refine pg_rb (k := 11) (j := 1) (f := 1101) hx hb hown hU iu11 hw Ta0 (by decide) rfl (hU _ tw364) rfl hq42 dX11_mine_116 ?_
            obtain ⟨q43, hq43, hm⟩ := hm
            have Tq43 : TY S_1 q43 8 := hw.wf.ref (k := 7) (j := 1) Tq42 (by decide) (by decide) hq43
            refine pgN_rb (k := 7) (j := 1) (f := 701) hx hb hown hU iu7 hw Tq42 (by decide) rfl 59 rfl rfl hq43 dX11_mine_119 ?_
            obtain ⟨q44, hq44, hm⟩ := hm
            have Tq44 : TY S_1 q44 9 := hw.wf.ref (k := 8) (j := 2) Tq43 (by decide) (by decide) hq44
            refine pgN_rb (k := 8) (j := 2) (f := 802) hx hb hown hU iu8 hw Tq43 (by decide) rfl 47 rfl rfl hq44 dX11_mine_122 ?_
            refine lv_iload_n hx hb dX11_mine_125 rfl (lv_at hl 1 rfl) ?_
            refine lv_iconst (v := 1) hx hb dX11_mine_126 (by decide) ?_
            obtain ⟨r47, S_45, hq46, hm⟩ := hm
            refine pw_ci (va_runVN (As := [.int x1, .int 1]) (rest := []) ⟨hx, hb, hml, hown, hU⟩ (c_X9_at l C X n S_1 hw.wf _ q44 x1 1 (Tq44) r47 S_45 hq46) ⟨va_cnB (host := "WickNights") 2 hU (pq_g1 tc_X9_at) rfl rfl rfl (hw.nw 157 rfl) (hU _ tw5) cd_X9_at.2 ⟨Nat.le_of_ble_eq_true rfl, Nat.le_of_ble_eq_true rfl⟩, hU _ tw719, hU _ ts32⟩ (pw_preV hw Tq44 (by decide) rfl) rfl rfl hl.1 rfl (lv_room (Nat.le_of_ble_eq_true rfl)) dX11_mine_127 ⟨by show _ ≤ mc; omega, by show _ ≤ ms; omega⟩) hw (fun H locs hw hx48 => ?_)
            have Ta0 : TY S_45 a0 11 := ty_ext hx48 Ta0
            have hE : Ext S0 S_45 := Ext.tr hE hx48
            refine vx_ret ?_
            exact pw_wiret hx hb hr rfl hlk hw hE hm (by omega) (by omega) dX11_mine_130
          · rw [if_neg h41] at hm
            refine lv_tableOut (tgt := 131) hx hb dX11_mine_6 (ts_out (lo := 0) (hi := 4) (fun j hj1 hj2 => ?_)) (by decide) ?_
            · have hj : j = 0 ∨ j = 1 ∨ j = 2 ∨ j = 3 ∨ j = 4 := by clear hm; omega
              rcases hj with rfl | rfl | rfl | rfl | rfl
              · exact h7
              · exact h15
              · exact h23
              · exact h31
              · exact h41
            refine lv_aload_n hx hb dX11_mine_131 rfl (lv_at hl 0 rfl) ?_
            refine lv_iconst (v := 0) hx hb dX11_mine_132 (by decide) ?_
            obtain ⟨c50, s51, hb52, hb53, hm⟩ := hm
            refine px_v (vx_runV (As := [.int 0]) (rest := []) ⟨hx, hb, hml, hown, hU⟩ (cw_X11_need l C X n S_1 hw.wf _ a0 0 (Ta0) c50 s51 hst E _ hm) (cwV 1 hU (pq_gV tw490 tw492 ts7 tw1 tc_X11_need) rfl rfl rfl cd_X11_need ⟨Nat.le_of_ble_eq_true rfl, Nat.le_of_ble_eq_true rfl⟩) (pw_preV hw Ta0 (by decide) rfl) rfl rfl hl.1 rfl (lv_room (Nat.le_of_ble_eq_true rfl)) dX11_mine_133 ⟨by show _ ≤ mc; omega, by show _ ≤ ms; omega⟩) hw hE hno hlk (by omega) (by omega) (fun S_49 H locs hm hw hx54 => ?_)
            have Ta0 : TY S_49 a0 11 := ty_ext hx54 Ta0
            have hE : Ext S0 S_49 := Ext.tr hE hx54
            refine W.widen (k := c2 + c50) (n := s3 + s51) (by omega) (by omega) ?_
            have hcc : c2 + c50 + (mc - (c2 + c50)) ≤ mc := by omega
            have hss : s3 + s51 + (ms - (s3 + s51)) ≤ ms := by omega
            refine lv_iconst (v := (-1)) hx hb dX11_mine_136 (by decide) ?_
            refine vx_ret ?_
            exact pw_wiret hx hb hr rfl hlk hw hE hm (by omega) (by omega) dX11_mine_137
abbrev rw_X11_arrives (mc ms : Nat) : Room := { frames := 8, cells := mc, slots := ms, locals := 131 }
def pb_X11_arrives_42 (n : Nat) (a0 : Nat) (x1 : Int32) (x2 : Int32) (x3 : Int32) (x4 : Int32) (b0 : Nat) (z1 : Int32) (S : pq_S) (bc bs : Nat) (E : (Nat → pq_S → Prop)) (Q : (Int32 → pq_S → Prop)) : Prop := ∃ c27 s28 : Nat, c27 ≤ bc ∧ s28 ≤ bs ∧ wp_X11_need n b0 z1 S c27 s28 E (fun S_26 => ∃ q32 : Nat, (pR S_26 1101 a0) = some q32 ∧ (∃ r35 S_33, m_X7_arriving n q32 x1 x2 x3 x4 S_26 = some (r35, S_33) ∧ (Q r35 S_33)))
set_option maxHeartbeats 4000000 in
set_option maxRecDepth 100000 in
theorem wpb_X11_arrives_42 {p : Program} {l : Launch} {e : Env} {s : State} {m : MethodId} {args : Array Value} {below : List Frame} {meth : Method} {c : Code} (cx : Cx p s m args meth c cX11_arrives 5 RX11 (some .int)) (hno : ∀ x ∈ c.exceptionTable.toList, False) (C : pq_C) (X : va_W) (S0 : pq_S) (n : Nat) (hst : l.stackTraces = false) (E : (Nat → pq_S → Prop)) (Q : (Int32 → pq_S → Prop)) (mc ms : Nat) : ∀ (a0 : Nat) (x1 : Int32) (x2 : Int32) (x3 : Int32) (x4 : Int32) (b0 : Nat) (z1 : Int32) (S : pq_S) (H : Heap) (locs : List Loc) (ls : Array Slot) (cells slots bc bs : Nat), cells + bc ≤ mc → slots + bs ≤ ms → PW C X S (pq_F C X S0 s.heap.size) H locs s → Ext S0 S → TY S a0 11 → TY S b0 11 → lv_has ls 5 [(0, .ref a0), (1, .int x1), (2, .int x2), (3, .int x3), (4, .int x4)] → pb_X11_arrives_42 n a0 x1 x2 x3 x4 b0 z1 S bc bs E Q → W p l e (rw_X11_arrives mc ms) s m args below meth c H locs cells slots (vx_MQ below (QwI C X S0 s.heap.size Q) (XcP C X S0 s.heap.size E) args s mc ms (pq_F C X S0 s.heap.size)) (F0 m 42 ls [.int z1, .ref b0]) := by
  obtain ⟨hx, hb, hml, hown, hU, hr, hlk⟩ := id cx
  intro a0 x1 x2 x3 x4 b0 z1 S H locs ls cells slots bc bs hcc hss hw hE Ta0 Tb0 hl hm
  rw [pb_X11_arrives_42] at hm
  obtain ⟨c27, s28, hb29, hb30, hm⟩ := hm
  refine px_v (vx_runV (As := [.int z1]) (rest := []) ⟨hx, hb, hml, hown, hU⟩ (cw_X11_need l C X n S hw.wf _ b0 z1 (Tb0) c27 s28 hst E _ hm) (cwV 1 hU (pq_gV tw490 tw492 ts7 tw1 tc_X11_need) rfl rfl rfl cd_X11_need ⟨Nat.le_of_ble_eq_true rfl, Nat.le_of_ble_eq_true rfl⟩) (pw_preV hw Tb0 (by decide) rfl) rfl rfl hl.1 rfl (lv_room (Nat.le_of_ble_eq_true rfl)) dX11_arrives_42 ⟨by show _ ≤ mc; omega, by show _ ≤ ms; omega⟩) hw hE hno hlk (by omega) (by omega) (fun S_26 H locs hm hw hx31 => ?_)
  have Ta0 : TY S_26 a0 11 := ty_ext hx31 Ta0
  have hE : Ext S0 S_26 := Ext.tr hE hx31
  refine W.widen (k := cells + (c27)) (n := slots + (s28)) (by omega) (by omega) ?_
  have hcc : cells + (c27) + (bc - (c27)) ≤ mc := by omega
  have hss : slots + (s28) + (bs - (s28)) ≤ ms := by omega
  refine lv_aload_n hx hb dX11_arrives_45 rfl (lv_at hl 0 rfl) ?_
  obtain ⟨q32, hq32, hm⟩ := hm
  have Tq32 : TY S_26 q32 7 := hw.wf.ref (k := 11) (j := 1) Ta0 (by decide) (by decide) hq32
  refine pg_rb (k := 11) (j := 1) (f := 1101) hx hb hown hU iu11 hw Ta0 (by decide) rfl (hU _ tw364) rfl hq32 dX11_arrives_46 ?_
  refine lv_iload_n hx hb dX11_arrives_49 rfl (lv_at hl 1 rfl) ?_
  refine lv_iload_n hx hb dX11_arrives_50 rfl (lv_at hl 2 rfl) ?_
  refine lv_iload_n hx hb dX11_arrives_51 rfl (lv_at hl 3 rfl) ?_
  refine lv_iload hx hb dX11_arrives_52 (lv_at hl 4 rfl) ?_
  obtain ⟨r35, S_33, hq34, hm⟩ := hm
  refine pw_ci (va_runVN (As := [.int x1, .int x2, .int x3, .int x4]) (rest := []) ⟨hx, hb, hml, hown, hU⟩ (c_X7_arriving l C X n S_26 hw.wf _ q32 x1 x2 x3 x4 (Tq32) r35 S_33 hq34) ⟨va_cnB (host := "WickNights") 4 hU (pq_g1 tc_X7_arriving) rfl rfl rfl (hw.nw 160 rfl) (hU _ tw3) cd_X7_arriving.2 ⟨Nat.le_of_ble_eq_true rfl, Nat.le_of_ble_eq_true rfl⟩, hU _ tw863, hU _ ts53⟩ (pw_preV hw Tq32 (by decide) rfl) rfl rfl hl.1 rfl (lv_room (Nat.le_of_ble_eq_true rfl)) dX11_arrives_54 ⟨by show _ ≤ mc; omega, by show _ ≤ ms; omega⟩) hw (fun H locs hw hx36 => ?_)
  have Ta0 : TY S_33 a0 11 := ty_ext hx36 Ta0
  have hE : Ext S0 S_33 := Ext.tr hE hx36
  refine vx_ret ?_
  exact pw_wiret hx hb hr rfl hlk hw hE hm (by omega) (by omega) dX11_arrives_57
def pb_X11_arrives_41 (n : Nat) (a0 : Nat) (x1 : Int32) (x2 : Int32) (x3 : Int32) (x4 : Int32) (b0 : Nat) (S : pq_S) (bc bs : Nat) (E : (Nat → pq_S → Prop)) (Q : (Int32 → pq_S → Prop)) : Prop := pb_X11_arrives_42 n a0 x1 x2 x3 x4 b0 0 S bc bs E Q
set_option maxHeartbeats 4000000 in
set_option maxRecDepth 100000 in
theorem wpb_X11_arrives_41 {p : Program} {l : Launch} {e : Env} {s : State} {m : MethodId} {args : Array Value} {below : List Frame} {meth : Method} {c : Code} (cx : Cx p s m args meth c cX11_arrives 5 RX11 (some .int)) (hno : ∀ x ∈ c.exceptionTable.toList, False) (C : pq_C) (X : va_W) (S0 : pq_S) (n : Nat) (hst : l.stackTraces = false) (E : (Nat → pq_S → Prop)) (Q : (Int32 → pq_S → Prop)) (mc ms : Nat) : ∀ (a0 : Nat) (x1 : Int32) (x2 : Int32) (x3 : Int32) (x4 : Int32) (b0 : Nat) (S : pq_S) (H : Heap) (locs : List Loc) (ls : Array Slot) (cells slots bc bs : Nat), cells + bc ≤ mc → slots + bs ≤ ms → PW C X S (pq_F C X S0 s.heap.size) H locs s → Ext S0 S → TY S a0 11 → TY S b0 11 → lv_has ls 5 [(0, .ref a0), (1, .int x1), (2, .int x2), (3, .int x3), (4, .int x4)] → pb_X11_arrives_41 n a0 x1 x2 x3 x4 b0 S bc bs E Q → W p l e (rw_X11_arrives mc ms) s m args below meth c H locs cells slots (vx_MQ below (QwI C X S0 s.heap.size Q) (XcP C X S0 s.heap.size E) args s mc ms (pq_F C X S0 s.heap.size)) (F0 m 41 ls [.ref b0]) := by
  obtain ⟨hx, hb, hml, hown, hU, hr, hlk⟩ := id cx
  intro a0 x1 x2 x3 x4 b0 S H locs ls cells slots bc bs hcc hss hw hE Ta0 Tb0 hl hm
  rw [pb_X11_arrives_41] at hm
  refine lv_iconst (v := 0) hx hb dX11_arrives_41 (by decide) ?_
  exact wpb_X11_arrives_42 cx hno C X S0 n hst E Q mc ms a0 x1 x2 x3 x4 b0 0 S _ _ _ (cells) (slots) bc bs hcc hss hw hE Ta0 Tb0 (lv_sub hl [0, 1, 2, 3, 4] rfl) hm
def wp_X11_arrives (n : Nat) (a0 : Nat) (x1 : Int32) (x2 : Int32) (x3 : Int32) (x4 : Int32) (S0 : pq_S) (mc ms : Nat) (E : (Nat → pq_S → Prop)) (Q : (Int32 → pq_S → Prop)) : Prop := ∃ c2 s3 : Nat, c2 ≤ mc ∧ s3 ≤ ms ∧ wp_X11_needPlace n a0 x1 S0 c2 s3 E (fun S_1 => ∃ c8 s9 : Nat, c8 ≤ (mc - (c2)) ∧ s9 ≤ (ms - (s3)) ∧ wp_X11_needPlace n a0 x2 S_1 c8 s9 E (fun S_7 => if x1 = x2 then pb_X11_arrives_41 n a0 x1 x2 x3 x4 a0 S_7 (mc - (c2 + c8)) (ms - (s3 + s9)) E Q else ∃ r16 S_14, m_X11_isWithin n x3 0 999 S_7 = some (r16, S_14) ∧ (if r16 = 0 then pb_X11_arrives_41 n a0 x1 x2 x3 x4 a0 S_14 (mc - (c2 + c8)) (ms - (s3 + s9)) E Q else ∃ r22 S_20, m_X11_isWithin n x4 0 1 S_14 = some (r22, S_20) ∧ (if r22 = 0 then pb_X11_arrives_41 n a0 x1 x2 x3 x4 a0 S_20 (mc - (c2 + c8)) (ms - (s3 + s9)) E Q else pb_X11_arrives_42 n a0 x1 x2 x3 x4 a0 1 S_20 (mc - (c2 + c8)) (ms - (s3 + s9)) E Q))))
theorem tc_X11_arrives : Cond.code yX11_arrives cX11_arrives 5 (some .int) ∈ pq_U := tw1061
theorem cd_X11_arrives : yX11_arrives.cls = RX11 ∧ yX11_arrives.cls ≠ "java/lang/invoke/MethodHandle" ∧ yX11_arrives.cls ≠ "java/lang/invoke/VarHandle" ∧ (parseMethodDescriptor yX11_arrives.desc).map (fun d => d.parameters.length) = some 4 := by decide +kernel
set_option maxHeartbeats 4000000 in
set_option maxRecDepth 100000 in
theorem cw_X11_arrives (l : Launch) (C : pq_C) (X : va_W) (n : Nat) (S0 : pq_S) (hF : WF S0) (sz : Nat) (a0 : Nat) (x1 : Int32) (x2 : Int32) (x3 : Int32) (x4 : Int32) (Ta0 : TY S0 a0 11) (mc ms : Nat) (hst : l.stackTraces = false) (E : (Nat → pq_S → Prop)) (Q : (Int32 → pq_S → Prop)) (hm : wp_X11_arrives n a0 x1 x2 x3 x4 S0 mc ms E Q) : vx_Met l yX11_arrives (.code yX11_arrives cX11_arrives 5 (some .int) :: pq_U) (rw_X11_arrives mc ms) (va_Pc [.ref a0, .int x1, .int x2, .int x3, .int x4] (CPre C X S0 sz)) (QwI C X S0 sz Q) (XcP C X S0 sz E) mc ms (pq_F C X S0 sz) := by
  refine vx_ofW (cc := cX11_arrives) (maxL := 5) (ret := (some .int)) (by decide) rfl ?_
  intro p e s m args below meth c s₁ B hml hno hv
  obtain ⟨rfl, hv⟩ := hv
  have hsz := hv.1
  subst hsz
  have hw := pw_entry hF hv
  have hts := atoms_spec (ws := .code yX11_arrives cX11_arrives 5 (some .int) :: pq_U) B.pre
  have hU : ∀ w ∈ pq_U, w.before _ s = true := fun w h => hts w (List.mem_cons_of_mem _ h)
  have hx := B.exec
  have hb := B.bytes
  have hr := B.returns
  have hown : s.vm.findClass RX11 = some m.cls := findClass_of_methodNamed B.named
  have hlk := B.notSynchronized
  have hl := lv_entry ([.ref a0, .int x1, .int x2, .int x3, .int x4]) (n := 5) (Nat.le_of_ble_eq_true rfl)
  rw [lg_entry_eq]
  generalize (lg_sl ([.ref a0, .int x1, .int x2, .int x3, .int x4]) ++ List.replicate (5 - (lg_sl ([.ref a0, .int x1, .int x2, .int x3, .int x4])).length) Slot.unset).toArray = ls at hl ⊢
  have hl : lv_has ls 5 [(0, .ref a0), (1, .int x1), (2, .int x2), (3, .int x3), (4, .int x4)] := hl
  have hE : Ext S0 S0 := Ext.rf _
  have cx : Cx p s m _ meth c cX11_arrives 5 RX11 (some .int) := ⟨hx, hb, hml, hown, hU, hr, hlk⟩
  have hcc : 0 + mc ≤ mc := by omega
  have hss : 0 + ms ≤ ms := by omega
  rw [wp_X11_arrives] at hm
  refine lv_aload_n hx hb dX11_arrives_0 rfl (lv_at hl 0 rfl) ?_
  refine lv_iload_n hx hb dX11_arrives_1 rfl (lv_at hl 1 rfl) ?_
  obtain ⟨c2, s3, hb4, hb5, hm⟩ := hm
  refine px_v (vx_runV (As := [.int x1]) (rest := []) ⟨hx, hb, hml, hown, hU⟩ (cw_X11_needPlace l C X n S0 hw.wf _ a0 x1 (Ta0) c2 s3 hst E _ hm) (cwV 1 hU (pq_gV tw996 tw998 ts76 tw1 tc_X11_needPlace) rfl rfl rfl cd_X11_needPlace ⟨Nat.le_of_ble_eq_true rfl, Nat.le_of_ble_eq_true rfl⟩) (pw_preV hw Ta0 (by decide) rfl) rfl rfl hl.1 rfl (lv_room (Nat.le_of_ble_eq_true rfl)) dX11_arrives_2 ⟨by show _ ≤ mc; omega, by show _ ≤ ms; omega⟩) hw hE hno hlk (by omega) (by omega) (fun S_1 H locs hm hw hx6 => ?_)
  have Ta0 : TY S_1 a0 11 := ty_ext hx6 Ta0
  have hE : Ext S0 S_1 := Ext.tr hE hx6
  refine W.widen (k := c2) (n := s3) (by omega) (by omega) ?_
  have hcc : c2 + (mc - (c2)) ≤ mc := by omega
  have hss : s3 + (ms - (s3)) ≤ ms := by omega
  refine lv_aload_n hx hb dX11_arrives_5 rfl (lv_at hl 0 rfl) ?_
  refine lv_iload_n hx hb dX11_arrives_6 rfl (lv_at hl 2 rfl) ?_
  obtain ⟨c8, s9, hb10, hb11, hm⟩ := hm
  refine px_v (vx_runV (As := [.int x2]) (rest := []) ⟨hx, hb, hml, hown, hU⟩ (cw_X11_needPlace l C X n S_1 hw.wf _ a0 x2 (Ta0) c8 s9 hst E _ hm) (cwV 1 hU (pq_gV tw996 tw998 ts76 tw1 tc_X11_needPlace) rfl rfl rfl cd_X11_needPlace ⟨Nat.le_of_ble_eq_true rfl, Nat.le_of_ble_eq_true rfl⟩) (pw_preV hw Ta0 (by decide) rfl) rfl rfl hl.1 rfl (lv_room (Nat.le_of_ble_eq_true rfl)) dX11_arrives_7 ⟨by show _ ≤ mc; omega, by show _ ≤ ms; omega⟩) hw hE hno hlk (by omega) (by omega) (fun S_7 H locs hm hw hx12 => ?_)
  have Ta0 : TY S_7 a0 11 := ty_ext hx12 Ta0
  have hE : Ext S0 S_7 := Ext.tr hE hx12
  refine W.widen (k := c2 + c8) (n := s3 + s9) (by omega) (by omega) ?_
  have hcc : c2 + c8 + (mc - (c2 + c8)) ≤ mc := by omega
  have hss : s3 + s9 + (ms - (s3 + s9)) ≤ ms := by omega
  refine lv_aload_n hx hb dX11_arrives_10 rfl (lv_at hl 0 rfl) ?_
  refine lv_iload_n hx hb dX11_arrives_11 rfl (lv_at hl 1 rfl) ?_
  refine lv_iload_n hx hb dX11_arrives_12 rfl (lv_at hl 2 rfl) ?_
  refine lv_icmp_eq (tgt := 41) hx hb dX11_arrives_13 (by decide) (fun h13 => ?_) (fun h13 => ?_)
  · rw [if_pos h13] at hm
    exact wpb_X11_arrives_41 cx hno C X S0 n hst E Q mc ms a0 x1 x2 x3 x4 a0 S_7 _ _ _ (c2 + c8) (s3 + s9) (mc - (c2 + c8)) (ms - (s3 + s9)) hcc hss hw hE Ta0 Ta0 (lv_sub hl [0, 1, 2, 3, 4] rfl) hm
  · rw [if_neg h13] at hm
    refine lv_iload_n hx hb dX11_arrives_16 rfl (lv_at hl 3 rfl) ?_
    refine lv_iconst (v := 0) hx hb dX11_arrives_17 (by decide) ?_
    refine lv_sipush (v := 999) hx hb dX11_arrives_18 (by decide) ?_
    obtain ⟨r16, S_14, hq15, hm⟩ := hm
    refine pw_cz (va_runS (As := [.int x3, .int 0, .int 999]) (rest := [.ref a0]) ⟨hx, hb, hml, hown, hU⟩ (c_X11_isWithin l C X n S_7 hw.wf _ x3 0 999  r16 S_14 hq15) ⟨callB_of 3 hU (pq_g1 tc_X11_isWithin) rfl rfl rfl (hU _ tw1) (hU _ tw453) cd_X11_isWithin.2 ⟨Nat.le_of_ble_eq_true rfl, Nat.le_of_ble_eq_true rfl⟩, hU _ tw454⟩ (pw_preS hw) rfl rfl hl.1 rfl (lv_room (Nat.le_of_ble_eq_true rfl)) dX11_arrives_21 ⟨by show _ ≤ mc; omega, by show _ ≤ ms; omega⟩) hw (fun H locs hw hx17 hz18 => ?_)
    have Ta0 : TY S_14 a0 11 := ty_ext hx17 Ta0
    have hE : Ext S0 S_14 := Ext.tr hE hx17
    refine lv_if_eq (tgt := 41) hx hb dX11_arrives_24 (by decide) (fun h19 => ?_) (fun h19 => ?_)
    · rw [if_pos h19] at hm
      exact wpb_X11_arrives_41 cx hno C X S0 n hst E Q mc ms a0 x1 x2 x3 x4 a0 S_14 _ _ _ (c2 + c8) (s3 + s9) (mc - (c2 + c8)) (ms - (s3 + s9)) hcc hss hw hE Ta0 Ta0 (lv_sub hl [0, 1, 2, 3, 4] rfl) hm
    · rw [if_neg h19] at hm
      refine lv_iload hx hb dX11_arrives_27 (lv_at hl 4 rfl) ?_
      refine lv_iconst (v := 0) hx hb dX11_arrives_29 (by decide) ?_
      refine lv_iconst (v := 1) hx hb dX11_arrives_30 (by decide) ?_
      obtain ⟨r22, S_20, hq21, hm⟩ := hm
      refine pw_cz (va_runS (As := [.int x4, .int 0, .int 1]) (rest := [.ref a0]) ⟨hx, hb, hml, hown, hU⟩ (c_X11_isWithin l C X n S_14 hw.wf _ x4 0 1  r22 S_20 hq21) ⟨callB_of 3 hU (pq_g1 tc_X11_isWithin) rfl rfl rfl (hU _ tw1) (hU _ tw453) cd_X11_isWithin.2 ⟨Nat.le_of_ble_eq_true rfl, Nat.le_of_ble_eq_true rfl⟩, hU _ tw454⟩ (pw_preS hw) rfl rfl hl.1 rfl (lv_room (Nat.le_of_ble_eq_true rfl)) dX11_arrives_31 ⟨by show _ ≤ mc; omega, by show _ ≤ ms; omega⟩) hw (fun H locs hw hx23 hz24 => ?_)
      have Ta0 : TY S_20 a0 11 := ty_ext hx23 Ta0
      have hE : Ext S0 S_20 := Ext.tr hE hx23
      refine lv_if_eq (tgt := 41) hx hb dX11_arrives_34 (by decide) (fun h25 => ?_) (fun h25 => ?_)
      · rw [if_pos h25] at hm
        exact wpb_X11_arrives_41 cx hno C X S0 n hst E Q mc ms a0 x1 x2 x3 x4 a0 S_20 _ _ _ (c2 + c8) (s3 + s9) (mc - (c2 + c8)) (ms - (s3 + s9)) hcc hss hw hE Ta0 Ta0 (lv_sub hl [0, 1, 2, 3, 4] rfl) hm
      · rw [if_neg h25] at hm
        refine lv_iconst (v := 1) hx hb dX11_arrives_37 (by decide) ?_
        refine lv_goto (tgt := 42) hx hb dX11_arrives_38 (by decide) ?_
        exact wpb_X11_arrives_42 cx hno C X S0 n hst E Q mc ms a0 x1 x2 x3 x4 a0 1 S_20 _ _ _ (c2 + c8) (s3 + s9) (mc - (c2 + c8)) (ms - (s3 + s9)) hcc hss hw hE Ta0 Ta0 (lv_sub hl [0, 1, 2, 3, 4] rfl) hm
abbrev rw_X11_digs (mc ms : Nat) : Room := { frames := 8, cells := mc, slots := ms, locals := 131 }
def wp_X11_digs (n : Nat) (a0 : Nat) (x1 : Int32) (x2 : Int32) (S0 : pq_S) (mc ms : Nat) (E : (Nat → pq_S → Prop)) (Q : (Int32 → pq_S → Prop)) : Prop := ∃ c2 s3 : Nat, c2 ≤ mc ∧ s3 ≤ ms ∧ wp_X11_needMine n a0 x1 S0 c2 s3 E (fun S_1 => ∃ r9 S_7, m_X11_isWithin n x2 0 9 S_1 = some (r9, S_7) ∧ (∃ c13 s14 : Nat, c13 ≤ (mc - (c2)) ∧ s14 ≤ (ms - (s3)) ∧ wp_X11_need n a0 r9 S_7 c13 s14 E (fun S_12 => ∃ q18 : Nat, (pR S_12 1101 a0) = some q18 ∧ (∃ q19 : Nat, (pR S_12 1101 a0) = some q19 ∧ (∃ q20 : Nat, (pR S_12 701 q19) = some q20 ∧ (∃ q21 : Nat, (pR S_12 802 q20) = some q21 ∧ (∃ r24 S_22, m_X9_at n q21 x1 0 S_12 = some (r24, S_22) ∧ (∃ q26 : Nat, (pR S_22 1101 a0) = some q26 ∧ (∃ q27 : Nat, (pR S_22 701 q26) = some q27 ∧ (∃ r30 S_28, m_X7_comingOut n q18 x2 r24 (pI S_22 803 q27) S_22 = some (r30, S_28) ∧ (Q r30 S_28)))))))))))
theorem tc_X11_digs : Cond.code yX11_digs cX11_digs 3 (some .int) ∈ pq_U := tw1069
theorem cd_X11_digs : yX11_digs.cls = RX11 ∧ yX11_digs.cls ≠ "java/lang/invoke/MethodHandle" ∧ yX11_digs.cls ≠ "java/lang/invoke/VarHandle" ∧ (parseMethodDescriptor yX11_digs.desc).map (fun d => d.parameters.length) = some 2 := by decide +kernel
set_option maxHeartbeats 4000000 in
set_option maxRecDepth 100000 in
theorem cw_X11_digs (l : Launch) (C : pq_C) (X : va_W) (n : Nat) (S0 : pq_S) (hF : WF S0) (sz : Nat) (a0 : Nat) (x1 : Int32) (x2 : Int32) (Ta0 : TY S0 a0 11) (mc ms : Nat) (hst : l.stackTraces = false) (E : (Nat → pq_S → Prop)) (Q : (Int32 → pq_S → Prop)) (hm : wp_X11_digs n a0 x1 x2 S0 mc ms E Q) : vx_Met l yX11_digs (.code yX11_digs cX11_digs 3 (some .int) :: pq_U) (rw_X11_digs mc ms) (va_Pc [.ref a0, .int x1, .int x2] (CPre C X S0 sz)) (QwI C X S0 sz Q) (XcP C X S0 sz E) mc ms (pq_F C X S0 sz) := by
  refine vx_ofW (cc := cX11_digs) (maxL := 3) (ret := (some .int)) (by decide) rfl ?_
  intro p e s m args below meth c s₁ B hml hno hv
  obtain ⟨rfl, hv⟩ := hv
  have hsz := hv.1
  subst hsz
  have hw := pw_entry hF hv
  have hts := atoms_spec (ws := .code yX11_digs cX11_digs 3 (some .int) :: pq_U) B.pre
  have hU : ∀ w ∈ pq_U, w.before _ s = true := fun w h => hts w (List.mem_cons_of_mem _ h)
  have hx := B.exec
  have hb := B.bytes
  have hr := B.returns
  have hown : s.vm.findClass RX11 = some m.cls := findClass_of_methodNamed B.named
  have hlk := B.notSynchronized
  have hl := lv_entry ([.ref a0, .int x1, .int x2]) (n := 3) (Nat.le_of_ble_eq_true rfl)
  rw [lg_entry_eq]
  generalize (lg_sl ([.ref a0, .int x1, .int x2]) ++ List.replicate (3 - (lg_sl ([.ref a0, .int x1, .int x2])).length) Slot.unset).toArray = ls at hl ⊢
  have hl : lv_has ls 3 [(0, .ref a0), (1, .int x1), (2, .int x2)] := hl
  have hE : Ext S0 S0 := Ext.rf _
  have cx : Cx p s m _ meth c cX11_digs 3 RX11 (some .int) := ⟨hx, hb, hml, hown, hU, hr, hlk⟩
  have hcc : 0 + mc ≤ mc := by omega
  have hss : 0 + ms ≤ ms := by omega
  rw [wp_X11_digs] at hm
  refine lv_aload_n hx hb dX11_digs_0 rfl (lv_at hl 0 rfl) ?_
  refine lv_iload_n hx hb dX11_digs_1 rfl (lv_at hl 1 rfl) ?_
  obtain ⟨c2, s3, hb4, hb5, hm⟩ := hm
  refine px_v (vx_runV (As := [.int x1]) (rest := []) ⟨hx, hb, hml, hown, hU⟩ (cw_X11_needMine l C X n S0 hw.wf _ a0 x1 (Ta0) c2 s3 hst E _ hm) (cwV 1 hU (pq_gV tw1050 tw1052 ts82 tw1 tc_X11_needMine) rfl rfl rfl cd_X11_needMine ⟨Nat.le_of_ble_eq_true rfl, Nat.le_of_ble_eq_true rfl⟩) (pw_preV hw Ta0 (by decide) rfl) rfl rfl hl.1 rfl (lv_room (Nat.le_of_ble_eq_true rfl)) dX11_digs_2 ⟨by show _ ≤ mc; omega, by show _ ≤ ms; omega⟩) hw hE hno hlk (by omega) (by omega) (fun S_1 H locs hm hw hx6 => ?_)
  have Ta0 : TY S_1 a0 11 := ty_ext hx6 Ta0
  have hE : Ext S0 S_1 := Ext.tr hE hx6
  refine W.widen (k := c2) (n := s3) (by omega) (by omega) ?_
  have hcc : c2 + (mc - (c2)) ≤ mc := by omega
  have hss : s3 + (ms - (s3)) ≤ ms := by omega
  refine lv_aload_n hx hb dX11_digs_5 rfl (lv_at hl 0 rfl) ?_
  refine lv_iload_n hx hb dX11_digs_6 rfl (lv_at hl 2 rfl) ?_
  refine lv_iconst (v := 0) hx hb dX11_digs_7 (by decide) ?_
  refine lv_bipush (v := 9) hx hb dX11_digs_8 (by decide) ?_
  obtain ⟨r9, S_7, hq8, hm⟩ := hm
  refine pw_cz (va_runS (As := [.int x2, .int 0, .int 9]) (rest := [.ref a0]) ⟨hx, hb, hml, hown, hU⟩ (c_X11_isWithin l C X n S_1 hw.wf _ x2 0 9  r9 S_7 hq8) ⟨callB_of 3 hU (pq_g1 tc_X11_isWithin) rfl rfl rfl (hU _ tw1) (hU _ tw453) cd_X11_isWithin.2 ⟨Nat.le_of_ble_eq_true rfl, Nat.le_of_ble_eq_true rfl⟩, hU _ tw454⟩ (pw_preS hw) rfl rfl hl.1 rfl (lv_room (Nat.le_of_ble_eq_true rfl)) dX11_digs_10 ⟨by show _ ≤ mc; omega, by show _ ≤ ms; omega⟩) hw (fun H locs hw hx10 hz11 => ?_)
  have Ta0 : TY S_7 a0 11 := ty_ext hx10 Ta0
  have hE : Ext S0 S_7 := Ext.tr hE hx10
  obtain ⟨c13, s14, hb15, hb16, hm⟩ := hm
  refine px_v (vx_runV (As := [.int r9]) (rest := []) ⟨hx, hb, hml, hown, hU⟩ (cw_X11_need l C X n S_7 hw.wf _ a0 r9 (Ta0) c13 s14 hst E _ hm) (cwV 1 hU (pq_gV tw490 tw492 ts7 tw1 tc_X11_need) rfl rfl rfl cd_X11_need ⟨Nat.le_of_ble_eq_true rfl, Nat.le_of_ble_eq_true rfl⟩) (pw_preV hw Ta0 (by decide) rfl) rfl rfl hl.1 rfl (lv_room (Nat.le_of_ble_eq_true rfl)) dX11_digs_13 ⟨by show _ ≤ mc; omega, by show _ ≤ ms; omega⟩) hw hE hno hlk (by omega) (by omega) (fun S_12 H locs hm hw hx17 => ?_)
  have Ta0 : TY S_12 a0 11 := ty_ext hx17 Ta0
  have hE : Ext S0 S_12 := Ext.tr hE hx17
  refine W.widen (k := c2 + c13) (n := s3 + s14) (by omega) (by omega) ?_
  have hcc : c2 + c13 + (mc - (c2 + c13)) ≤ mc := by omega
  have hss : s3 + s14 + (ms - (s3 + s14)) ≤ ms := by omega
  refine lv_aload_n hx hb dX11_digs_16 rfl (lv_at hl 0 rfl) ?_
  obtain ⟨q18, hq18, hm⟩ := hm
  have Tq18 : TY S_12 q18 7 := hw.wf.ref (k := 11) (j := 1) Ta0 (by decide) (by decide) hq18
  refine pg_rb (k := 11) (j := 1) (f := 1101) hx hb hown hU iu11 hw Ta0 (by decide) rfl (hU _ tw364) rfl hq18 dX11_digs_17 ?_
  refine lv_iload_n hx hb dX11_digs_20 rfl (lv_at hl 2 rfl) ?_
  refine lv_aload_n hx hb dX11_digs_21 rfl (lv_at hl 0 rfl) ?_
  obtain ⟨q19, hq19, hm⟩ := hm
  have Tq19 : TY S_12 q19 7 := hw.wf.ref (k := 11) (j := 1) Ta0 (by decide) (by decide) hq19
  refine pg_rb (k := 11) (j := 1) (f := 1101) hx hb hown hU iu11 hw Ta0 (by decide) rfl (hU _ tw364) rfl hq19 dX11_digs_22 ?_
  obtain ⟨q20, hq20, hm⟩ := hm
  have Tq20 : TY S_12 q20 8 := hw.wf.ref (k := 7) (j := 1) Tq19 (by decide) (by decide) hq20
  refine pgN_rb (k := 7) (j := 1) (f := 701) hx hb hown hU iu7 hw Tq19 (by decide) rfl 59 rfl rfl hq20 dX11_digs_25 ?_
  obtain ⟨q21, hq21, hm⟩ := hm
  have Tq21 : TY S_12 q21 9 := hw.wf.ref (k := 8) (j := 2) Tq20 (by decide) (by decide) hq21
  refine pgN_rb (k := 8) (j := 2) (f := 802) hx hb hown hU iu8 hw Tq20 (by decide) rfl 47 rfl rfl hq21 dX11_digs_28 ?_
  refine lv_iload_n hx hb dX11_digs_31 rfl (lv_at hl 1 rfl) ?_
  refine lv_iconst (v := 0) hx hb dX11_digs_32 (by decide) ?_
  obtain ⟨r24, S_22, hq23, hm⟩ := hm
  refine pw_ci (va_runVN (As := [.int x1, .int 0]) (rest := [.int x2, .ref q18]) ⟨hx, hb, hml, hown, hU⟩ (c_X9_at l C X n S_12 hw.wf _ q21 x1 0 (Tq21) r24 S_22 hq23) ⟨va_cnB (host := "WickNights") 2 hU (pq_g1 tc_X9_at) rfl rfl rfl (hw.nw 157 rfl) (hU _ tw5) cd_X9_at.2 ⟨Nat.le_of_ble_eq_true rfl, Nat.le_of_ble_eq_true rfl⟩, hU _ tw719, hU _ ts32⟩ (pw_preV hw Tq21 (by decide) rfl) rfl rfl hl.1 rfl (lv_room (Nat.le_of_ble_eq_true rfl)) dX11_digs_33 ⟨by show _ ≤ mc; omega, by show _ ≤ ms; omega⟩) hw (fun H locs hw hx25 => ?_)
  have Tq18 : TY S_22 q18 7 := ty_ext hx25 Tq18
  have Ta0 : TY S_22 a0 11 := ty_ext hx25 Ta0
  have hE : Ext S0 S_22 := Ext.tr hE hx25
  refine lv_aload_n hx hb dX11_digs_36 rfl (lv_at hl 0 rfl) ?_
  obtain ⟨q26, hq26, hm⟩ := hm
  have Tq26 : TY S_22 q26 7 := hw.wf.ref (k := 11) (j := 1) Ta0 (by decide) (by decide) hq26
  refine pg_rb (k := 11) (j := 1) (f := 1101) hx hb hown hU iu11 hw Ta0 (by decide) rfl (hU _ tw364) rfl hq26 dX11_digs_37 ?_
  obtain ⟨q27, hq27, hm⟩ := hm
  have Tq27 : TY S_22 q27 8 := hw.wf.ref (k := 7) (j := 1) Tq26 (by decide) (by decide) hq27
  refine pgN_rb (k := 7) (j := 1) (f := 701) hx hb hown hU iu7 hw Tq26 (by decide) rfl 59 rfl rfl hq27 dX11_digs_40 ?_
  refine pgN_i (k := 8) (j := 3) (f := 803) hx hb hown hU iu8 hw Tq27 (by decide) rfl 50 rfl rfl dX11_digs_43 ?_
  obtain ⟨r30, S_28, hq29, hm⟩ := hm
  refine pw_ci (va_runVN (As := [.int x2, .int r24, .int (pI S_22 803 q27)]) (rest := []) ⟨hx, hb, hml, hown, hU⟩ (c_X7_comingOut l C X n S_22 hw.wf _ q18 x2 r24 (pI S_22 803 q27) (Tq18) r30 S_28 hq29) ⟨va_cnB (host := "WickNights") 3 hU (pq_g1 tc_X7_comingOut) rfl rfl rfl (hw.nw 161 rfl) (hU _ tw3) cd_X7_comingOut.2 ⟨Nat.le_of_ble_eq_true rfl, Nat.le_of_ble_eq_true rfl⟩, hU _ tw927, hU _ ts66⟩ (pw_preV hw Tq18 (by decide) rfl) rfl rfl hl.1 rfl (lv_room (Nat.le_of_ble_eq_true rfl)) dX11_digs_46 ⟨by show _ ≤ mc; omega, by show _ ≤ ms; omega⟩) hw (fun H locs hw hx31 => ?_)
  have Ta0 : TY S_28 a0 11 := ty_ext hx31 Ta0
  have hE : Ext S0 S_28 := Ext.tr hE hx31
  refine vx_ret ?_
  exact pw_wiret hx hb hr rfl hlk hw hE hm (by omega) (by omega) dX11_digs_49
abbrev rw_X11_can (mc ms : Nat) : Room := { frames := 8, cells := mc, slots := ms, locals := 131 }
def wp_X11_can (n : Nat) (a0 : Nat) (x1 : Int32) (S0 : pq_S) (mc ms : Nat) (E : (Nat → pq_S → Prop)) (Q : (Int32 → pq_S → Prop)) : Prop := ∃ c2 s3 : Nat, c2 ≤ mc ∧ s3 ≤ ms ∧ wp_X11_needWant n a0 x1 S0 c2 s3 E (fun S_1 => ∃ q7 : Nat, (pR S_1 1101 a0) = some q7 ∧ (∃ r10 S_8, m_X7_isSaleable n q7 x1 S_1 = some (r10, S_8) ∧ (Q r10 S_8)))
theorem tc_X11_can : Cond.code yX11_can cX11_can 2 (some .boolean) ∈ pq_U := tw1077
theorem cd_X11_can : yX11_can.cls = RX11 ∧ yX11_can.cls ≠ "java/lang/invoke/MethodHandle" ∧ yX11_can.cls ≠ "java/lang/invoke/VarHandle" ∧ (parseMethodDescriptor yX11_can.desc).map (fun d => d.parameters.length) = some 1 := by decide +kernel
set_option maxHeartbeats 4000000 in
set_option maxRecDepth 100000 in
theorem cw_X11_can (l : Launch) (C : pq_C) (X : va_W) (n : Nat) (S0 : pq_S) (hF : WF S0) (sz : Nat) (a0 : Nat) (x1 : Int32) (Ta0 : TY S0 a0 11) (mc ms : Nat) (hst : l.stackTraces = false) (E : (Nat → pq_S → Prop)) (Q : (Int32 → pq_S → Prop)) (hm : wp_X11_can n a0 x1 S0 mc ms E Q) : vx_Met l yX11_can (.code yX11_can cX11_can 2 (some .boolean) :: pq_U) (rw_X11_can mc ms) (va_Pc [.ref a0, .int x1] (CPre C X S0 sz)) (QwZ C X S0 sz Q) (XcP C X S0 sz E) mc ms (pq_F C X S0 sz) := by
  refine vx_ofW (cc := cX11_can) (maxL := 2) (ret := (some .boolean)) (by decide) rfl ?_
  intro p e s m args below meth c s₁ B hml hno hv
  obtain ⟨rfl, hv⟩ := hv
  have hsz := hv.1
  subst hsz
  have hw := pw_entry hF hv
  have hts := atoms_spec (ws := .code yX11_can cX11_can 2 (some .boolean) :: pq_U) B.pre
  have hU : ∀ w ∈ pq_U, w.before _ s = true := fun w h => hts w (List.mem_cons_of_mem _ h)
  have hx := B.exec
  have hb := B.bytes
  have hr := B.returns
  have hown : s.vm.findClass RX11 = some m.cls := findClass_of_methodNamed B.named
  have hlk := B.notSynchronized
  have hl := lv_entry ([.ref a0, .int x1]) (n := 2) (Nat.le_of_ble_eq_true rfl)
  rw [lg_entry_eq]
  generalize (lg_sl ([.ref a0, .int x1]) ++ List.replicate (2 - (lg_sl ([.ref a0, .int x1])).length) Slot.unset).toArray = ls at hl ⊢
  have hl : lv_has ls 2 [(0, .ref a0), (1, .int x1)] := hl
  have hE : Ext S0 S0 := Ext.rf _
  have cx : Cx p s m _ meth c cX11_can 2 RX11 (some .boolean) := ⟨hx, hb, hml, hown, hU, hr, hlk⟩
  have hcc : 0 + mc ≤ mc := by omega
  have hss : 0 + ms ≤ ms := by omega
  rw [wp_X11_can] at hm
  refine lv_aload_n hx hb dX11_can_0 rfl (lv_at hl 0 rfl) ?_
  refine lv_iload_n hx hb dX11_can_1 rfl (lv_at hl 1 rfl) ?_
  obtain ⟨c2, s3, hb4, hb5, hm⟩ := hm
  refine px_v (vx_runV (As := [.int x1]) (rest := []) ⟨hx, hb, hml, hown, hU⟩ (cw_X11_needWant l C X n S0 hw.wf _ a0 x1 (Ta0) c2 s3 hst E _ hm) (cwV 1 hU (pq_gV tw1039 tw1041 ts81 tw1 tc_X11_needWant) rfl rfl rfl cd_X11_needWant ⟨Nat.le_of_ble_eq_true rfl, Nat.le_of_ble_eq_true rfl⟩) (pw_preV hw Ta0 (by decide) rfl) rfl rfl hl.1 rfl (lv_room (Nat.le_of_ble_eq_true rfl)) dX11_can_2 ⟨by show _ ≤ mc; omega, by show _ ≤ ms; omega⟩) hw hE hno hlk (by omega) (by omega) (fun S_1 H locs hm hw hx6 => ?_)
  have Ta0 : TY S_1 a0 11 := ty_ext hx6 Ta0
  have hE : Ext S0 S_1 := Ext.tr hE hx6
  refine W.widen (k := c2) (n := s3) (by omega) (by omega) ?_
  have hcc : c2 + (mc - (c2)) ≤ mc := by omega
  have hss : s3 + (ms - (s3)) ≤ ms := by omega
  refine lv_aload_n hx hb dX11_can_5 rfl (lv_at hl 0 rfl) ?_
  obtain ⟨q7, hq7, hm⟩ := hm
  have Tq7 : TY S_1 q7 7 := hw.wf.ref (k := 11) (j := 1) Ta0 (by decide) (by decide) hq7
  refine pg_rb (k := 11) (j := 1) (f := 1101) hx hb hown hU iu11 hw Ta0 (by decide) rfl (hU _ tw364) rfl hq7 dX11_can_6 ?_
  refine lv_iload_n hx hb dX11_can_9 rfl (lv_at hl 1 rfl) ?_
  obtain ⟨r10, S_8, hq9, hm⟩ := hm
  refine pw_cz (va_runVN (As := [.int x1]) (rest := []) ⟨hx, hb, hml, hown, hU⟩ (c_X7_isSaleable l C X n S_1 hw.wf _ q7 x1 (Tq7) r10 S_8 hq9) ⟨va_cnB (host := "WickNights") 1 hU (pq_g1 tc_X7_isSaleable) rfl rfl rfl (hw.nw 162 rfl) (hU _ tw3) cd_X7_isSaleable.2 ⟨Nat.le_of_ble_eq_true rfl, Nat.le_of_ble_eq_true rfl⟩, hU _ tw906, hU _ ts61⟩ (pw_preV hw Tq7 (by decide) rfl) rfl rfl hl.1 rfl (lv_room (Nat.le_of_ble_eq_true rfl)) dX11_can_10 ⟨by show _ ≤ mc; omega, by show _ ≤ ms; omega⟩) hw (fun H locs hw hx11 hz12 => ?_)
  have Ta0 : TY S_8 a0 11 := ty_ext hx11 Ta0
  have hE : Ext S0 S_8 := Ext.tr hE hx11
  refine vx_ret ?_
  exact pw_wzret hx hb hr hz12 hlk hw hE hm (by omega) (by omega) dX11_can_13
abbrev rw_X11_sales (mc ms : Nat) : Room := { frames := 69, cells := mc, slots := ms, locals := 1913 }
def wp_X11_sales (n : Nat) (a0 : Nat) (x1 : Int32) (S0 : pq_S) (mc ms : Nat) (E : (Nat → pq_S → Prop)) (Q : (Int32 → pq_S → Prop)) : Prop := ∃ r3 S_1, m_X11_isWithin n x1 0 1 S0 = some (r3, S_1) ∧ (∃ c7 s8 : Nat, c7 ≤ mc ∧ s8 ≤ ms ∧ wp_X11_need n a0 r3 S_1 c7 s8 E (fun S_6 => if x1 = 0 then ∃ q18 : Nat, (pR S_6 1102 a0) = some q18 ∧ (∃ r21 S_19, m_X3_bestWorth n q18 (-1) 0 S_6 = some (r21, S_19) ∧ (Q r21 S_19)) else ∃ q13 : Nat, (pR S_6 1102 a0) = some q13 ∧ (∃ r16 S_14, m_X3_bestBits n q13 S_6 = some (r16, S_14) ∧ (Q r16 S_14))))
theorem tc_X11_sales : Cond.code yX11_sales cX11_sales 2 (some .int) ∈ pq_U := tw1085
theorem cd_X11_sales : yX11_sales.cls = RX11 ∧ yX11_sales.cls ≠ "java/lang/invoke/MethodHandle" ∧ yX11_sales.cls ≠ "java/lang/invoke/VarHandle" ∧ (parseMethodDescriptor yX11_sales.desc).map (fun d => d.parameters.length) = some 1 := by decide +kernel
set_option maxHeartbeats 4000000 in
set_option maxRecDepth 100000 in
theorem cw_X11_sales (l : Launch) (C : pq_C) (X : va_W) (n : Nat) (S0 : pq_S) (hF : WF S0) (sz : Nat) (a0 : Nat) (x1 : Int32) (Ta0 : TY S0 a0 11) (mc ms : Nat) (hst : l.stackTraces = false) (E : (Nat → pq_S → Prop)) (Q : (Int32 → pq_S → Prop)) (hm : wp_X11_sales n a0 x1 S0 mc ms E Q) : vx_Met l yX11_sales (.code yX11_sales cX11_sales 2 (some .int) :: pq_U) (rw_X11_sales mc ms) (va_Pc [.ref a0, .int x1] (CPre C X S0 sz)) (QwI C X S0 sz Q) (XcP C X S0 sz E) mc ms (pq_F C X S0 sz) := by
  refine vx_ofW (cc := cX11_sales) (maxL := 2) (ret := (some .int)) (by decide) rfl ?_
  intro p e s m args below meth c s₁ B hml hno hv
  obtain ⟨rfl, hv⟩ := hv
  have hsz := hv.1
  subst hsz
  have hw := pw_entry hF hv
  have hts := atoms_spec (ws := .code yX11_sales cX11_sales 2 (some .int) :: pq_U) B.pre
  have hU : ∀ w ∈ pq_U, w.before _ s = true := fun w h => hts w (List.mem_cons_of_mem _ h)
  have hx := B.exec
  have hb := B.bytes
  have hr := B.returns
  have hown : s.vm.findClass RX11 = some m.cls := findClass_of_methodNamed B.named
  have hlk := B.notSynchronized
  have hl := lv_entry ([.ref a0, .int x1]) (n := 2) (Nat.le_of_ble_eq_true rfl)
  rw [lg_entry_eq]
  generalize (lg_sl ([.ref a0, .int x1]) ++ List.replicate (2 - (lg_sl ([.ref a0, .int x1])).length) Slot.unset).toArray = ls at hl ⊢
  have hl : lv_has ls 2 [(0, .ref a0), (1, .int x1)] := hl
  have hE : Ext S0 S0 := Ext.rf _
  have cx : Cx p s m _ meth c cX11_sales 2 RX11 (some .int) := ⟨hx, hb, hml, hown, hU, hr, hlk⟩
  have hcc : 0 + mc ≤ mc := by omega
  have hss : 0 + ms ≤ ms := by omega
  rw [wp_X11_sales] at hm
  refine lv_aload_n hx hb dX11_sales_0 rfl (lv_at hl 0 rfl) ?_
  refine lv_iload_n hx hb dX11_sales_1 rfl (lv_at hl 1 rfl) ?_
  refine lv_iconst (v := 0) hx hb dX11_sales_2 (by decide) ?_
  refine lv_iconst (v := 1) hx hb dX11_sales_3 (by decide) ?_
  obtain ⟨r3, S_1, hq2, hm⟩ := hm
  refine pw_cz (va_runS (As := [.int x1, .int 0, .int 1]) (rest := [.ref a0]) ⟨hx, hb, hml, hown, hU⟩ (c_X11_isWithin l C X n S0 hw.wf _ x1 0 1  r3 S_1 hq2) ⟨callB_of 3 hU (pq_g1 tc_X11_isWithin) rfl rfl rfl (hU _ tw1) (hU _ tw453) cd_X11_isWithin.2 ⟨Nat.le_of_ble_eq_true rfl, Nat.le_of_ble_eq_true rfl⟩, hU _ tw454⟩ (pw_preS hw) rfl rfl hl.1 rfl (lv_room (Nat.le_of_ble_eq_true rfl)) dX11_sales_4 ⟨by show _ ≤ mc; omega, by show _ ≤ ms; omega⟩) hw (fun H locs hw hx4 hz5 => ?_)
  have Ta0 : TY S_1 a0 11 := ty_ext hx4 Ta0
  have hE : Ext S0 S_1 := Ext.tr hE hx4
  obtain ⟨c7, s8, hb9, hb10, hm⟩ := hm
  refine px_v (vx_runV (As := [.int r3]) (rest := []) ⟨hx, hb, hml, hown, hU⟩ (cw_X11_need l C X n S_1 hw.wf _ a0 r3 (Ta0) c7 s8 hst E _ hm) (cwV 1 hU (pq_gV tw490 tw492 ts7 tw1 tc_X11_need) rfl rfl rfl cd_X11_need ⟨Nat.le_of_ble_eq_true rfl, Nat.le_of_ble_eq_true rfl⟩) (pw_preV hw Ta0 (by decide) rfl) rfl rfl hl.1 rfl (lv_room (Nat.le_of_ble_eq_true rfl)) dX11_sales_7 ⟨by show _ ≤ mc; omega, by show _ ≤ ms; omega⟩) hw hE hno hlk (by omega) (by omega) (fun S_6 H locs hm hw hx11 => ?_)
  have Ta0 : TY S_6 a0 11 := ty_ext hx11 Ta0
  have hE : Ext S0 S_6 := Ext.tr hE hx11
  refine W.widen (k := c7) (n := s8) (by omega) (by omega) ?_
  have hcc : c7 + (mc - (c7)) ≤ mc := by omega
  have hss : s8 + (ms - (s8)) ≤ ms := by omega
  refine lv_iload_n hx hb dX11_sales_10 rfl (lv_at hl 1 rfl) ?_
  refine lv_if_ne (tgt := 26) hx hb dX11_sales_11 (by decide) (fun h12 => ?_) (fun h12 => ?_)
  · rw [if_neg h12] at hm
    refine lv_aload_n hx hb dX11_sales_26 rfl (lv_at hl 0 rfl) ?_
    obtain ⟨q13, hq13, hm⟩ := hm
    have Tq13 : TY S_6 q13 3 := hw.wf.ref (k := 11) (j := 2) Ta0 (by decide) (by decide) hq13
    refine pg_rb (k := 11) (j := 2) (f := 1102) hx hb hown hU iu11 hw Ta0 (by decide) rfl (hU _ tw365) rfl hq13 dX11_sales_27 ?_
    obtain ⟨r16, S_14, hq15, hm⟩ := hm
    refine pw_ci (va_runVN (As := []) (rest := []) ⟨hx, hb, hml, hown, hU⟩ (c_X3_bestBits l C X n S_6 hw.wf _ q13 (Tq13) r16 S_14 hq15) ⟨va_cnB (host := "WickNights") 0 hU (pq_g1 tc_X3_bestBits) rfl rfl rfl (hw.nw 166 rfl) (hU _ tw8) cd_X3_bestBits.2 ⟨Nat.le_of_ble_eq_true rfl, Nat.le_of_ble_eq_true rfl⟩, hU _ tw1111, hU _ ts86⟩ (pw_preV hw Tq13 (by decide) rfl) rfl rfl hl.1 rfl (lv_room (Nat.le_of_ble_eq_true rfl)) dX11_sales_30 ⟨by show _ ≤ mc; omega, by show _ ≤ ms; omega⟩) hw (fun H locs hw hx17 => ?_)
    have Ta0 : TY S_14 a0 11 := ty_ext hx17 Ta0
    have hE : Ext S0 S_14 := Ext.tr hE hx17
    refine vx_ret ?_
    exact pw_wiret hx hb hr rfl hlk hw hE hm (by omega) (by omega) dX11_sales_33
  · rw [if_pos h12] at hm
    refine lv_aload_n hx hb dX11_sales_14 rfl (lv_at hl 0 rfl) ?_
    obtain ⟨q18, hq18, hm⟩ := hm
    have Tq18 : TY S_6 q18 3 := hw.wf.ref (k := 11) (j := 2) Ta0 (by decide) (by decide) hq18
    refine pg_rb (k := 11) (j := 2) (f := 1102) hx hb hown hU iu11 hw Ta0 (by decide) rfl (hU _ tw365) rfl hq18 dX11_sales_15 ?_
    refine lv_iconst (v := (-1)) hx hb dX11_sales_18 (by decide) ?_
    refine lv_iconst (v := 0) hx hb dX11_sales_19 (by decide) ?_
    obtain ⟨r21, S_19, hq20, hm⟩ := hm
    refine pw_ci (va_runVN (As := [.int (-1), .int 0]) (rest := []) ⟨hx, hb, hml, hown, hU⟩ (c_X3_bestWorth l C X n S_6 hw.wf _ q18 (-1) 0 (Tq18) r21 S_19 hq20) ⟨va_cnB (host := "WickNights") 2 hU (pq_g1 tc_X3_bestWorth) rfl rfl rfl (hw.nw 163 rfl) (hU _ tw8) cd_X3_bestWorth.2 ⟨Nat.le_of_ble_eq_true rfl, Nat.le_of_ble_eq_true rfl⟩, hU _ tw1088, hU _ ts83⟩ (pw_preV hw Tq18 (by decide) rfl) rfl rfl hl.1 rfl (lv_room (Nat.le_of_ble_eq_true rfl)) dX11_sales_20 ⟨by show _ ≤ mc; omega, by show _ ≤ ms; omega⟩) hw (fun H locs hw hx22 => ?_)
    have Ta0 : TY S_19 a0 11 := ty_ext hx22 Ta0
    have hE : Ext S0 S_19 := Ext.tr hE hx22
    refine lv_goto (tgt := 33) hx hb dX11_sales_23 (by decide) ?_
    refine vx_ret ?_
    exact pw_wiret hx hb hr rfl hlk hw hE hm (by omega) (by omega) dX11_sales_33
abbrev rw_X11_more (mc ms : Nat) : Room := { frames := 69, cells := mc, slots := ms, locals := 1913 }
def wp_X11_more (n : Nat) (a0 : Nat) (x1 : Int32) (x2 : Int32) (S0 : pq_S) (mc ms : Nat) (E : (Nat → pq_S → Prop)) (Q : (Int32 → pq_S → Prop)) : Prop := ∃ c2 s3 : Nat, c2 ≤ mc ∧ s3 ≤ ms ∧ wp_X11_needPlace n a0 x1 S0 c2 s3 E (fun S_1 => ∃ r9 S_7, m_X11_isWithin n x2 0 99 S_1 = some (r9, S_7) ∧ (∃ c13 s14 : Nat, c13 ≤ (mc - (c2)) ∧ s14 ≤ (ms - (s3)) ∧ wp_X11_need n a0 r9 S_7 c13 s14 E (fun S_12 => ∃ q18 : Nat, (pR S_12 1102 a0) = some q18 ∧ (∃ r21 S_19, m_X3_bestWorth n q18 x1 x2 S_12 = some (r21, S_19) ∧ (Q r21 S_19)))))
theorem tc_X11_more : Cond.code yX11_more cX11_more 3 (some .int) ∈ pq_U := tw1122
theorem cd_X11_more : yX11_more.cls = RX11 ∧ yX11_more.cls ≠ "java/lang/invoke/MethodHandle" ∧ yX11_more.cls ≠ "java/lang/invoke/VarHandle" ∧ (parseMethodDescriptor yX11_more.desc).map (fun d => d.parameters.length) = some 2 := by decide +kernel
set_option maxHeartbeats 4000000 in
set_option maxRecDepth 100000 in
theorem cw_X11_more (l : Launch) (C : pq_C) (X : va_W) (n : Nat) (S0 : pq_S) (hF : WF S0) (sz : Nat) (a0 : Nat) (x1 : Int32) (x2 : Int32) (Ta0 : TY S0 a0 11) (mc ms : Nat) (hst : l.stackTraces = false) (E : (Nat → pq_S → Prop)) (Q : (Int32 → pq_S → Prop)) (hm : wp_X11_more n a0 x1 x2 S0 mc ms E Q) : vx_Met l yX11_more (.code yX11_more cX11_more 3 (some .int) :: pq_U) (rw_X11_more mc ms) (va_Pc [.ref a0, .int x1, .int x2] (CPre C X S0 sz)) (QwI C X S0 sz Q) (XcP C X S0 sz E) mc ms (pq_F C X S0 sz) := by
  refine vx_ofW (cc := cX11_more) (maxL := 3) (ret := (some .int)) (by decide) rfl ?_
  intro p e s m args below meth c s₁ B hml hno hv
  obtain ⟨rfl, hv⟩ := hv
  have hsz := hv.1
  subst hsz
  have hw := pw_entry hF hv
  have hts := atoms_spec (ws := .code yX11_more cX11_more 3 (some .int) :: pq_U) B.pre
  have hU : ∀ w ∈ pq_U, w.before _ s = true := fun w h => hts w (List.mem_cons_of_mem _ h)
  have hx := B.exec
  have hb := B.bytes
  have hr := B.returns
  have hown : s.vm.findClass RX11 = some m.cls := findClass_of_methodNamed B.named
  have hlk := B.notSynchronized
  have hl := lv_entry ([.ref a0, .int x1, .int x2]) (n := 3) (Nat.le_of_ble_eq_true rfl)
  rw [lg_entry_eq]
  generalize (lg_sl ([.ref a0, .int x1, .int x2]) ++ List.replicate (3 - (lg_sl ([.ref a0, .int x1, .int x2])).length) Slot.unset).toArray = ls at hl ⊢
  have hl : lv_has ls 3 [(0, .ref a0), (1, .int x1), (2, .int x2)] := hl
  have hE : Ext S0 S0 := Ext.rf _
  have cx : Cx p s m _ meth c cX11_more 3 RX11 (some .int) := ⟨hx, hb, hml, hown, hU, hr, hlk⟩
  have hcc : 0 + mc ≤ mc := by omega
  have hss : 0 + ms ≤ ms := by omega
  rw [wp_X11_more] at hm
  refine lv_aload_n hx hb dX11_more_0 rfl (lv_at hl 0 rfl) ?_
  refine lv_iload_n hx hb dX11_more_1 rfl (lv_at hl 1 rfl) ?_
  obtain ⟨c2, s3, hb4, hb5, hm⟩ := hm
  refine px_v (vx_runV (As := [.int x1]) (rest := []) ⟨hx, hb, hml, hown, hU⟩ (cw_X11_needPlace l C X n S0 hw.wf _ a0 x1 (Ta0) c2 s3 hst E _ hm) (cwV 1 hU (pq_gV tw996 tw998 ts76 tw1 tc_X11_needPlace) rfl rfl rfl cd_X11_needPlace ⟨Nat.le_of_ble_eq_true rfl, Nat.le_of_ble_eq_true rfl⟩) (pw_preV hw Ta0 (by decide) rfl) rfl rfl hl.1 rfl (lv_room (Nat.le_of_ble_eq_true rfl)) dX11_more_2 ⟨by show _ ≤ mc; omega, by show _ ≤ ms; omega⟩) hw hE hno hlk (by omega) (by omega) (fun S_1 H locs hm hw hx6 => ?_)
  have Ta0 : TY S_1 a0 11 := ty_ext hx6 Ta0
  have hE : Ext S0 S_1 := Ext.tr hE hx6
  refine W.widen (k := c2) (n := s3) (by omega) (by omega) ?_
  have hcc : c2 + (mc - (c2)) ≤ mc := by omega
  have hss : s3 + (ms - (s3)) ≤ ms := by omega
  refine lv_aload_n hx hb dX11_more_5 rfl (lv_at hl 0 rfl) ?_
  refine lv_iload_n hx hb dX11_more_6 rfl (lv_at hl 2 rfl) ?_
  refine lv_iconst (v := 0) hx hb dX11_more_7 (by decide) ?_
  refine lv_bipush (v := 99) hx hb dX11_more_8 (by decide) ?_
  obtain ⟨r9, S_7, hq8, hm⟩ := hm
  refine pw_cz (va_runS (As := [.int x2, .int 0, .int 99]) (rest := [.ref a0]) ⟨hx, hb, hml, hown, hU⟩ (c_X11_isWithin l C X n S_1 hw.wf _ x2 0 99  r9 S_7 hq8) ⟨callB_of 3 hU (pq_g1 tc_X11_isWithin) rfl rfl rfl (hU _ tw1) (hU _ tw453) cd_X11_isWithin.2 ⟨Nat.le_of_ble_eq_true rfl, Nat.le_of_ble_eq_true rfl⟩, hU _ tw454⟩ (pw_preS hw) rfl rfl hl.1 rfl (lv_room (Nat.le_of_ble_eq_true rfl)) dX11_more_10 ⟨by show _ ≤ mc; omega, by show _ ≤ ms; omega⟩) hw (fun H locs hw hx10 hz11 => ?_)
  have Ta0 : TY S_7 a0 11 := ty_ext hx10 Ta0
  have hE : Ext S0 S_7 := Ext.tr hE hx10
  obtain ⟨c13, s14, hb15, hb16, hm⟩ := hm
  refine px_v (vx_runV (As := [.int r9]) (rest := []) ⟨hx, hb, hml, hown, hU⟩ (cw_X11_need l C X n S_7 hw.wf _ a0 r9 (Ta0) c13 s14 hst E _ hm) (cwV 1 hU (pq_gV tw490 tw492 ts7 tw1 tc_X11_need) rfl rfl rfl cd_X11_need ⟨Nat.le_of_ble_eq_true rfl, Nat.le_of_ble_eq_true rfl⟩) (pw_preV hw Ta0 (by decide) rfl) rfl rfl hl.1 rfl (lv_room (Nat.le_of_ble_eq_true rfl)) dX11_more_13 ⟨by show _ ≤ mc; omega, by show _ ≤ ms; omega⟩) hw hE hno hlk (by omega) (by omega) (fun S_12 H locs hm hw hx17 => ?_)
  have Ta0 : TY S_12 a0 11 := ty_ext hx17 Ta0
  have hE : Ext S0 S_12 := Ext.tr hE hx17
  refine W.widen (k := c2 + c13) (n := s3 + s14) (by omega) (by omega) ?_
  have hcc : c2 + c13 + (mc - (c2 + c13)) ≤ mc := by omega
  have hss : s3 + s14 + (ms - (s3 + s14)) ≤ ms := by omega
  refine lv_aload_n hx hb dX11_more_16 rfl (lv_at hl 0 rfl) ?_
  obtain ⟨q18, hq18, hm⟩ := hm
  have Tq18 : TY S_12 q18 3 := hw.wf.ref (k := 11) (j := 2) Ta0 (by decide) (by decide) hq18
  refine pg_rb (k := 11) (j := 2) (f := 1102) hx hb hown hU iu11 hw Ta0 (by decide) rfl (hU _ tw365) rfl hq18 dX11_more_17 ?_
  refine lv_iload_n hx hb dX11_more_20 rfl (lv_at hl 1 rfl) ?_
  refine lv_iload_n hx hb dX11_more_21 rfl (lv_at hl 2 rfl) ?_
  obtain ⟨r21, S_19, hq20, hm⟩ := hm
  refine pw_ci (va_runVN (As := [.int x1, .int x2]) (rest := []) ⟨hx, hb, hml, hown, hU⟩ (c_X3_bestWorth l C X n S_12 hw.wf _ q18 x1 x2 (Tq18) r21 S_19 hq20) ⟨va_cnB (host := "WickNights") 2 hU (pq_g1 tc_X3_bestWorth) rfl rfl rfl (hw.nw 163 rfl) (hU _ tw8) cd_X3_bestWorth.2 ⟨Nat.le_of_ble_eq_true rfl, Nat.le_of_ble_eq_true rfl⟩, hU _ tw1088, hU _ ts83⟩ (pw_preV hw Tq18 (by decide) rfl) rfl rfl hl.1 rfl (lv_room (Nat.le_of_ble_eq_true rfl)) dX11_more_22 ⟨by show _ ≤ mc; omega, by show _ ≤ ms; omega⟩) hw (fun H locs hw hx22 => ?_)
  have Ta0 : TY S_19 a0 11 := ty_ext hx22 Ta0
  have hE : Ext S0 S_19 := Ext.tr hE hx22
  refine vx_ret ?_
  exact pw_wiret hx hb hr rfl hlk hw hE hm (by omega) (by omega) dX11_more_25
abbrev rw_X11_brings (mc ms : Nat) : Room := { frames := 70, cells := mc, slots := ms, locals := 1942 }
def pb_X11_brings_30 (n : Nat) (a0 : Nat) (x1 : Int32) (x2 : Int32) (x3 : Int32) (b0 : Nat) (z1 : Int32) (S : pq_S) (bc bs : Nat) (E : (Nat → pq_S → Prop)) (Q : (Int32 → pq_S → Prop)) : Prop := ∃ c21 s22 : Nat, c21 ≤ bc ∧ s22 ≤ bs ∧ wp_X11_need n b0 z1 S c21 s22 E (fun S_20 => ∃ q26 : Nat, (pR S_20 1102 a0) = some q26 ∧ (∃ S_27 : pq_S, m_X3_findBestCarrying n q26 x1 x2 S_20 = some S_27 ∧ (if x3 = 0 then ∃ q32 : Nat, (pR S_27 1102 a0) = some q32 ∧ (Q (pI S_27 304 q32) S_27) else ∃ q31 : Nat, (pR S_27 1102 a0) = some q31 ∧ (Q (pI S_27 305 q31) S_27))))
set_option maxHeartbeats 4000000 in
set_option maxRecDepth 100000 in
theorem wpb_X11_brings_30 {p : Program} {l : Launch} {e : Env} {s : State} {m : MethodId} {args : Array Value} {below : List Frame} {meth : Method} {c : Code} (cx : Cx p s m args meth c cX11_brings 4 RX11 (some .int)) (hno : ∀ x ∈ c.exceptionTable.toList, False) (C : pq_C) (X : va_W) (S0 : pq_S) (n : Nat) (hst : l.stackTraces = false) (E : (Nat → pq_S → Prop)) (Q : (Int32 → pq_S → Prop)) (mc ms : Nat) : ∀ (a0 : Nat) (x1 : Int32) (x2 : Int32) (x3 : Int32) (b0 : Nat) (z1 : Int32) (S : pq_S) (H : Heap) (locs : List Loc) (ls : Array Slot) (cells slots bc bs : Nat), cells + bc ≤ mc → slots + bs ≤ ms → PW C X S (pq_F C X S0 s.heap.size) H locs s → Ext S0 S → TY S a0 11 → TY S b0 11 → lv_has ls 4 [(0, .ref a0), (1, .int x1), (2, .int x2), (3, .int x3)] → pb_X11_brings_30 n a0 x1 x2 x3 b0 z1 S bc bs E Q → W p l e (rw_X11_brings mc ms) s m args below meth c H locs cells slots (vx_MQ below (QwI C X S0 s.heap.size Q) (XcP C X S0 s.heap.size E) args s mc ms (pq_F C X S0 s.heap.size)) (F0 m 30 ls [.int z1, .ref b0]) := by
  obtain ⟨hx, hb, hml, hown, hU, hr, hlk⟩ := id cx
  intro a0 x1 x2 x3 b0 z1 S H locs ls cells slots bc bs hcc hss hw hE Ta0 Tb0 hl hm
  rw [pb_X11_brings_30] at hm
  obtain ⟨c21, s22, hb23, hb24, hm⟩ := hm
  refine px_v (vx_runV (As := [.int z1]) (rest := []) ⟨hx, hb, hml, hown, hU⟩ (cw_X11_need l C X n S hw.wf _ b0 z1 (Tb0) c21 s22 hst E _ hm) (cwV 1 hU (pq_gV tw490 tw492 ts7 tw1 tc_X11_need) rfl rfl rfl cd_X11_need ⟨Nat.le_of_ble_eq_true rfl, Nat.le_of_ble_eq_true rfl⟩) (pw_preV hw Tb0 (by decide) rfl) rfl rfl hl.1 rfl (lv_room (Nat.le_of_ble_eq_true rfl)) dX11_brings_30 ⟨by show _ ≤ mc; omega, by show _ ≤ ms; omega⟩) hw hE hno hlk (by omega) (by omega) (fun S_20 H locs hm hw hx25 => ?_)
  have Ta0 : TY S_20 a0 11 := ty_ext hx25 Ta0
  have hE : Ext S0 S_20 := Ext.tr hE hx25
  refine W.widen (k := cells + (c21)) (n := slots + (s22)) (by omega) (by omega) ?_
  have hcc : cells + (c21) + (bc - (c21)) ≤ mc := by omega
  have hss : slots + (s22) + (bs - (s22)) ≤ ms := by omega
  refine lv_aload_n hx hb dX11_brings_33 rfl (lv_at hl 0 rfl) ?_
  obtain ⟨q26, hq26, hm⟩ := hm
  have Tq26 : TY S_20 q26 3 := hw.wf.ref (k := 11) (j := 2) Ta0 (by decide) (by decide) hq26
  refine pg_rb (k := 11) (j := 2) (f := 1102) hx hb hown hU iu11 hw Ta0 (by decide) rfl (hU _ tw365) rfl hq26 dX11_brings_34 ?_
  refine lv_iload_n hx hb dX11_brings_37 rfl (lv_at hl 1 rfl) ?_
  refine lv_iload_n hx hb dX11_brings_38 rfl (lv_at hl 2 rfl) ?_
  obtain ⟨S_27, hq28, hm⟩ := hm
  refine pw_cv (va_runVN (As := [.int x1, .int x2]) (rest := []) ⟨hx, hb, hml, hown, hU⟩ (c_X3_findBestCarrying l C X n S_20 hw.wf _ q26 x1 x2 (Tq26) S_27 hq28) ⟨va_cnB (host := "WickNights") 2 hU (pq_g1 tc_X3_findBestCarrying) rfl rfl rfl (hw.nw 167 rfl) (hU _ tw8) cd_X3_findBestCarrying.2 ⟨Nat.le_of_ble_eq_true rfl, Nat.le_of_ble_eq_true rfl⟩, hU _ tw1132, hU _ ts87⟩ (pw_preV hw Tq26 (by decide) rfl) rfl rfl hl.1 rfl (lv_room (Nat.le_of_ble_eq_true rfl)) dX11_brings_39 ⟨by show _ ≤ mc; omega, by show _ ≤ ms; omega⟩) hw (fun H locs hw hx29 => ?_)
  have Ta0 : TY S_27 a0 11 := ty_ext hx29 Ta0
  have hE : Ext S0 S_27 := Ext.tr hE hx29
  refine lv_iload_n hx hb dX11_brings_42 rfl (lv_at hl 3 rfl) ?_
  refine lv_if_ne (tgt := 56) hx hb dX11_brings_43 (by decide) (fun h30 => ?_) (fun h30 => ?_)
  · rw [if_neg h30] at hm
    refine lv_aload_n hx hb dX11_brings_56 rfl (lv_at hl 0 rfl) ?_
    obtain ⟨q31, hq31, hm⟩ := hm
    have Tq31 : TY S_27 q31 3 := hw.wf.ref (k := 11) (j := 2) Ta0 (by decide) (by decide) hq31
    refine pg_rb (k := 11) (j := 2) (f := 1102) hx hb hown hU iu11 hw Ta0 (by decide) rfl (hU _ tw365) rfl hq31 dX11_brings_57 ?_
    refine pgN_i (k := 3) (j := 5) (f := 305) hx hb hown hU iu3 hw Tq31 (by decide) rfl 66 rfl rfl dX11_brings_60 ?_
    refine vx_ret ?_
    exact pw_wiret hx hb hr rfl hlk hw hE hm (by omega) (by omega) dX11_brings_63
  · rw [if_pos h30] at hm
    refine lv_aload_n hx hb dX11_brings_46 rfl (lv_at hl 0 rfl) ?_
    obtain ⟨q32, hq32, hm⟩ := hm
    have Tq32 : TY S_27 q32 3 := hw.wf.ref (k := 11) (j := 2) Ta0 (by decide) (by decide) hq32
    refine pg_rb (k := 11) (j := 2) (f := 1102) hx hb hown hU iu11 hw Ta0 (by decide) rfl (hU _ tw365) rfl hq32 dX11_brings_47 ?_
    refine pgN_i (k := 3) (j := 4) (f := 304) hx hb hown hU iu3 hw Tq32 (by decide) rfl 65 rfl rfl dX11_brings_50 ?_
    refine lv_goto (tgt := 63) hx hb dX11_brings_53 (by decide) ?_
    refine vx_ret ?_
    exact pw_wiret hx hb hr rfl hlk hw hE hm (by omega) (by omega) dX11_brings_63
def pb_X11_brings_29 (n : Nat) (a0 : Nat) (x1 : Int32) (x2 : Int32) (x3 : Int32) (b0 : Nat) (S : pq_S) (bc bs : Nat) (E : (Nat → pq_S → Prop)) (Q : (Int32 → pq_S → Prop)) : Prop := pb_X11_brings_30 n a0 x1 x2 x3 b0 0 S bc bs E Q
set_option maxHeartbeats 4000000 in
set_option maxRecDepth 100000 in
theorem wpb_X11_brings_29 {p : Program} {l : Launch} {e : Env} {s : State} {m : MethodId} {args : Array Value} {below : List Frame} {meth : Method} {c : Code} (cx : Cx p s m args meth c cX11_brings 4 RX11 (some .int)) (hno : ∀ x ∈ c.exceptionTable.toList, False) (C : pq_C) (X : va_W) (S0 : pq_S) (n : Nat) (hst : l.stackTraces = false) (E : (Nat → pq_S → Prop)) (Q : (Int32 → pq_S → Prop)) (mc ms : Nat) : ∀ (a0 : Nat) (x1 : Int32) (x2 : Int32) (x3 : Int32) (b0 : Nat) (S : pq_S) (H : Heap) (locs : List Loc) (ls : Array Slot) (cells slots bc bs : Nat), cells + bc ≤ mc → slots + bs ≤ ms → PW C X S (pq_F C X S0 s.heap.size) H locs s → Ext S0 S → TY S a0 11 → TY S b0 11 → lv_has ls 4 [(0, .ref a0), (1, .int x1), (2, .int x2), (3, .int x3)] → pb_X11_brings_29 n a0 x1 x2 x3 b0 S bc bs E Q → W p l e (rw_X11_brings mc ms) s m args below meth c H locs cells slots (vx_MQ below (QwI C X S0 s.heap.size Q) (XcP C X S0 s.heap.size E) args s mc ms (pq_F C X S0 s.heap.size)) (F0 m 29 ls [.ref b0]) := by
  obtain ⟨hx, hb, hml, hown, hU, hr, hlk⟩ := id cx
  intro a0 x1 x2 x3 b0 S H locs ls cells slots bc bs hcc hss hw hE Ta0 Tb0 hl hm
  rw [pb_X11_brings_29] at hm
  refine lv_iconst (v := 0) hx hb dX11_brings_29 (by decide) ?_
  exact wpb_X11_brings_30 cx hno C X S0 n hst E Q mc ms a0 x1 x2 x3 b0 0 S _ _ _ (cells) (slots) bc bs hcc hss hw hE Ta0 Tb0 (lv_sub hl [0, 1, 2, 3] rfl) hm
def wp_X11_brings (n : Nat) (a0 : Nat) (x1 : Int32) (x2 : Int32) (x3 : Int32) (S0 : pq_S) (mc ms : Nat) (E : (Nat → pq_S → Prop)) (Q : (Int32 → pq_S → Prop)) : Prop := ∃ c2 s3 : Nat, c2 ≤ mc ∧ s3 ≤ ms ∧ wp_X11_needPlace n a0 x1 S0 c2 s3 E (fun S_1 => ∃ c8 s9 : Nat, c8 ≤ (mc - (c2)) ∧ s9 ≤ (ms - (s3)) ∧ wp_X11_needPlace n a0 x2 S_1 c8 s9 E (fun S_7 => if x1 = x2 then pb_X11_brings_29 n a0 x1 x2 x3 a0 S_7 (mc - (c2 + c8)) (ms - (s3 + s9)) E Q else ∃ r16 S_14, m_X11_isWithin n x3 0 1 S_7 = some (r16, S_14) ∧ (if r16 = 0 then pb_X11_brings_29 n a0 x1 x2 x3 a0 S_14 (mc - (c2 + c8)) (ms - (s3 + s9)) E Q else pb_X11_brings_30 n a0 x1 x2 x3 a0 1 S_14 (mc - (c2 + c8)) (ms - (s3 + s9)) E Q)))
theorem tc_X11_brings : Cond.code yX11_brings cX11_brings 4 (some .int) ∈ pq_U := tw1129
theorem cd_X11_brings : yX11_brings.cls = RX11 ∧ yX11_brings.cls ≠ "java/lang/invoke/MethodHandle" ∧ yX11_brings.cls ≠ "java/lang/invoke/VarHandle" ∧ (parseMethodDescriptor yX11_brings.desc).map (fun d => d.parameters.length) = some 3 := by decide +kernel
set_option maxHeartbeats 4000000 in
set_option maxRecDepth 100000 in
theorem cw_X11_brings (l : Launch) (C : pq_C) (X : va_W) (n : Nat) (S0 : pq_S) (hF : WF S0) (sz : Nat) (a0 : Nat) (x1 : Int32) (x2 : Int32) (x3 : Int32) (Ta0 : TY S0 a0 11) (mc ms : Nat) (hst : l.stackTraces = false) (E : (Nat → pq_S → Prop)) (Q : (Int32 → pq_S → Prop)) (hm : wp_X11_brings n a0 x1 x2 x3 S0 mc ms E Q) : vx_Met l yX11_brings (.code yX11_brings cX11_brings 4 (some .int) :: pq_U) (rw_X11_brings mc ms) (va_Pc [.ref a0, .int x1, .int x2, .int x3] (CPre C X S0 sz)) (QwI C X S0 sz Q) (XcP C X S0 sz E) mc ms (pq_F C X S0 sz) := by
  refine vx_ofW (cc := cX11_brings) (maxL := 4) (ret := (some .int)) (by decide) rfl ?_
  intro p e s m args below meth c s₁ B hml hno hv
  obtain ⟨rfl, hv⟩ := hv
  have hsz := hv.1
  subst hsz
  have hw := pw_entry hF hv
  have hts := atoms_spec (ws := .code yX11_brings cX11_brings 4 (some .int) :: pq_U) B.pre
  have hU : ∀ w ∈ pq_U, w.before _ s = true := fun w h => hts w (List.mem_cons_of_mem _ h)
  have hx := B.exec
  have hb := B.bytes
  have hr := B.returns
  have hown : s.vm.findClass RX11 = some m.cls := findClass_of_methodNamed B.named
  have hlk := B.notSynchronized
  have hl := lv_entry ([.ref a0, .int x1, .int x2, .int x3]) (n := 4) (Nat.le_of_ble_eq_true rfl)
  rw [lg_entry_eq]
  generalize (lg_sl ([.ref a0, .int x1, .int x2, .int x3]) ++ List.replicate (4 - (lg_sl ([.ref a0, .int x1, .int x2, .int x3])).length) Slot.unset).toArray = ls at hl ⊢
  have hl : lv_has ls 4 [(0, .ref a0), (1, .int x1), (2, .int x2), (3, .int x3)] := hl
  have hE : Ext S0 S0 := Ext.rf _
  have cx : Cx p s m _ meth c cX11_brings 4 RX11 (some .int) := ⟨hx, hb, hml, hown, hU, hr, hlk⟩
  have hcc : 0 + mc ≤ mc := by omega
  have hss : 0 + ms ≤ ms := by omega
  rw [wp_X11_brings] at hm
  refine lv_aload_n hx hb dX11_brings_0 rfl (lv_at hl 0 rfl) ?_
  refine lv_iload_n hx hb dX11_brings_1 rfl (lv_at hl 1 rfl) ?_
  obtain ⟨c2, s3, hb4, hb5, hm⟩ := hm
  refine px_v (vx_runV (As := [.int x1]) (rest := []) ⟨hx, hb, hml, hown, hU⟩ (cw_X11_needPlace l C X n S0 hw.wf _ a0 x1 (Ta0) c2 s3 hst E _ hm) (cwV 1 hU (pq_gV tw996 tw998 ts76 tw1 tc_X11_needPlace) rfl rfl rfl cd_X11_needPlace ⟨Nat.le_of_ble_eq_true rfl, Nat.le_of_ble_eq_true rfl⟩) (pw_preV hw Ta0 (by decide) rfl) rfl rfl hl.1 rfl (lv_room (Nat.le_of_ble_eq_true rfl)) dX11_brings_2 ⟨by show _ ≤ mc; omega, by show _ ≤ ms; omega⟩) hw hE hno hlk (by omega) (by omega) (fun S_1 H locs hm hw hx6 => ?_)
  have Ta0 : TY S_1 a0 11 := ty_ext hx6 Ta0
  have hE : Ext S0 S_1 := Ext.tr hE hx6
  refine W.widen (k := c2) (n := s3) (by omega) (by omega) ?_
  have hcc : c2 + (mc - (c2)) ≤ mc := by omega
  have hss : s3 + (ms - (s3)) ≤ ms := by omega
  refine lv_aload_n hx hb dX11_brings_5 rfl (lv_at hl 0 rfl) ?_
  refine lv_iload_n hx hb dX11_brings_6 rfl (lv_at hl 2 rfl) ?_
  obtain ⟨c8, s9, hb10, hb11, hm⟩ := hm
  refine px_v (vx_runV (As := [.int x2]) (rest := []) ⟨hx, hb, hml, hown, hU⟩ (cw_X11_needPlace l C X n S_1 hw.wf _ a0 x2 (Ta0) c8 s9 hst E _ hm) (cwV 1 hU (pq_gV tw996 tw998 ts76 tw1 tc_X11_needPlace) rfl rfl rfl cd_X11_needPlace ⟨Nat.le_of_ble_eq_true rfl, Nat.le_of_ble_eq_true rfl⟩) (pw_preV hw Ta0 (by decide) rfl) rfl rfl hl.1 rfl (lv_room (Nat.le_of_ble_eq_true rfl)) dX11_brings_7 ⟨by show _ ≤ mc; omega, by show _ ≤ ms; omega⟩) hw hE hno hlk (by omega) (by omega) (fun S_7 H locs hm hw hx12 => ?_)
  have Ta0 : TY S_7 a0 11 := ty_ext hx12 Ta0
  have hE : Ext S0 S_7 := Ext.tr hE hx12
  refine W.widen (k := c2 + c8) (n := s3 + s9) (by omega) (by omega) ?_
  have hcc : c2 + c8 + (mc - (c2 + c8)) ≤ mc := by omega
  have hss : s3 + s9 + (ms - (s3 + s9)) ≤ ms := by omega
  refine lv_aload_n hx hb dX11_brings_10 rfl (lv_at hl 0 rfl) ?_
  refine lv_iload_n hx hb dX11_brings_11 rfl (lv_at hl 1 rfl) ?_
  refine lv_iload_n hx hb dX11_brings_12 rfl (lv_at hl 2 rfl) ?_
  refine lv_icmp_eq (tgt := 29) hx hb dX11_brings_13 (by decide) (fun h13 => ?_) (fun h13 => ?_)
  · rw [if_pos h13] at hm
    exact wpb_X11_brings_29 cx hno C X S0 n hst E Q mc ms a0 x1 x2 x3 a0 S_7 _ _ _ (c2 + c8) (s3 + s9) (mc - (c2 + c8)) (ms - (s3 + s9)) hcc hss hw hE Ta0 Ta0 (lv_sub hl [0, 1, 2, 3] rfl) hm
  · rw [if_neg h13] at hm
    refine lv_iload_n hx hb dX11_brings_16 rfl (lv_at hl 3 rfl) ?_
    refine lv_iconst (v := 0) hx hb dX11_brings_17 (by decide) ?_
    refine lv_iconst (v := 1) hx hb dX11_brings_18 (by decide) ?_
    obtain ⟨r16, S_14, hq15, hm⟩ := hm
    refine pw_cz (va_runS (As := [.int x3, .int 0, .int 1]) (rest := [.ref a0]) ⟨hx, hb, hml, hown, hU⟩ (c_X11_isWithin l C X n S_7 hw.wf _ x3 0 1  r16 S_14 hq15) ⟨callB_of 3 hU (pq_g1 tc_X11_isWithin) rfl rfl rfl (hU _ tw1) (hU _ tw453) cd_X11_isWithin.2 ⟨Nat.le_of_ble_eq_true rfl, Nat.le_of_ble_eq_true rfl⟩, hU _ tw454⟩ (pw_preS hw) rfl rfl hl.1 rfl (lv_room (Nat.le_of_ble_eq_true rfl)) dX11_brings_19 ⟨by show _ ≤ mc; omega, by show _ ≤ ms; omega⟩) hw (fun H locs hw hx17 hz18 => ?_)
    have Ta0 : TY S_14 a0 11 := ty_ext hx17 Ta0
    have hE : Ext S0 S_14 := Ext.tr hE hx17
    refine lv_if_eq (tgt := 29) hx hb dX11_brings_22 (by decide) (fun h19 => ?_) (fun h19 => ?_)
    · rw [if_pos h19] at hm
      exact wpb_X11_brings_29 cx hno C X S0 n hst E Q mc ms a0 x1 x2 x3 a0 S_14 _ _ _ (c2 + c8) (s3 + s9) (mc - (c2 + c8)) (ms - (s3 + s9)) hcc hss hw hE Ta0 Ta0 (lv_sub hl [0, 1, 2, 3] rfl) hm
    · rw [if_neg h19] at hm
      refine lv_iconst (v := 1) hx hb dX11_brings_25 (by decide) ?_
      refine lv_goto (tgt := 30) hx hb dX11_brings_26 (by decide) ?_
      exact wpb_X11_brings_30 cx hno C X S0 n hst E Q mc ms a0 x1 x2 x3 a0 1 S_14 _ _ _ (c2 + c8) (s3 + s9) (mc - (c2 + c8)) (ms - (s3 + s9)) hcc hss hw hE Ta0 Ta0 (lv_sub hl [0, 1, 2, 3] rfl) hm
abbrev rw_X11_price (mc ms : Nat) : Room := { frames := 8, cells := mc, slots := ms, locals := 131 }
def wp_X11_price (n : Nat) (a0 : Nat) (x1 : Int32) (S0 : pq_S) (mc ms : Nat) (E : (Nat → pq_S → Prop)) (Q : (Int32 → pq_S → Prop)) : Prop := ∃ c2 s3 : Nat, c2 ≤ mc ∧ s3 ≤ ms ∧ wp_X11_needPlace n a0 x1 S0 c2 s3 E (fun S_1 => ∃ q7 : Nat, (pR S_1 1102 a0) = some q7 ∧ (∃ r10 S_8, m_X3_clearingPrice n q7 x1 S_1 = some (r10, S_8) ∧ (Q r10 S_8)))
theorem tc_X11_price : Cond.code yX11_price cX11_price 2 (some .int) ∈ pq_U := tw1142
theorem cd_X11_price : yX11_price.cls = RX11 ∧ yX11_price.cls ≠ "java/lang/invoke/MethodHandle" ∧ yX11_price.cls ≠ "java/lang/invoke/VarHandle" ∧ (parseMethodDescriptor yX11_price.desc).map (fun d => d.parameters.length) = some 1 := by decide +kernel
set_option maxHeartbeats 4000000 in
set_option maxRecDepth 100000 in
theorem cw_X11_price (l : Launch) (C : pq_C) (X : va_W) (n : Nat) (S0 : pq_S) (hF : WF S0) (sz : Nat) (a0 : Nat) (x1 : Int32) (Ta0 : TY S0 a0 11) (mc ms : Nat) (hst : l.stackTraces = false) (E : (Nat → pq_S → Prop)) (Q : (Int32 → pq_S → Prop)) (hm : wp_X11_price n a0 x1 S0 mc ms E Q) : vx_Met l yX11_price (.code yX11_price cX11_price 2 (some .int) :: pq_U) (rw_X11_price mc ms) (va_Pc [.ref a0, .int x1] (CPre C X S0 sz)) (QwI C X S0 sz Q) (XcP C X S0 sz E) mc ms (pq_F C X S0 sz) := by
  refine vx_ofW (cc := cX11_price) (maxL := 2) (ret := (some .int)) (by decide) rfl ?_
  intro p e s m args below meth c s₁ B hml hno hv
  obtain ⟨rfl, hv⟩ := hv
  have hsz := hv.1
  subst hsz
  have hw := pw_entry hF hv
  have hts := atoms_spec (ws := .code yX11_price cX11_price 2 (some .int) :: pq_U) B.pre
  have hU : ∀ w ∈ pq_U, w.before _ s = true := fun w h => hts w (List.mem_cons_of_mem _ h)
  have hx := B.exec
  have hb := B.bytes
  have hr := B.returns
  have hown : s.vm.findClass RX11 = some m.cls := findClass_of_methodNamed B.named
  have hlk := B.notSynchronized
  have hl := lv_entry ([.ref a0, .int x1]) (n := 2) (Nat.le_of_ble_eq_true rfl)
  rw [lg_entry_eq]
  generalize (lg_sl ([.ref a0, .int x1]) ++ List.replicate (2 - (lg_sl ([.ref a0, .int x1])).length) Slot.unset).toArray = ls at hl ⊢
  have hl : lv_has ls 2 [(0, .ref a0), (1, .int x1)] := hl
  have hE : Ext S0 S0 := Ext.rf _
  have cx : Cx p s m _ meth c cX11_price 2 RX11 (some .int) := ⟨hx, hb, hml, hown, hU, hr, hlk⟩
  have hcc : 0 + mc ≤ mc := by omega
  have hss : 0 + ms ≤ ms := by omega
  rw [wp_X11_price] at hm
  refine lv_aload_n hx hb dX11_price_0 rfl (lv_at hl 0 rfl) ?_
  refine lv_iload_n hx hb dX11_price_1 rfl (lv_at hl 1 rfl) ?_
  obtain ⟨c2, s3, hb4, hb5, hm⟩ := hm
  refine px_v (vx_runV (As := [.int x1]) (rest := []) ⟨hx, hb, hml, hown, hU⟩ (cw_X11_needPlace l C X n S0 hw.wf _ a0 x1 (Ta0) c2 s3 hst E _ hm) (cwV 1 hU (pq_gV tw996 tw998 ts76 tw1 tc_X11_needPlace) rfl rfl rfl cd_X11_needPlace ⟨Nat.le_of_ble_eq_true rfl, Nat.le_of_ble_eq_true rfl⟩) (pw_preV hw Ta0 (by decide) rfl) rfl rfl hl.1 rfl (lv_room (Nat.le_of_ble_eq_true rfl)) dX11_price_2 ⟨by show _ ≤ mc; omega, by show _ ≤ ms; omega⟩) hw hE hno hlk (by omega) (by omega) (fun S_1 H locs hm hw hx6 => ?_)
  have Ta0 : TY S_1 a0 11 := ty_ext hx6 Ta0
  have hE : Ext S0 S_1 := Ext.tr hE hx6
  refine W.widen (k := c2) (n := s3) (by omega) (by omega) ?_
  have hcc : c2 + (mc - (c2)) ≤ mc := by omega
  have hss : s3 + (ms - (s3)) ≤ ms := by omega
  refine lv_aload_n hx hb dX11_price_5 rfl (lv_at hl 0 rfl) ?_
  obtain ⟨q7, hq7, hm⟩ := hm
  have Tq7 : TY S_1 q7 3 := hw.wf.ref (k := 11) (j := 2) Ta0 (by decide) (by decide) hq7
  refine pg_rb (k := 11) (j := 2) (f := 1102) hx hb hown hU iu11 hw Ta0 (by decide) rfl (hU _ tw365) rfl hq7 dX11_price_6 ?_
  refine lv_iload_n hx hb dX11_price_9 rfl (lv_at hl 1 rfl) ?_
  obtain ⟨r10, S_8, hq9, hm⟩ := hm
  refine pw_ci (va_runVN (As := [.int x1]) (rest := []) ⟨hx, hb, hml, hown, hU⟩ (c_X3_clearingPrice l C X n S_1 hw.wf _ q7 x1 (Tq7) r10 S_8 hq9) ⟨va_cnB (host := "WickNights") 1 hU (pq_g1 tc_X3_clearingPrice) rfl rfl rfl (hw.nw 169 rfl) (hU _ tw8) cd_X3_clearingPrice.2 ⟨Nat.le_of_ble_eq_true rfl, Nat.le_of_ble_eq_true rfl⟩, hU _ tw1145, hU _ ts88⟩ (pw_preV hw Tq7 (by decide) rfl) rfl rfl hl.1 rfl (lv_room (Nat.le_of_ble_eq_true rfl)) dX11_price_10 ⟨by show _ ≤ mc; omega, by show _ ≤ ms; omega⟩) hw (fun H locs hw hx11 => ?_)
  have Ta0 : TY S_8 a0 11 := ty_ext hx11 Ta0
  have hE : Ext S0 S_8 := Ext.tr hE hx11
  refine vx_ret ?_
  exact pw_wiret hx hb hr rfl hlk hw hE hm (by omega) (by omega) dX11_price_13
abbrev rw_X11_corner (mc ms : Nat) : Room := { frames := 8, cells := mc, slots := ms, locals := 131 }
def wp_X11_corner (n : Nat) (a0 : Nat) (x1 : Int32) (x2 : Int32) (S0 : pq_S) (mc ms : Nat) (E : (Nat → pq_S → Prop)) (Q : (Int32 → pq_S → Prop)) : Prop := ∃ c2 s3 : Nat, c2 ≤ mc ∧ s3 ≤ ms ∧ wp_X11_needPlace n a0 x1 S0 c2 s3 E (fun S_1 => ∃ r9 S_7, m_X11_isWithin n x2 0 100 S_1 = some (r9, S_7) ∧ (∃ c13 s14 : Nat, c13 ≤ (mc - (c2)) ∧ s14 ≤ (ms - (s3)) ∧ wp_X11_need n a0 r9 S_7 c13 s14 E (fun S_12 => ∃ q18 : Nat, (pR S_12 1102 a0) = some q18 ∧ (∃ r21 S_19, m_X3_hoursToCorner n q18 x1 x2 S_12 = some (r21, S_19) ∧ (Q r21 S_19)))))
theorem tc_X11_corner : Cond.code yX11_corner cX11_corner 3 (some .int) ∈ pq_U := tw1155
theorem cd_X11_corner : yX11_corner.cls = RX11 ∧ yX11_corner.cls ≠ "java/lang/invoke/MethodHandle" ∧ yX11_corner.cls ≠ "java/lang/invoke/VarHandle" ∧ (parseMethodDescriptor yX11_corner.desc).map (fun d => d.parameters.length) = some 2 := by decide +kernel
set_option maxHeartbeats 4000000 in
set_option maxRecDepth 100000 in
theorem cw_X11_corner (l : Launch) (C : pq_C) (X : va_W) (n : Nat) (S0 : pq_S) (hF : WF S0) (sz : Nat) (a0 : Nat) (x1 : Int32) (x2 : Int32) (Ta0 : TY S0 a0 11) (mc ms : Nat) (hst : l.stackTraces = false) (E : (Nat → pq_S → Prop)) (Q : (Int32 → pq_S → Prop)) (hm : wp_X11_corner n a0 x1 x2 S0 mc ms E Q) : vx_Met l yX11_corner (.code yX11_corner cX11_corner 3 (some .int) :: pq_U) (rw_X11_corner mc ms) (va_Pc [.ref a0, .int x1, .int x2] (CPre C X S0 sz)) (QwI C X S0 sz Q) (XcP C X S0 sz E) mc ms (pq_F C X S0 sz) := by
  refine vx_ofW (cc := cX11_corner) (maxL := 3) (ret := (some .int)) (by decide) rfl ?_
  intro p e s m args below meth c s₁ B hml hno hv
  obtain ⟨rfl, hv⟩ := hv
  have hsz := hv.1
  subst hsz
  have hw := pw_entry hF hv
  have hts := atoms_spec (ws := .code yX11_corner cX11_corner 3 (some .int) :: pq_U) B.pre
  have hU : ∀ w ∈ pq_U, w.before _ s = true := fun w h => hts w (List.mem_cons_of_mem _ h)
  have hx := B.exec
  have hb := B.bytes
  have hr := B.returns
  have hown : s.vm.findClass RX11 = some m.cls := findClass_of_methodNamed B.named
  have hlk := B.notSynchronized
  have hl := lv_entry ([.ref a0, .int x1, .int x2]) (n := 3) (Nat.le_of_ble_eq_true rfl)
  rw [lg_entry_eq]
  generalize (lg_sl ([.ref a0, .int x1, .int x2]) ++ List.replicate (3 - (lg_sl ([.ref a0, .int x1, .int x2])).length) Slot.unset).toArray = ls at hl ⊢
  have hl : lv_has ls 3 [(0, .ref a0), (1, .int x1), (2, .int x2)] := hl
  have hE : Ext S0 S0 := Ext.rf _
  have cx : Cx p s m _ meth c cX11_corner 3 RX11 (some .int) := ⟨hx, hb, hml, hown, hU, hr, hlk⟩
  have hcc : 0 + mc ≤ mc := by omega
  have hss : 0 + ms ≤ ms := by omega
  rw [wp_X11_corner] at hm
  refine lv_aload_n hx hb dX11_corner_0 rfl (lv_at hl 0 rfl) ?_
  refine lv_iload_n hx hb dX11_corner_1 rfl (lv_at hl 1 rfl) ?_
  obtain ⟨c2, s3, hb4, hb5, hm⟩ := hm
  refine px_v (vx_runV (As := [.int x1]) (rest := []) ⟨hx, hb, hml, hown, hU⟩ (cw_X11_needPlace l C X n S0 hw.wf _ a0 x1 (Ta0) c2 s3 hst E _ hm) (cwV 1 hU (pq_gV tw996 tw998 ts76 tw1 tc_X11_needPlace) rfl rfl rfl cd_X11_needPlace ⟨Nat.le_of_ble_eq_true rfl, Nat.le_of_ble_eq_true rfl⟩) (pw_preV hw Ta0 (by decide) rfl) rfl rfl hl.1 rfl (lv_room (Nat.le_of_ble_eq_true rfl)) dX11_corner_2 ⟨by show _ ≤ mc; omega, by show _ ≤ ms; omega⟩) hw hE hno hlk (by omega) (by omega) (fun S_1 H locs hm hw hx6 => ?_)
  have Ta0 : TY S_1 a0 11 := ty_ext hx6 Ta0
  have hE : Ext S0 S_1 := Ext.tr hE hx6
  refine W.widen (k := c2) (n := s3) (by omega) (by omega) ?_
  have hcc : c2 + (mc - (c2)) ≤ mc := by omega
  have hss : s3 + (ms - (s3)) ≤ ms := by omega
  refine lv_aload_n hx hb dX11_corner_5 rfl (lv_at hl 0 rfl) ?_
  refine lv_iload_n hx hb dX11_corner_6 rfl (lv_at hl 2 rfl) ?_
  refine lv_iconst (v := 0) hx hb dX11_corner_7 (by decide) ?_
  refine lv_bipush (v := 100) hx hb dX11_corner_8 (by decide) ?_
  obtain ⟨r9, S_7, hq8, hm⟩ := hm
  refine pw_cz (va_runS (As := [.int x2, .int 0, .int 100]) (rest := [.ref a0]) ⟨hx, hb, hml, hown, hU⟩ (c_X11_isWithin l C X n S_1 hw.wf _ x2 0 100  r9 S_7 hq8) ⟨callB_of 3 hU (pq_g1 tc_X11_isWithin) rfl rfl rfl (hU _ tw1) (hU _ tw453) cd_X11_isWithin.2 ⟨Nat.le_of_ble_eq_true rfl, Nat.le_of_ble_eq_true rfl⟩, hU _ tw454⟩ (pw_preS hw) rfl rfl hl.1 rfl (lv_room (Nat.le_of_ble_eq_true rfl)) dX11_corner_10 ⟨by show _ ≤ mc; omega, by show _ ≤ ms; omega⟩) hw (fun H locs hw hx10 hz11 => ?_)
  have Ta0 : TY S_7 a0 11 := ty_ext hx10 Ta0
  have hE : Ext S0 S_7 := Ext.tr hE hx10
  obtain ⟨c13, s14, hb15, hb16, hm⟩ := hm
  refine px_v (vx_runV (As := [.int r9]) (rest := []) ⟨hx, hb, hml, hown, hU⟩ (cw_X11_need l C X n S_7 hw.wf _ a0 r9 (Ta0) c13 s14 hst E _ hm) (cwV 1 hU (pq_gV tw490 tw492 ts7 tw1 tc_X11_need) rfl rfl rfl cd_X11_need ⟨Nat.le_of_ble_eq_true rfl, Nat.le_of_ble_eq_true rfl⟩) (pw_preV hw Ta0 (by decide) rfl) rfl rfl hl.1 rfl (lv_room (Nat.le_of_ble_eq_true rfl)) dX11_corner_13 ⟨by show _ ≤ mc; omega, by show _ ≤ ms; omega⟩) hw hE hno hlk (by omega) (by omega) (fun S_12 H locs hm hw hx17 => ?_)
  have Ta0 : TY S_12 a0 11 := ty_ext hx17 Ta0
  have hE : Ext S0 S_12 := Ext.tr hE hx17
  refine W.widen (k := c2 + c13) (n := s3 + s14) (by omega) (by omega) ?_
  have hcc : c2 + c13 + (mc - (c2 + c13)) ≤ mc := by omega
  have hss : s3 + s14 + (ms - (s3 + s14)) ≤ ms := by omega
  refine lv_aload_n hx hb dX11_corner_16 rfl (lv_at hl 0 rfl) ?_
  obtain ⟨q18, hq18, hm⟩ := hm
  have Tq18 : TY S_12 q18 3 := hw.wf.ref (k := 11) (j := 2) Ta0 (by decide) (by decide) hq18
  refine pg_rb (k := 11) (j := 2) (f := 1102) hx hb hown hU iu11 hw Ta0 (by decide) rfl (hU _ tw365) rfl hq18 dX11_corner_17 ?_
  refine lv_iload_n hx hb dX11_corner_20 rfl (lv_at hl 1 rfl) ?_
  refine lv_iload_n hx hb dX11_corner_21 rfl (lv_at hl 2 rfl) ?_
  obtain ⟨r21, S_19, hq20, hm⟩ := hm
  refine pw_ci (va_runVN (As := [.int x1, .int x2]) (rest := []) ⟨hx, hb, hml, hown, hU⟩ (c_X3_hoursToCorner l C X n S_12 hw.wf _ q18 x1 x2 (Tq18) r21 S_19 hq20) ⟨va_cnB (host := "WickNights") 2 hU (pq_g1 tc_X3_hoursToCorner) rfl rfl rfl (hw.nw 172 rfl) (hU _ tw8) cd_X3_hoursToCorner.2 ⟨Nat.le_of_ble_eq_true rfl, Nat.le_of_ble_eq_true rfl⟩, hU _ tw1158, hU _ ts89⟩ (pw_preV hw Tq18 (by decide) rfl) rfl rfl hl.1 rfl (lv_room (Nat.le_of_ble_eq_true rfl)) dX11_corner_22 ⟨by show _ ≤ mc; omega, by show _ ≤ ms; omega⟩) hw (fun H locs hw hx22 => ?_)
  have Ta0 : TY S_19 a0 11 := ty_ext hx22 Ta0
  have hE : Ext S0 S_19 := Ext.tr hE hx22
  refine vx_ret ?_
  exact pw_wiret hx hb hr rfl hlk hw hE hm (by omega) (by omega) dX11_corner_25
abbrev rw_X11_option (mc ms : Nat) : Room := { frames := 66, cells := mc, slots := ms, locals := 2250 }
def pb_X11_option_31 (n : Nat) (x1 : Int32) (x2 : Int32) (x3 : Int32) (x4 : Int32) (x5 : Int32) (x6 : Int32) (x7 : Int32) (b0 : Nat) (z1 : Int32) (S : pq_S) (bc bs : Nat) (E : (Nat → pq_S → Prop)) (Q : (Int64 → pq_S → Prop)) : Prop := ∃ c14 s15 : Nat, c14 ≤ bc ∧ s15 ≤ bs ∧ wp_X11_need n b0 z1 S c14 s15 E (fun S_13 => ∃ r21 S_19, m_X11_optionWorth n x1 x2 x3 x4 x5 x6 0 S_13 = some (r21, S_19) ∧ (∃ r25 S_23, m_X11_partOfFraction n r21 x6 x7 S_19 = some (r25, S_23) ∧ (Q r25 S_23)))
set_option maxHeartbeats 4000000 in
set_option maxRecDepth 100000 in
theorem wpb_X11_option_31 {p : Program} {l : Launch} {e : Env} {s : State} {m : MethodId} {args : Array Value} {below : List Frame} {meth : Method} {c : Code} (cx : Cx p s m args meth c cX11_option 8 RX11 (some .long)) (hno : ∀ x ∈ c.exceptionTable.toList, False) (C : pq_C) (X : va_W) (S0 : pq_S) (n : Nat) (hst : l.stackTraces = false) (E : (Nat → pq_S → Prop)) (Q : (Int64 → pq_S → Prop)) (mc ms : Nat) : ∀ (x1 : Int32) (x2 : Int32) (x3 : Int32) (x4 : Int32) (x5 : Int32) (x6 : Int32) (x7 : Int32) (b0 : Nat) (z1 : Int32) (S : pq_S) (H : Heap) (locs : List Loc) (ls : Array Slot) (cells slots bc bs : Nat), cells + bc ≤ mc → slots + bs ≤ ms → PW C X S (pq_F C X S0 s.heap.size) H locs s → Ext S0 S → TY S b0 11 → lv_has ls 8 [(1, .int x1), (2, .int x2), (3, .int x3), (4, .int x4), (5, .int x5), (6, .int x6), (7, .int x7)] → pb_X11_option_31 n x1 x2 x3 x4 x5 x6 x7 b0 z1 S bc bs E Q → W p l e (rw_X11_option mc ms) s m args below meth c H locs cells slots (vx_MQ below (QwJ C X S0 s.heap.size Q) (XcP C X S0 s.heap.size E) args s mc ms (pq_F C X S0 s.heap.size)) (F0 m 31 ls [.int z1, .ref b0]) := by
  obtain ⟨hx, hb, hml, hown, hU, hr, hlk⟩ := id cx
  intro x1 x2 x3 x4 x5 x6 x7 b0 z1 S H locs ls cells slots bc bs hcc hss hw hE Tb0 hl hm
  rw [pb_X11_option_31] at hm
  obtain ⟨c14, s15, hb16, hb17, hm⟩ := hm
  refine px_v (vx_runV (As := [.int z1]) (rest := []) ⟨hx, hb, hml, hown, hU⟩ (cw_X11_need l C X n S hw.wf _ b0 z1 (Tb0) c14 s15 hst E _ hm) (cwV 1 hU (pq_gV tw490 tw492 ts7 tw1 tc_X11_need) rfl rfl rfl cd_X11_need ⟨Nat.le_of_ble_eq_true rfl, Nat.le_of_ble_eq_true rfl⟩) (pw_preV hw Tb0 (by decide) rfl) rfl rfl hl.1 rfl (lv_room (Nat.le_of_ble_eq_true rfl)) dX11_option_31 ⟨by show _ ≤ mc; omega, by show _ ≤ ms; omega⟩) hw hE hno hlk (by omega) (by omega) (fun S_13 H locs hm hw hx18 => ?_)
  have hE : Ext S0 S_13 := Ext.tr hE hx18
  refine W.widen (k := cells + (c14)) (n := slots + (s15)) (by omega) (by omega) ?_
  have hcc : cells + (c14) + (bc - (c14)) ≤ mc := by omega
  have hss : slots + (s15) + (bs - (s15)) ≤ ms := by omega
  refine lv_iload_n hx hb dX11_option_34 rfl (lv_at hl 0 rfl) ?_
  refine lv_iload_n hx hb dX11_option_35 rfl (lv_at hl 1 rfl) ?_
  refine lv_iload_n hx hb dX11_option_36 rfl (lv_at hl 2 rfl) ?_
  refine lv_iload hx hb dX11_option_37 (lv_at hl 3 rfl) ?_
  refine lv_iload hx hb dX11_option_39 (lv_at hl 4 rfl) ?_
  refine lv_iload hx hb dX11_option_41 (lv_at hl 5 rfl) ?_
  refine lv_iconst (v := 0) hx hb dX11_option_43 (by decide) ?_
  obtain ⟨r21, S_19, hq20, hm⟩ := hm
  refine pw_cj (va_runS (As := [.int x1, .int x2, .int x3, .int x4, .int x5, .int x6, .int 0]) (rest := []) ⟨hx, hb, hml, hown, hU⟩ (c_X11_optionWorth l C X n S_13 hw.wf _ x1 x2 x3 x4 x5 x6 0  r21 S_19 hq20) ⟨callB_of 7 hU (pq_g1 tc_X11_optionWorth) rfl rfl rfl (hU _ tw1) (hU _ tw1170) cd_X11_optionWorth.2 ⟨Nat.le_of_ble_eq_true rfl, Nat.le_of_ble_eq_true rfl⟩, hU _ tw1171⟩ (pw_preS hw) rfl rfl hl.1 rfl (lv_room (Nat.le_of_ble_eq_true rfl)) dX11_option_44 ⟨by show _ ≤ mc; omega, by show _ ≤ ms; omega⟩) hw (fun H locs hw hx22 => ?_)
  have hE : Ext S0 S_19 := Ext.tr hE hx22
  refine lv_iload hx hb dX11_option_47 (lv_at hl 5 rfl) ?_
  refine lv_iload hx hb dX11_option_49 (lv_at hl 6 rfl) ?_
  obtain ⟨r25, S_23, hq24, hm⟩ := hm
  refine pw_cj (va_runS (As := [.long r21, .int x6, .int x7]) (rest := []) ⟨hx, hb, hml, hown, hU⟩ (c_X11_partOfFraction l C X n S_19 hw.wf _ r21 x6 x7  r25 S_23 hq24) ⟨callB_of 3 hU (pq_g1 tc_X11_partOfFraction) rfl rfl rfl (hU _ tw1) (hU _ tw1180) cd_X11_partOfFraction.2 ⟨Nat.le_of_ble_eq_true rfl, Nat.le_of_ble_eq_true rfl⟩, hU _ tw1181⟩ (pw_preS hw) rfl rfl hl.1 rfl (lv_room (Nat.le_of_ble_eq_true rfl)) dX11_option_51 ⟨by show _ ≤ mc; omega, by show _ ≤ ms; omega⟩) hw (fun H locs hw hx26 => ?_)
  have hE : Ext S0 S_23 := Ext.tr hE hx26
  refine vx_ret ?_
  exact pw_wjret hx hb hr hlk hw hE hm (by omega) (by omega) dX11_option_54
def pb_X11_option_30 (n : Nat) (x1 : Int32) (x2 : Int32) (x3 : Int32) (x4 : Int32) (x5 : Int32) (x6 : Int32) (x7 : Int32) (b0 : Nat) (S : pq_S) (bc bs : Nat) (E : (Nat → pq_S → Prop)) (Q : (Int64 → pq_S → Prop)) : Prop := pb_X11_option_31 n x1 x2 x3 x4 x5 x6 x7 b0 0 S bc bs E Q
set_option maxHeartbeats 4000000 in
set_option maxRecDepth 100000 in
theorem wpb_X11_option_30 {p : Program} {l : Launch} {e : Env} {s : State} {m : MethodId} {args : Array Value} {below : List Frame} {meth : Method} {c : Code} (cx : Cx p s m args meth c cX11_option 8 RX11 (some .long)) (hno : ∀ x ∈ c.exceptionTable.toList, False) (C : pq_C) (X : va_W) (S0 : pq_S) (n : Nat) (hst : l.stackTraces = false) (E : (Nat → pq_S → Prop)) (Q : (Int64 → pq_S → Prop)) (mc ms : Nat) : ∀ (x1 : Int32) (x2 : Int32) (x3 : Int32) (x4 : Int32) (x5 : Int32) (x6 : Int32) (x7 : Int32) (b0 : Nat) (S : pq_S) (H : Heap) (locs : List Loc) (ls : Array Slot) (cells slots bc bs : Nat), cells + bc ≤ mc → slots + bs ≤ ms → PW C X S (pq_F C X S0 s.heap.size) H locs s → Ext S0 S → TY S b0 11 → lv_has ls 8 [(1, .int x1), (2, .int x2), (3, .int x3), (4, .int x4), (5, .int x5), (6, .int x6), (7, .int x7)] → pb_X11_option_30 n x1 x2 x3 x4 x5 x6 x7 b0 S bc bs E Q → W p l e (rw_X11_option mc ms) s m args below meth c H locs cells slots (vx_MQ below (QwJ C X S0 s.heap.size Q) (XcP C X S0 s.heap.size E) args s mc ms (pq_F C X S0 s.heap.size)) (F0 m 30 ls [.ref b0]) := by
  obtain ⟨hx, hb, hml, hown, hU, hr, hlk⟩ := id cx
  intro x1 x2 x3 x4 x5 x6 x7 b0 S H locs ls cells slots bc bs hcc hss hw hE Tb0 hl hm
  rw [pb_X11_option_30] at hm
  refine lv_iconst (v := 0) hx hb dX11_option_30 (by decide) ?_
  exact wpb_X11_option_31 cx hno C X S0 n hst E Q mc ms x1 x2 x3 x4 x5 x6 x7 b0 0 S _ _ _ (cells) (slots) bc bs hcc hss hw hE Tb0 (lv_sub hl [0, 1, 2, 3, 4, 5, 6] rfl) hm
def wp_X11_option (n : Nat) (a0 : Nat) (x1 : Int32) (x2 : Int32) (x3 : Int32) (x4 : Int32) (x5 : Int32) (x6 : Int32) (x7 : Int32) (S0 : pq_S) (mc ms : Nat) (E : (Nat → pq_S → Prop)) (Q : (Int64 → pq_S → Prop)) : Prop := ∃ r3 S_1, m_X11_isOption n x1 x2 x3 x4 x5 x6 S0 = some (r3, S_1) ∧ (if r3 = 0 then pb_X11_option_30 n x1 x2 x3 x4 x5 x6 x7 a0 S_1 mc ms E Q else ∃ r9 S_7, m_X11_isWithin n x7 0 1 S_1 = some (r9, S_7) ∧ (if r9 = 0 then pb_X11_option_30 n x1 x2 x3 x4 x5 x6 x7 a0 S_7 mc ms E Q else pb_X11_option_31 n x1 x2 x3 x4 x5 x6 x7 a0 1 S_7 mc ms E Q))
theorem tc_X11_option : Cond.code yX11_option cX11_option 8 (some .long) ∈ pq_U := tw1166
theorem cd_X11_option : yX11_option.cls = RX11 ∧ yX11_option.cls ≠ "java/lang/invoke/MethodHandle" ∧ yX11_option.cls ≠ "java/lang/invoke/VarHandle" ∧ (parseMethodDescriptor yX11_option.desc).map (fun d => d.parameters.length) = some 7 := by decide +kernel
set_option maxHeartbeats 4000000 in
set_option maxRecDepth 100000 in
theorem cw_X11_option (l : Launch) (C : pq_C) (X : va_W) (n : Nat) (S0 : pq_S) (hF : WF S0) (sz : Nat) (a0 : Nat) (x1 : Int32) (x2 : Int32) (x3 : Int32) (x4 : Int32) (x5 : Int32) (x6 : Int32) (x7 : Int32) (Ta0 : TY S0 a0 11) (mc ms : Nat) (hst : l.stackTraces = false) (E : (Nat → pq_S → Prop)) (Q : (Int64 → pq_S → Prop)) (hm : wp_X11_option n a0 x1 x2 x3 x4 x5 x6 x7 S0 mc ms E Q) : vx_Met l yX11_option (.code yX11_option cX11_option 8 (some .long) :: pq_U) (rw_X11_option mc ms) (va_Pc [.ref a0, .int x1, .int x2, .int x3, .int x4, .int x5, .int x6, .int x7] (CPre C X S0 sz)) (QwJ C X S0 sz Q) (XcP C X S0 sz E) mc ms (pq_F C X S0 sz) := by
  refine vx_ofW (cc := cX11_option) (maxL := 8) (ret := (some .long)) (by decide) rfl ?_
  intro p e s m args below meth c s₁ B hml hno hv
  obtain ⟨rfl, hv⟩ := hv
  have hsz := hv.1
  subst hsz
  have hw := pw_entry hF hv
  have hts := atoms_spec (ws := .code yX11_option cX11_option 8 (some .long) :: pq_U) B.pre
  have hU : ∀ w ∈ pq_U, w.before _ s = true := fun w h => hts w (List.mem_cons_of_mem _ h)
  have hx := B.exec
  have hb := B.bytes
  have hr := B.returns
  have hown : s.vm.findClass RX11 = some m.cls := findClass_of_methodNamed B.named
  have hlk := B.notSynchronized
  have hl := lv_entry ([.ref a0, .int x1, .int x2, .int x3, .int x4, .int x5, .int x6, .int x7]) (n := 8) (Nat.le_of_ble_eq_true rfl)
  rw [lg_entry_eq]
  generalize (lg_sl ([.ref a0, .int x1, .int x2, .int x3, .int x4, .int x5, .int x6, .int x7]) ++ List.replicate (8 - (lg_sl ([.ref a0, .int x1, .int x2, .int x3, .int x4, .int x5, .int x6, .int x7])).length) Slot.unset).toArray = ls at hl ⊢
  have hl : lv_has ls 8 [(0, .ref a0), (1, .int x1), (2, .int x2), (3, .int x3), (4, .int x4), (5, .int x5), (6, .int x6), (7, .int x7)] := hl
  have hE : Ext S0 S0 := Ext.rf _
  have cx : Cx p s m _ meth c cX11_option 8 RX11 (some .long) := ⟨hx, hb, hml, hown, hU, hr, hlk⟩
  have hcc : 0 + mc ≤ mc := by omega
  have hss : 0 + ms ≤ ms := by omega
  rw [wp_X11_option] at hm
  refine lv_aload_n hx hb dX11_option_0 rfl (lv_at hl 0 rfl) ?_
  refine lv_iload_n hx hb dX11_option_1 rfl (lv_at hl 1 rfl) ?_
  refine lv_iload_n hx hb dX11_option_2 rfl (lv_at hl 2 rfl) ?_
  refine lv_iload_n hx hb dX11_option_3 rfl (lv_at hl 3 rfl) ?_
  refine lv_iload hx hb dX11_option_4 (lv_at hl 4 rfl) ?_
  refine lv_iload hx hb dX11_option_6 (lv_at hl 5 rfl) ?_
  refine lv_iload hx hb dX11_option_8 (lv_at hl 6 rfl) ?_
  obtain ⟨r3, S_1, hq2, hm⟩ := hm
  refine pw_cz (va_runS (As := [.int x1, .int x2, .int x3, .int x4, .int x5, .int x6]) (rest := [.ref a0]) ⟨hx, hb, hml, hown, hU⟩ (c_X11_isOption l C X n S0 hw.wf _ x1 x2 x3 x4 x5 x6  r3 S_1 hq2) ⟨callB_of 6 hU (pq_g1 tc_X11_isOption) rfl rfl rfl (hU _ tw1) (hU _ tw1167) cd_X11_isOption.2 ⟨Nat.le_of_ble_eq_true rfl, Nat.le_of_ble_eq_true rfl⟩, hU _ tw1168⟩ (pw_preS hw) rfl rfl hl.1 rfl (lv_room (Nat.le_of_ble_eq_true rfl)) dX11_option_10 ⟨by show _ ≤ mc; omega, by show _ ≤ ms; omega⟩) hw (fun H locs hw hx4 hz5 => ?_)
  have Ta0 : TY S_1 a0 11 := ty_ext hx4 Ta0
  have hE : Ext S0 S_1 := Ext.tr hE hx4
  refine lv_if_eq (tgt := 30) hx hb dX11_option_13 (by decide) (fun h6 => ?_) (fun h6 => ?_)
  · rw [if_pos h6] at hm
    exact wpb_X11_option_30 cx hno C X S0 n hst E Q mc ms x1 x2 x3 x4 x5 x6 x7 a0 S_1 _ _ _ (0) (0) mc ms hcc hss hw hE Ta0 (lv_sub hl [1, 2, 3, 4, 5, 6, 7] rfl) hm
  · rw [if_neg h6] at hm
    refine lv_iload hx hb dX11_option_16 (lv_at hl 7 rfl) ?_
    refine lv_iconst (v := 0) hx hb dX11_option_18 (by decide) ?_
    refine lv_iconst (v := 1) hx hb dX11_option_19 (by decide) ?_
    obtain ⟨r9, S_7, hq8, hm⟩ := hm
    refine pw_cz (va_runS (As := [.int x7, .int 0, .int 1]) (rest := [.ref a0]) ⟨hx, hb, hml, hown, hU⟩ (c_X11_isWithin l C X n S_1 hw.wf _ x7 0 1  r9 S_7 hq8) ⟨callB_of 3 hU (pq_g1 tc_X11_isWithin) rfl rfl rfl (hU _ tw1) (hU _ tw453) cd_X11_isWithin.2 ⟨Nat.le_of_ble_eq_true rfl, Nat.le_of_ble_eq_true rfl⟩, hU _ tw454⟩ (pw_preS hw) rfl rfl hl.1 rfl (lv_room (Nat.le_of_ble_eq_true rfl)) dX11_option_20 ⟨by show _ ≤ mc; omega, by show _ ≤ ms; omega⟩) hw (fun H locs hw hx10 hz11 => ?_)
    have Ta0 : TY S_7 a0 11 := ty_ext hx10 Ta0
    have hE : Ext S0 S_7 := Ext.tr hE hx10
    refine lv_if_eq (tgt := 30) hx hb dX11_option_23 (by decide) (fun h12 => ?_) (fun h12 => ?_)
    · rw [if_pos h12] at hm
      exact wpb_X11_option_30 cx hno C X S0 n hst E Q mc ms x1 x2 x3 x4 x5 x6 x7 a0 S_7 _ _ _ (0) (0) mc ms hcc hss hw hE Ta0 (lv_sub hl [1, 2, 3, 4, 5, 6, 7] rfl) hm
    · rw [if_neg h12] at hm
      refine lv_iconst (v := 1) hx hb dX11_option_26 (by decide) ?_
      refine lv_goto (tgt := 31) hx hb dX11_option_27 (by decide) ?_
      exact wpb_X11_option_31 cx hno C X S0 n hst E Q mc ms x1 x2 x3 x4 x5 x6 x7 a0 1 S_7 _ _ _ (0) (0) mc ms hcc hss hw hE Ta0 (lv_sub hl [1, 2, 3, 4, 5, 6, 7] rfl) hm
abbrev rw_X11_late (mc ms : Nat) : Room := { frames := 66, cells := mc, slots := ms, locals := 2250 }
def pb_X11_late_31 (n : Nat) (x1 : Int32) (x2 : Int32) (x3 : Int32) (x4 : Int32) (x5 : Int32) (x6 : Int32) (x7 : Int32) (b0 : Nat) (z1 : Int32) (S : pq_S) (bc bs : Nat) (E : (Nat → pq_S → Prop)) (Q : (Int64 → pq_S → Prop)) : Prop := ∃ c14 s15 : Nat, c14 ≤ bc ∧ s15 ≤ bs ∧ wp_X11_need n b0 z1 S c14 s15 E (fun S_13 => ∃ r21 S_19, m_X11_optionWorth n x1 x2 x3 x4 x5 x6 1 S_13 = some (r21, S_19) ∧ (∃ r25 S_23, m_X11_partOfFraction n r21 x6 x7 S_19 = some (r25, S_23) ∧ (Q r25 S_23)))
set_option maxHeartbeats 4000000 in
set_option maxRecDepth 100000 in
theorem wpb_X11_late_31 {p : Program} {l : Launch} {e : Env} {s : State} {m : MethodId} {args : Array Value} {below : List Frame} {meth : Method} {c : Code} (cx : Cx p s m args meth c cX11_late 8 RX11 (some .long)) (hno : ∀ x ∈ c.exceptionTable.toList, False) (C : pq_C) (X : va_W) (S0 : pq_S) (n : Nat) (hst : l.stackTraces = false) (E : (Nat → pq_S → Prop)) (Q : (Int64 → pq_S → Prop)) (mc ms : Nat) : ∀ (x1 : Int32) (x2 : Int32) (x3 : Int32) (x4 : Int32) (x5 : Int32) (x6 : Int32) (x7 : Int32) (b0 : Nat) (z1 : Int32) (S : pq_S) (H : Heap) (locs : List Loc) (ls : Array Slot) (cells slots bc bs : Nat), cells + bc ≤ mc → slots + bs ≤ ms → PW C X S (pq_F C X S0 s.heap.size) H locs s → Ext S0 S → TY S b0 11 → lv_has ls 8 [(1, .int x1), (2, .int x2), (3, .int x3), (4, .int x4), (5, .int x5), (6, .int x6), (7, .int x7)] → pb_X11_late_31 n x1 x2 x3 x4 x5 x6 x7 b0 z1 S bc bs E Q → W p l e (rw_X11_late mc ms) s m args below meth c H locs cells slots (vx_MQ below (QwJ C X S0 s.heap.size Q) (XcP C X S0 s.heap.size E) args s mc ms (pq_F C X S0 s.heap.size)) (F0 m 31 ls [.int z1, .ref b0]) := by
  obtain ⟨hx, hb, hml, hown, hU, hr, hlk⟩ := id cx
  intro x1 x2 x3 x4 x5 x6 x7 b0 z1 S H locs ls cells slots bc bs hcc hss hw hE Tb0 hl hm
  rw [pb_X11_late_31] at hm
  obtain ⟨c14, s15, hb16, hb17, hm⟩ := hm
  refine px_v (vx_runV (As := [.int z1]) (rest := []) ⟨hx, hb, hml, hown, hU⟩ (cw_X11_need l C X n S hw.wf _ b0 z1 (Tb0) c14 s15 hst E _ hm) (cwV 1 hU (pq_gV tw490 tw492 ts7 tw1 tc_X11_need) rfl rfl rfl cd_X11_need ⟨Nat.le_of_ble_eq_true rfl, Nat.le_of_ble_eq_true rfl⟩) (pw_preV hw Tb0 (by decide) rfl) rfl rfl hl.1 rfl (lv_room (Nat.le_of_ble_eq_true rfl)) dX11_late_31 ⟨by show _ ≤ mc; omega, by show _ ≤ ms; omega⟩) hw hE hno hlk (by omega) (by omega) (fun S_13 H locs hm hw hx18 => ?_)
  have hE : Ext S0 S_13 := Ext.tr hE hx18
  refine W.widen (k := cells + (c14)) (n := slots + (s15)) (by omega) (by omega) ?_
  have hcc : cells + (c14) + (bc - (c14)) ≤ mc := by omega
  have hss : slots + (s15) + (bs - (s15)) ≤ ms := by omega
  refine lv_iload_n hx hb dX11_late_34 rfl (lv_at hl 0 rfl) ?_
  refine lv_iload_n hx hb dX11_late_35 rfl (lv_at hl 1 rfl) ?_
  refine lv_iload_n hx hb dX11_late_36 rfl (lv_at hl 2 rfl) ?_
  refine lv_iload hx hb dX11_late_37 (lv_at hl 3 rfl) ?_
  refine lv_iload hx hb dX11_late_39 (lv_at hl 4 rfl) ?_
  refine lv_iload hx hb dX11_late_41 (lv_at hl 5 rfl) ?_
  refine lv_iconst (v := 1) hx hb dX11_late_43 (by decide) ?_
  obtain ⟨r21, S_19, hq20, hm⟩ := hm
  refine pw_cj (va_runS (As := [.int x1, .int x2, .int x3, .int x4, .int x5, .int x6, .int 1]) (rest := []) ⟨hx, hb, hml, hown, hU⟩ (c_X11_optionWorth l C X n S_13 hw.wf _ x1 x2 x3 x4 x5 x6 1  r21 S_19 hq20) ⟨callB_of 7 hU (pq_g1 tc_X11_optionWorth) rfl rfl rfl (hU _ tw1) (hU _ tw1170) cd_X11_optionWorth.2 ⟨Nat.le_of_ble_eq_true rfl, Nat.le_of_ble_eq_true rfl⟩, hU _ tw1171⟩ (pw_preS hw) rfl rfl hl.1 rfl (lv_room (Nat.le_of_ble_eq_true rfl)) dX11_late_44 ⟨by show _ ≤ mc; omega, by show _ ≤ ms; omega⟩) hw (fun H locs hw hx22 => ?_)
  have hE : Ext S0 S_19 := Ext.tr hE hx22
  refine lv_iload hx hb dX11_late_47 (lv_at hl 5 rfl) ?_
  refine lv_iload hx hb dX11_late_49 (lv_at hl 6 rfl) ?_
  obtain ⟨r25, S_23, hq24, hm⟩ := hm
  refine pw_cj (va_runS (As := [.long r21, .int x6, .int x7]) (rest := []) ⟨hx, hb, hml, hown, hU⟩ (c_X11_partOfFraction l C X n S_19 hw.wf _ r21 x6 x7  r25 S_23 hq24) ⟨callB_of 3 hU (pq_g1 tc_X11_partOfFraction) rfl rfl rfl (hU _ tw1) (hU _ tw1180) cd_X11_partOfFraction.2 ⟨Nat.le_of_ble_eq_true rfl, Nat.le_of_ble_eq_true rfl⟩, hU _ tw1181⟩ (pw_preS hw) rfl rfl hl.1 rfl (lv_room (Nat.le_of_ble_eq_true rfl)) dX11_late_51 ⟨by show _ ≤ mc; omega, by show _ ≤ ms; omega⟩) hw (fun H locs hw hx26 => ?_)
  have hE : Ext S0 S_23 := Ext.tr hE hx26
  refine vx_ret ?_
  exact pw_wjret hx hb hr hlk hw hE hm (by omega) (by omega) dX11_late_54
def pb_X11_late_30 (n : Nat) (x1 : Int32) (x2 : Int32) (x3 : Int32) (x4 : Int32) (x5 : Int32) (x6 : Int32) (x7 : Int32) (b0 : Nat) (S : pq_S) (bc bs : Nat) (E : (Nat → pq_S → Prop)) (Q : (Int64 → pq_S → Prop)) : Prop := pb_X11_late_31 n x1 x2 x3 x4 x5 x6 x7 b0 0 S bc bs E Q
set_option maxHeartbeats 4000000 in
set_option maxRecDepth 100000 in
theorem wpb_X11_late_30 {p : Program} {l : Launch} {e : Env} {s : State} {m : MethodId} {args : Array Value} {below : List Frame} {meth : Method} {c : Code} (cx : Cx p s m args meth c cX11_late 8 RX11 (some .long)) (hno : ∀ x ∈ c.exceptionTable.toList, False) (C : pq_C) (X : va_W) (S0 : pq_S) (n : Nat) (hst : l.stackTraces = false) (E : (Nat → pq_S → Prop)) (Q : (Int64 → pq_S → Prop)) (mc ms : Nat) : ∀ (x1 : Int32) (x2 : Int32) (x3 : Int32) (x4 : Int32) (x5 : Int32) (x6 : Int32) (x7 : Int32) (b0 : Nat) (S : pq_S) (H : Heap) (locs : List Loc) (ls : Array Slot) (cells slots bc bs : Nat), cells + bc ≤ mc → slots + bs ≤ ms → PW C X S (pq_F C X S0 s.heap.size) H locs s → Ext S0 S → TY S b0 11 → lv_has ls 8 [(1, .int x1), (2, .int x2), (3, .int x3), (4, .int x4), (5, .int x5), (6, .int x6), (7, .int x7)] → pb_X11_late_30 n x1 x2 x3 x4 x5 x6 x7 b0 S bc bs E Q → W p l e (rw_X11_late mc ms) s m args below meth c H locs cells slots (vx_MQ below (QwJ C X S0 s.heap.size Q) (XcP C X S0 s.heap.size E) args s mc ms (pq_F C X S0 s.heap.size)) (F0 m 30 ls [.ref b0]) := by
  obtain ⟨hx, hb, hml, hown, hU, hr, hlk⟩ := id cx
  intro x1 x2 x3 x4 x5 x6 x7 b0 S H locs ls cells slots bc bs hcc hss hw hE Tb0 hl hm
  rw [pb_X11_late_30] at hm
  refine lv_iconst (v := 0) hx hb dX11_late_30 (by decide) ?_
  exact wpb_X11_late_31 cx hno C X S0 n hst E Q mc ms x1 x2 x3 x4 x5 x6 x7 b0 0 S _ _ _ (cells) (slots) bc bs hcc hss hw hE Tb0 (lv_sub hl [0, 1, 2, 3, 4, 5, 6] rfl) hm
def wp_X11_late (n : Nat) (a0 : Nat) (x1 : Int32) (x2 : Int32) (x3 : Int32) (x4 : Int32) (x5 : Int32) (x6 : Int32) (x7 : Int32) (S0 : pq_S) (mc ms : Nat) (E : (Nat → pq_S → Prop)) (Q : (Int64 → pq_S → Prop)) : Prop := ∃ r3 S_1, m_X11_isOption n x1 x2 x3 x4 x5 x6 S0 = some (r3, S_1) ∧ (if r3 = 0 then pb_X11_late_30 n x1 x2 x3 x4 x5 x6 x7 a0 S_1 mc ms E Q else ∃ r9 S_7, m_X11_isWithin n x7 0 1 S_1 = some (r9, S_7) ∧ (if r9 = 0 then pb_X11_late_30 n x1 x2 x3 x4 x5 x6 x7 a0 S_7 mc ms E Q else pb_X11_late_31 n x1 x2 x3 x4 x5 x6 x7 a0 1 S_7 mc ms E Q))
theorem tc_X11_late : Cond.code yX11_late cX11_late 8 (some .long) ∈ pq_U := tw1190
theorem cd_X11_late : yX11_late.cls = RX11 ∧ yX11_late.cls ≠ "java/lang/invoke/MethodHandle" ∧ yX11_late.cls ≠ "java/lang/invoke/VarHandle" ∧ (parseMethodDescriptor yX11_late.desc).map (fun d => d.parameters.length) = some 7 := by decide +kernel
set_option maxHeartbeats 4000000 in
set_option maxRecDepth 100000 in
theorem cw_X11_late (l : Launch) (C : pq_C) (X : va_W) (n : Nat) (S0 : pq_S) (hF : WF S0) (sz : Nat) (a0 : Nat) (x1 : Int32) (x2 : Int32) (x3 : Int32) (x4 : Int32) (x5 : Int32) (x6 : Int32) (x7 : Int32) (Ta0 : TY S0 a0 11) (mc ms : Nat) (hst : l.stackTraces = false) (E : (Nat → pq_S → Prop)) (Q : (Int64 → pq_S → Prop)) (hm : wp_X11_late n a0 x1 x2 x3 x4 x5 x6 x7 S0 mc ms E Q) : vx_Met l yX11_late (.code yX11_late cX11_late 8 (some .long) :: pq_U) (rw_X11_late mc ms) (va_Pc [.ref a0, .int x1, .int x2, .int x3, .int x4, .int x5, .int x6, .int x7] (CPre C X S0 sz)) (QwJ C X S0 sz Q) (XcP C X S0 sz E) mc ms (pq_F C X S0 sz) := by
  refine vx_ofW (cc := cX11_late) (maxL := 8) (ret := (some .long)) (by decide) rfl ?_
  intro p e s m args below meth c s₁ B hml hno hv
  obtain ⟨rfl, hv⟩ := hv
  have hsz := hv.1
  subst hsz
  have hw := pw_entry hF hv
  have hts := atoms_spec (ws := .code yX11_late cX11_late 8 (some .long) :: pq_U) B.pre
  have hU : ∀ w ∈ pq_U, w.before _ s = true := fun w h => hts w (List.mem_cons_of_mem _ h)
  have hx := B.exec
  have hb := B.bytes
  have hr := B.returns
  have hown : s.vm.findClass RX11 = some m.cls := findClass_of_methodNamed B.named
  have hlk := B.notSynchronized
  have hl := lv_entry ([.ref a0, .int x1, .int x2, .int x3, .int x4, .int x5, .int x6, .int x7]) (n := 8) (Nat.le_of_ble_eq_true rfl)
  rw [lg_entry_eq]
  generalize (lg_sl ([.ref a0, .int x1, .int x2, .int x3, .int x4, .int x5, .int x6, .int x7]) ++ List.replicate (8 - (lg_sl ([.ref a0, .int x1, .int x2, .int x3, .int x4, .int x5, .int x6, .int x7])).length) Slot.unset).toArray = ls at hl ⊢
  have hl : lv_has ls 8 [(0, .ref a0), (1, .int x1), (2, .int x2), (3, .int x3), (4, .int x4), (5, .int x5), (6, .int x6), (7, .int x7)] := hl
  have hE : Ext S0 S0 := Ext.rf _
  have cx : Cx p s m _ meth c cX11_late 8 RX11 (some .long) := ⟨hx, hb, hml, hown, hU, hr, hlk⟩
  have hcc : 0 + mc ≤ mc := by omega
  have hss : 0 + ms ≤ ms := by omega
  rw [wp_X11_late] at hm
  refine lv_aload_n hx hb dX11_late_0 rfl (lv_at hl 0 rfl) ?_
  refine lv_iload_n hx hb dX11_late_1 rfl (lv_at hl 1 rfl) ?_
  refine lv_iload_n hx hb dX11_late_2 rfl (lv_at hl 2 rfl) ?_
  refine lv_iload_n hx hb dX11_late_3 rfl (lv_at hl 3 rfl) ?_
  refine lv_iload hx hb dX11_late_4 (lv_at hl 4 rfl) ?_
  refine lv_iload hx hb dX11_late_6 (lv_at hl 5 rfl) ?_
  refine lv_iload hx hb dX11_late_8 (lv_at hl 6 rfl) ?_
  obtain ⟨r3, S_1, hq2, hm⟩ := hm
  refine pw_cz (va_runS (As := [.int x1, .int x2, .int x3, .int x4, .int x5, .int x6]) (rest := [.ref a0]) ⟨hx, hb, hml, hown, hU⟩ (c_X11_isOption l C X n S0 hw.wf _ x1 x2 x3 x4 x5 x6  r3 S_1 hq2) ⟨callB_of 6 hU (pq_g1 tc_X11_isOption) rfl rfl rfl (hU _ tw1) (hU _ tw1167) cd_X11_isOption.2 ⟨Nat.le_of_ble_eq_true rfl, Nat.le_of_ble_eq_true rfl⟩, hU _ tw1168⟩ (pw_preS hw) rfl rfl hl.1 rfl (lv_room (Nat.le_of_ble_eq_true rfl)) dX11_late_10 ⟨by show _ ≤ mc; omega, by show _ ≤ ms; omega⟩) hw (fun H locs hw hx4 hz5 => ?_)
  have Ta0 : TY S_1 a0 11 := ty_ext hx4 Ta0
  have hE : Ext S0 S_1 := Ext.tr hE hx4
  refine lv_if_eq (tgt := 30) hx hb dX11_late_13 (by decide) (fun h6 => ?_) (fun h6 => ?_)
  · rw [if_pos h6] at hm
    exact wpb_X11_late_30 cx hno C X S0 n hst E Q mc ms x1 x2 x3 x4 x5 x6 x7 a0 S_1 _ _ _ (0) (0) mc ms hcc hss hw hE Ta0 (lv_sub hl [1, 2, 3, 4, 5, 6, 7] rfl) hm
  · rw [if_neg h6] at hm
    refine lv_iload hx hb dX11_late_16 (lv_at hl 7 rfl) ?_
    refine lv_iconst (v := 0) hx hb dX11_late_18 (by decide) ?_
    refine lv_iconst (v := 1) hx hb dX11_late_19 (by decide) ?_
    obtain ⟨r9, S_7, hq8, hm⟩ := hm
    refine pw_cz (va_runS (As := [.int x7, .int 0, .int 1]) (rest := [.ref a0]) ⟨hx, hb, hml, hown, hU⟩ (c_X11_isWithin l C X n S_1 hw.wf _ x7 0 1  r9 S_7 hq8) ⟨callB_of 3 hU (pq_g1 tc_X11_isWithin) rfl rfl rfl (hU _ tw1) (hU _ tw453) cd_X11_isWithin.2 ⟨Nat.le_of_ble_eq_true rfl, Nat.le_of_ble_eq_true rfl⟩, hU _ tw454⟩ (pw_preS hw) rfl rfl hl.1 rfl (lv_room (Nat.le_of_ble_eq_true rfl)) dX11_late_20 ⟨by show _ ≤ mc; omega, by show _ ≤ ms; omega⟩) hw (fun H locs hw hx10 hz11 => ?_)
    have Ta0 : TY S_7 a0 11 := ty_ext hx10 Ta0
    have hE : Ext S0 S_7 := Ext.tr hE hx10
    refine lv_if_eq (tgt := 30) hx hb dX11_late_23 (by decide) (fun h12 => ?_) (fun h12 => ?_)
    · rw [if_pos h12] at hm
      exact wpb_X11_late_30 cx hno C X S0 n hst E Q mc ms x1 x2 x3 x4 x5 x6 x7 a0 S_7 _ _ _ (0) (0) mc ms hcc hss hw hE Ta0 (lv_sub hl [1, 2, 3, 4, 5, 6, 7] rfl) hm
    · rw [if_neg h12] at hm
      refine lv_iconst (v := 1) hx hb dX11_late_26 (by decide) ?_
      refine lv_goto (tgt := 31) hx hb dX11_late_27 (by decide) ?_
      exact wpb_X11_late_31 cx hno C X S0 n hst E Q mc ms x1 x2 x3 x4 x5 x6 x7 a0 1 S_7 _ _ _ (0) (0) mc ms hcc hss hw hE Ta0 (lv_sub hl [1, 2, 3, 4, 5, 6, 7] rfl) hm
abbrev rw_X11_now (mc ms : Nat) : Room := { frames := 66, cells := mc, slots := ms, locals := 2250 }
def wp_X11_now (n : Nat) (a0 : Nat) (x1 : Int32) (x2 : Int32) (x3 : Int32) (x4 : Int32) (x5 : Int32) (x6 : Int32) (S0 : pq_S) (mc ms : Nat) (E : (Nat → pq_S → Prop)) (Q : (Int32 → pq_S → Prop)) : Prop := ∃ r3 S_1, m_X11_isOption n x1 x2 x3 x4 x5 x6 S0 = some (r3, S_1) ∧ (∃ c7 s8 : Nat, c7 ≤ mc ∧ s8 ≤ ms ∧ wp_X11_need n a0 r3 S_1 c7 s8 E (fun S_6 => if x1 ≤ x5 then Q 0 S_6 else ∃ r15 S_13, m_X11_scale n x6 S_6 = some (r15, S_13) ∧ (∃ r19 S_17, m_X11_optionWorth n x1 x2 x3 x4 x5 x6 0 S_13 = some (r19, S_17) ∧ (if (lg_cmp ((Int32.toInt64 (x1 - x5)) * r15) r19) < 0 then Q 0 S_17 else Q 1 S_17))))
theorem tc_X11_now : Cond.code yX11_now cX11_now 7 (some .boolean) ∈ pq_U := tw1197
theorem cd_X11_now : yX11_now.cls = RX11 ∧ yX11_now.cls ≠ "java/lang/invoke/MethodHandle" ∧ yX11_now.cls ≠ "java/lang/invoke/VarHandle" ∧ (parseMethodDescriptor yX11_now.desc).map (fun d => d.parameters.length) = some 6 := by decide +kernel
set_option maxHeartbeats 4000000 in
set_option maxRecDepth 100000 in
theorem cw_X11_now (l : Launch) (C : pq_C) (X : va_W) (n : Nat) (S0 : pq_S) (hF : WF S0) (sz : Nat) (a0 : Nat) (x1 : Int32) (x2 : Int32) (x3 : Int32) (x4 : Int32) (x5 : Int32) (x6 : Int32) (Ta0 : TY S0 a0 11) (mc ms : Nat) (hst : l.stackTraces = false) (E : (Nat → pq_S → Prop)) (Q : (Int32 → pq_S → Prop)) (hm : wp_X11_now n a0 x1 x2 x3 x4 x5 x6 S0 mc ms E Q) : vx_Met l yX11_now (.code yX11_now cX11_now 7 (some .boolean) :: pq_U) (rw_X11_now mc ms) (va_Pc [.ref a0, .int x1, .int x2, .int x3, .int x4, .int x5, .int x6] (CPre C X S0 sz)) (QwZ C X S0 sz Q) (XcP C X S0 sz E) mc ms (pq_F C X S0 sz) := by
  refine vx_ofW (cc := cX11_now) (maxL := 7) (ret := (some .boolean)) (by decide) rfl ?_
  intro p e s m args below meth c s₁ B hml hno hv
  obtain ⟨rfl, hv⟩ := hv
  have hsz := hv.1
  subst hsz
  have hw := pw_entry hF hv
  have hts := atoms_spec (ws := .code yX11_now cX11_now 7 (some .boolean) :: pq_U) B.pre
  have hU : ∀ w ∈ pq_U, w.before _ s = true := fun w h => hts w (List.mem_cons_of_mem _ h)
  have hx := B.exec
  have hb := B.bytes
  have hr := B.returns
  have hown : s.vm.findClass RX11 = some m.cls := findClass_of_methodNamed B.named
  have hlk := B.notSynchronized
  have hl := lv_entry ([.ref a0, .int x1, .int x2, .int x3, .int x4, .int x5, .int x6]) (n := 7) (Nat.le_of_ble_eq_true rfl)
  rw [lg_entry_eq]
  generalize (lg_sl ([.ref a0, .int x1, .int x2, .int x3, .int x4, .int x5, .int x6]) ++ List.replicate (7 - (lg_sl ([.ref a0, .int x1, .int x2, .int x3, .int x4, .int x5, .int x6])).length) Slot.unset).toArray = ls at hl ⊢
  have hl : lv_has ls 7 [(0, .ref a0), (1, .int x1), (2, .int x2), (3, .int x3), (4, .int x4), (5, .int x5), (6, .int x6)] := hl
  have hE : Ext S0 S0 := Ext.rf _
  have cx : Cx p s m _ meth c cX11_now 7 RX11 (some .boolean) := ⟨hx, hb, hml, hown, hU, hr, hlk⟩
  have hcc : 0 + mc ≤ mc := by omega
  have hss : 0 + ms ≤ ms := by omega
  rw [wp_X11_now] at hm
  refine lv_aload_n hx hb dX11_now_0 rfl (lv_at hl 0 rfl) ?_
  refine lv_iload_n hx hb dX11_now_1 rfl (lv_at hl 1 rfl) ?_
  refine lv_iload_n hx hb dX11_now_2 rfl (lv_at hl 2 rfl) ?_
  refine lv_iload_n hx hb dX11_now_3 rfl (lv_at hl 3 rfl) ?_
  refine lv_iload hx hb dX11_now_4 (lv_at hl 4 rfl) ?_
  refine lv_iload hx hb dX11_now_6 (lv_at hl 5 rfl) ?_
  refine lv_iload hx hb dX11_now_8 (lv_at hl 6 rfl) ?_
  obtain ⟨r3, S_1, hq2, hm⟩ := hm
  refine pw_cz (va_runS (As := [.int x1, .int x2, .int x3, .int x4, .int x5, .int x6]) (rest := [.ref a0]) ⟨hx, hb, hml, hown, hU⟩ (c_X11_isOption l C X n S0 hw.wf _ x1 x2 x3 x4 x5 x6  r3 S_1 hq2) ⟨callB_of 6 hU (pq_g1 tc_X11_isOption) rfl rfl rfl (hU _ tw1) (hU _ tw1167) cd_X11_isOption.2 ⟨Nat.le_of_ble_eq_true rfl, Nat.le_of_ble_eq_true rfl⟩, hU _ tw1168⟩ (pw_preS hw) rfl rfl hl.1 rfl (lv_room (Nat.le_of_ble_eq_true rfl)) dX11_now_10 ⟨by show _ ≤ mc; omega, by show _ ≤ ms; omega⟩) hw (fun H locs hw hx4 hz5 => ?_)
  have Ta0 : TY S_1 a0 11 := ty_ext hx4 Ta0
  have hE : Ext S0 S_1 := Ext.tr hE hx4
  obtain ⟨c7, s8, hb9, hb10, hm⟩ := hm
  refine px_v (vx_runV (As := [.int r3]) (rest := []) ⟨hx, hb, hml, hown, hU⟩ (cw_X11_need l C X n S_1 hw.wf _ a0 r3 (Ta0) c7 s8 hst E _ hm) (cwV 1 hU (pq_gV tw490 tw492 ts7 tw1 tc_X11_need) rfl rfl rfl cd_X11_need ⟨Nat.le_of_ble_eq_true rfl, Nat.le_of_ble_eq_true rfl⟩) (pw_preV hw Ta0 (by decide) rfl) rfl rfl hl.1 rfl (lv_room (Nat.le_of_ble_eq_true rfl)) dX11_now_13 ⟨by show _ ≤ mc; omega, by show _ ≤ ms; omega⟩) hw hE hno hlk (by omega) (by omega) (fun S_6 H locs hm hw hx11 => ?_)
  have Ta0 : TY S_6 a0 11 := ty_ext hx11 Ta0
  have hE : Ext S0 S_6 := Ext.tr hE hx11
  refine W.widen (k := c7) (n := s8) (by omega) (by omega) ?_
  have hcc : c7 + (mc - (c7)) ≤ mc := by omega
  have hss : s8 + (ms - (s8)) ≤ ms := by omega
  refine lv_iload_n hx hb dX11_now_16 rfl (lv_at hl 1 rfl) ?_
  refine lv_iload hx hb dX11_now_17 (lv_at hl 5 rfl) ?_
  refine lv_icmp_le (tgt := 54) hx hb dX11_now_19 (by decide) (fun h12 => ?_) (fun h12 => ?_)
  · rw [if_pos h12] at hm
    refine lv_iconst (v := 0) hx hb dX11_now_54 (by decide) ?_
    refine vx_ret ?_
    exact pw_wzret hx hb hr bz_0 hlk hw hE hm (by omega) (by omega) dX11_now_55
  · rw [if_neg h12] at hm
    refine lv_iload_n hx hb dX11_now_22 rfl (lv_at hl 1 rfl) ?_
    refine lv_iload hx hb dX11_now_23 (lv_at hl 5 rfl) ?_
    refine lv_isub hx hb dX11_now_25 ?_
    refine lv_i2l (v := (Int32.toInt64 (x1 - x5))) hx hb dX11_now_26 rfl ?_
    refine lv_iload hx hb dX11_now_27 (lv_at hl 6 rfl) ?_
    obtain ⟨r15, S_13, hq14, hm⟩ := hm
    refine pw_cj (va_runS (As := [.int x6]) (rest := [.long (Int32.toInt64 (x1 - x5))]) ⟨hx, hb, hml, hown, hU⟩ (c_X11_scale l C X n S_6 hw.wf _ x6  r15 S_13 hq14) ⟨callB_of 1 hU (pq_g1 tc_X11_scale) rfl rfl rfl (hU _ tw1) (hU _ tw1174) cd_X11_scale.2 ⟨Nat.le_of_ble_eq_true rfl, Nat.le_of_ble_eq_true rfl⟩, hU _ tw1175⟩ (pw_preS hw) rfl rfl hl.1 rfl (lv_room (Nat.le_of_ble_eq_true rfl)) dX11_now_29 ⟨by show _ ≤ mc; omega, by show _ ≤ ms; omega⟩) hw (fun H locs hw hx16 => ?_)
    have Ta0 : TY S_13 a0 11 := ty_ext hx16 Ta0
    have hE : Ext S0 S_13 := Ext.tr hE hx16
    refine lv_lmul hx hb dX11_now_32 ?_
    refine lv_iload_n hx hb dX11_now_33 rfl (lv_at hl 1 rfl) ?_
    refine lv_iload_n hx hb dX11_now_34 rfl (lv_at hl 2 rfl) ?_
    refine lv_iload_n hx hb dX11_now_35 rfl (lv_at hl 3 rfl) ?_
    refine lv_iload hx hb dX11_now_36 (lv_at hl 4 rfl) ?_
    refine lv_iload hx hb dX11_now_38 (lv_at hl 5 rfl) ?_
    refine lv_iload hx hb dX11_now_40 (lv_at hl 6 rfl) ?_
    refine lv_iconst (v := 0) hx hb dX11_now_42 (by decide) ?_
    obtain ⟨r19, S_17, hq18, hm⟩ := hm
    refine pw_cj (va_runS (As := [.int x1, .int x2, .int x3, .int x4, .int x5, .int x6, .int 0]) (rest := [.long ((Int32.toInt64 (x1 - x5)) * r15)]) ⟨hx, hb, hml, hown, hU⟩ (c_X11_optionWorth l C X n S_13 hw.wf _ x1 x2 x3 x4 x5 x6 0  r19 S_17 hq18) ⟨callB_of 7 hU (pq_g1 tc_X11_optionWorth) rfl rfl rfl (hU _ tw1) (hU _ tw1170) cd_X11_optionWorth.2 ⟨Nat.le_of_ble_eq_true rfl, Nat.le_of_ble_eq_true rfl⟩, hU _ tw1171⟩ (pw_preS hw) rfl rfl hl.1 rfl (lv_room (Nat.le_of_ble_eq_true rfl)) dX11_now_43 ⟨by show _ ≤ mc; omega, by show _ ≤ ms; omega⟩) hw (fun H locs hw hx20 => ?_)
    have Ta0 : TY S_17 a0 11 := ty_ext hx20 Ta0
    have hE : Ext S0 S_17 := Ext.tr hE hx20
    refine W.lcmp hx hb dX11_now_46 ?_
    refine lv_if_lt (tgt := 54) hx hb dX11_now_47 (by decide) (fun h21 => ?_) (fun h21 => ?_)
    · rw [if_pos h21] at hm
      refine lv_iconst (v := 0) hx hb dX11_now_54 (by decide) ?_
      refine vx_ret ?_
      exact pw_wzret hx hb hr bz_0 hlk hw hE hm (by omega) (by omega) dX11_now_55
    · rw [if_neg h21] at hm
      refine lv_iconst (v := 1) hx hb dX11_now_50 (by decide) ?_
      refine lv_goto (tgt := 55) hx hb dX11_now_51 (by decide) ?_
      refine vx_ret ?_
      exact pw_wzret hx hb hr bz_1 hlk hw hE hm (by omega) (by omega) dX11_now_55
abbrev rw_X11_sellers (mc ms : Nat) : Room := { frames := 8, cells := mc, slots := ms, locals := 141 }
def pb_X11_sellers_30 (n : Nat) (a0 : Nat) (x1 : Int32) (x2 : Int32) (x3 : Int32) (b0 : Nat) (z1 : Int32) (S : pq_S) (bc bs : Nat) (E : (Nat → pq_S → Prop)) (Q : (Int32 → pq_S → Prop)) : Prop := ∃ c20 s21 : Nat, c20 ≤ bc ∧ s21 ≤ bs ∧ wp_X11_need n b0 z1 S c20 s21 E (fun S_19 => ∃ q25 : Nat, (pR S_19 1102 a0) = some q25 ∧ (∃ S_26 : pq_S, m_X3_findRests n q25 x1 x2 S_19 = some S_26 ∧ (if x3 = 0 then ∃ q33 : Nat, (pR S_26 1102 a0) = some q33 ∧ (Q (pI S_26 306 q33) S_26) else if x3 = 1 then ∃ q32 : Nat, (pR S_26 1102 a0) = some q32 ∧ (Q (pI S_26 307 q32) S_26) else ∃ q31 : Nat, (pR S_26 1102 a0) = some q31 ∧ (Q (pI S_26 308 q31) S_26))))
set_option maxHeartbeats 4000000 in
set_option maxRecDepth 100000 in
theorem wpb_X11_sellers_30 {p : Program} {l : Launch} {e : Env} {s : State} {m : MethodId} {args : Array Value} {below : List Frame} {meth : Method} {c : Code} (cx : Cx p s m args meth c cX11_sellers 4 RX11 (some .int)) (hno : ∀ x ∈ c.exceptionTable.toList, False) (C : pq_C) (X : va_W) (S0 : pq_S) (n : Nat) (hst : l.stackTraces = false) (E : (Nat → pq_S → Prop)) (Q : (Int32 → pq_S → Prop)) (mc ms : Nat) : ∀ (a0 : Nat) (x1 : Int32) (x2 : Int32) (x3 : Int32) (b0 : Nat) (z1 : Int32) (S : pq_S) (H : Heap) (locs : List Loc) (ls : Array Slot) (cells slots bc bs : Nat), cells + bc ≤ mc → slots + bs ≤ ms → PW C X S (pq_F C X S0 s.heap.size) H locs s → Ext S0 S → TY S a0 11 → TY S b0 11 → lv_has ls 4 [(0, .ref a0), (1, .int x1), (2, .int x2), (3, .int x3)] → pb_X11_sellers_30 n a0 x1 x2 x3 b0 z1 S bc bs E Q → W p l e (rw_X11_sellers mc ms) s m args below meth c H locs cells slots (vx_MQ below (QwI C X S0 s.heap.size Q) (XcP C X S0 s.heap.size E) args s mc ms (pq_F C X S0 s.heap.size)) (F0 m 30 ls [.int z1, .ref b0]) := by
  obtain ⟨hx, hb, hml, hown, hU, hr, hlk⟩ := id cx
  intro a0 x1 x2 x3 b0 z1 S H locs ls cells slots bc bs hcc hss hw hE Ta0 Tb0 hl hm
  rw [pb_X11_sellers_30] at hm
  obtain ⟨c20, s21, hb22, hb23, hm⟩ := hm
  refine px_v (vx_runV (As := [.int z1]) (rest := []) ⟨hx, hb, hml, hown, hU⟩ (cw_X11_need l C X n S hw.wf _ b0 z1 (Tb0) c20 s21 hst E _ hm) (cwV 1 hU (pq_gV tw490 tw492 ts7 tw1 tc_X11_need) rfl rfl rfl cd_X11_need ⟨Nat.le_of_ble_eq_true rfl, Nat.le_of_ble_eq_true rfl⟩) (pw_preV hw Tb0 (by decide) rfl) rfl rfl hl.1 rfl (lv_room (Nat.le_of_ble_eq_true rfl)) dX11_sellers_30 ⟨by show _ ≤ mc; omega, by show _ ≤ ms; omega⟩) hw hE hno hlk (by omega) (by omega) (fun S_19 H locs hm hw hx24 => ?_)
  have Ta0 : TY S_19 a0 11 := ty_ext hx24 Ta0
  have hE : Ext S0 S_19 := Ext.tr hE hx24
  refine W.widen (k := cells + (c20)) (n := slots + (s21)) (by omega) (by omega) ?_
  have hcc : cells + (c20) + (bc - (c20)) ≤ mc := by omega
  have hss : slots + (s21) + (bs - (s21)) ≤ ms := by omega
  refine lv_aload_n hx hb dX11_sellers_33 rfl (lv_at hl 0 rfl) ?_
  obtain ⟨q25, hq25, hm⟩ := hm
  have Tq25 : TY S_19 q25 3 := hw.wf.ref (k := 11) (j := 2) Ta0 (by decide) (by decide) hq25
  refine pg_rb (k := 11) (j := 2) (f := 1102) hx hb hown hU iu11 hw Ta0 (by decide) rfl (hU _ tw365) rfl hq25 dX11_sellers_34 ?_
  refine lv_iload_n hx hb dX11_sellers_37 rfl (lv_at hl 1 rfl) ?_
  refine lv_iload_n hx hb dX11_sellers_38 rfl (lv_at hl 2 rfl) ?_
  obtain ⟨S_26, hq27, hm⟩ := hm
  refine pw_cv (va_runVN (As := [.int x1, .int x2]) (rest := []) ⟨hx, hb, hml, hown, hU⟩ (c_X3_findRests l C X n S_19 hw.wf _ q25 x1 x2 (Tq25) S_26 hq27) ⟨va_cnB (host := "WickNights") 2 hU (pq_g1 tc_X3_findRests) rfl rfl rfl (hw.nw 180 rfl) (hU _ tw8) cd_X3_findRests.2 ⟨Nat.le_of_ble_eq_true rfl, Nat.le_of_ble_eq_true rfl⟩, hU _ tw1332, hU _ ts109⟩ (pw_preV hw Tq25 (by decide) rfl) rfl rfl hl.1 rfl (lv_room (Nat.le_of_ble_eq_true rfl)) dX11_sellers_39 ⟨by show _ ≤ mc; omega, by show _ ≤ ms; omega⟩) hw (fun H locs hw hx28 => ?_)
  have Ta0 : TY S_26 a0 11 := ty_ext hx28 Ta0
  have hE : Ext S0 S_26 := Ext.tr hE hx28
  refine lv_iload_n hx hb dX11_sellers_42 rfl (lv_at hl 3 rfl) ?_
  refine lv_if_ne (tgt := 54) hx hb dX11_sellers_43 (by decide) (fun h29 => ?_) (fun h29 => ?_)
  · rw [if_neg h29] at hm
    refine lv_iload_n hx hb dX11_sellers_54 rfl (lv_at hl 3 rfl) ?_
    refine lv_iconst (v := 1) hx hb dX11_sellers_55 (by decide) ?_
    refine lv_icmp_ne (tgt := 69) hx hb dX11_sellers_56 (by decide) (fun h30 => ?_) (fun h30 => ?_)
    · rw [if_neg h30] at hm
      refine lv_aload_n hx hb dX11_sellers_69 rfl (lv_at hl 0 rfl) ?_
      obtain ⟨q31, hq31, hm⟩ := hm
      have Tq31 : TY S_26 q31 3 := hw.wf.ref (k := 11) (j := 2) Ta0 (by decide) (by decide) hq31
      refine pg_rb (k := 11) (j := 2) (f := 1102) hx hb hown hU iu11 hw Ta0 (by decide) rfl (hU _ tw365) rfl hq31 dX11_sellers_70 ?_
      refine pgN_i (k := 3) (j := 8) (f := 308) hx hb hown hU iu3 hw Tq31 (by decide) rfl 69 rfl rfl dX11_sellers_73 ?_
      refine vx_ret ?_
      exact pw_wiret hx hb hr rfl hlk hw hE hm (by omega) (by omega) dX11_sellers_76
    · rw [if_pos h30] at hm
      refine lv_aload_n hx hb dX11_sellers_59 rfl (lv_at hl 0 rfl) ?_
      obtain ⟨q32, hq32, hm⟩ := hm
      have Tq32 : TY S_26 q32 3 := hw.wf.ref (k := 11) (j := 2) Ta0 (by decide) (by decide) hq32
      refine pg_rb (k := 11) (j := 2) (f := 1102) hx hb hown hU iu11 hw Ta0 (by decide) rfl (hU _ tw365) rfl hq32 dX11_sellers_60 ?_
      refine pgN_i (k := 3) (j := 7) (f := 307) hx hb hown hU iu3 hw Tq32 (by decide) rfl 68 rfl rfl dX11_sellers_63 ?_
      refine lv_goto (tgt := 76) hx hb dX11_sellers_66 (by decide) ?_
      refine vx_ret ?_
      exact pw_wiret hx hb hr rfl hlk hw hE hm (by omega) (by omega) dX11_sellers_76
  · rw [if_pos h29] at hm
    refine lv_aload_n hx hb dX11_sellers_46 rfl (lv_at hl 0 rfl) ?_
    obtain ⟨q33, hq33, hm⟩ := hm
    have Tq33 : TY S_26 q33 3 := hw.wf.ref (k := 11) (j := 2) Ta0 (by decide) (by decide) hq33
    refine pg_rb (k := 11) (j := 2) (f := 1102) hx hb hown hU iu11 hw Ta0 (by decide) rfl (hU _ tw365) rfl hq33 dX11_sellers_47 ?_
    refine pgN_i (k := 3) (j := 6) (f := 306) hx hb hown hU iu3 hw Tq33 (by decide) rfl 67 rfl rfl dX11_sellers_50 ?_
    refine vx_ret ?_
    exact pw_wiret hx hb hr rfl hlk hw hE hm (by omega) (by omega) dX11_sellers_53
def pb_X11_sellers_29 (n : Nat) (a0 : Nat) (x1 : Int32) (x2 : Int32) (x3 : Int32) (b0 : Nat) (S : pq_S) (bc bs : Nat) (E : (Nat → pq_S → Prop)) (Q : (Int32 → pq_S → Prop)) : Prop := pb_X11_sellers_30 n a0 x1 x2 x3 b0 0 S bc bs E Q
set_option maxHeartbeats 4000000 in
set_option maxRecDepth 100000 in
theorem wpb_X11_sellers_29 {p : Program} {l : Launch} {e : Env} {s : State} {m : MethodId} {args : Array Value} {below : List Frame} {meth : Method} {c : Code} (cx : Cx p s m args meth c cX11_sellers 4 RX11 (some .int)) (hno : ∀ x ∈ c.exceptionTable.toList, False) (C : pq_C) (X : va_W) (S0 : pq_S) (n : Nat) (hst : l.stackTraces = false) (E : (Nat → pq_S → Prop)) (Q : (Int32 → pq_S → Prop)) (mc ms : Nat) : ∀ (a0 : Nat) (x1 : Int32) (x2 : Int32) (x3 : Int32) (b0 : Nat) (S : pq_S) (H : Heap) (locs : List Loc) (ls : Array Slot) (cells slots bc bs : Nat), cells + bc ≤ mc → slots + bs ≤ ms → PW C X S (pq_F C X S0 s.heap.size) H locs s → Ext S0 S → TY S a0 11 → TY S b0 11 → lv_has ls 4 [(0, .ref a0), (1, .int x1), (2, .int x2), (3, .int x3)] → pb_X11_sellers_29 n a0 x1 x2 x3 b0 S bc bs E Q → W p l e (rw_X11_sellers mc ms) s m args below meth c H locs cells slots (vx_MQ below (QwI C X S0 s.heap.size Q) (XcP C X S0 s.heap.size E) args s mc ms (pq_F C X S0 s.heap.size)) (F0 m 29 ls [.ref b0]) := by
  obtain ⟨hx, hb, hml, hown, hU, hr, hlk⟩ := id cx
  intro a0 x1 x2 x3 b0 S H locs ls cells slots bc bs hcc hss hw hE Ta0 Tb0 hl hm
  rw [pb_X11_sellers_29] at hm
  refine lv_iconst (v := 0) hx hb dX11_sellers_29 (by decide) ?_
  exact wpb_X11_sellers_30 cx hno C X S0 n hst E Q mc ms a0 x1 x2 x3 b0 0 S _ _ _ (cells) (slots) bc bs hcc hss hw hE Ta0 Tb0 (lv_sub hl [0, 1, 2, 3] rfl) hm
def wp_X11_sellers (n : Nat) (a0 : Nat) (x1 : Int32) (x2 : Int32) (x3 : Int32) (S0 : pq_S) (mc ms : Nat) (E : (Nat → pq_S → Prop)) (Q : (Int32 → pq_S → Prop)) : Prop := ∃ c2 s3 : Nat, c2 ≤ mc ∧ s3 ≤ ms ∧ wp_X11_needPlace n a0 x1 S0 c2 s3 E (fun S_1 => ∃ r9 S_7, m_X11_isWithin n x2 0 20 S_1 = some (r9, S_7) ∧ (if r9 = 0 then pb_X11_sellers_29 n a0 x1 x2 x3 a0 S_7 (mc - (c2)) (ms - (s3)) E Q else ∃ r15 S_13, m_X11_isWithin n x3 0 2 S_7 = some (r15, S_13) ∧ (if r15 = 0 then pb_X11_sellers_29 n a0 x1 x2 x3 a0 S_13 (mc - (c2)) (ms - (s3)) E Q else pb_X11_sellers_30 n a0 x1 x2 x3 a0 1 S_13 (mc - (c2)) (ms - (s3)) E Q)))
theorem tc_X11_sellers : Cond.code yX11_sellers cX11_sellers 4 (some .int) ∈ pq_U := tw1329
theorem cd_X11_sellers : yX11_sellers.cls = RX11 ∧ yX11_sellers.cls ≠ "java/lang/invoke/MethodHandle" ∧ yX11_sellers.cls ≠ "java/lang/invoke/VarHandle" ∧ (parseMethodDescriptor yX11_sellers.desc).map (fun d => d.parameters.length) = some 3 := by decide +kernel
set_option maxHeartbeats 4000000 in
set_option maxRecDepth 100000 in
theorem cw_X11_sellers (l : Launch) (C : pq_C) (X : va_W) (n : Nat) (S0 : pq_S) (hF : WF S0) (sz : Nat) (a0 : Nat) (x1 : Int32) (x2 : Int32) (x3 : Int32) (Ta0 : TY S0 a0 11) (mc ms : Nat) (hst : l.stackTraces = false) (E : (Nat → pq_S → Prop)) (Q : (Int32 → pq_S → Prop)) (hm : wp_X11_sellers n a0 x1 x2 x3 S0 mc ms E Q) : vx_Met l yX11_sellers (.code yX11_sellers cX11_sellers 4 (some .int) :: pq_U) (rw_X11_sellers mc ms) (va_Pc [.ref a0, .int x1, .int x2, .int x3] (CPre C X S0 sz)) (QwI C X S0 sz Q) (XcP C X S0 sz E) mc ms (pq_F C X S0 sz) := by
  refine vx_ofW (cc := cX11_sellers) (maxL := 4) (ret := (some .int)) (by decide) rfl ?_
  intro p e s m args below meth c s₁ B hml hno hv
  obtain ⟨rfl, hv⟩ := hv
  have hsz := hv.1
  subst hsz
  have hw := pw_entry hF hv
  have hts := atoms_spec (ws := .code yX11_sellers cX11_sellers 4 (some .int) :: pq_U) B.pre
  have hU : ∀ w ∈ pq_U, w.before _ s = true := fun w h => hts w (List.mem_cons_of_mem _ h)
  have hx := B.exec
  have hb := B.bytes
  have hr := B.returns
  have hown : s.vm.findClass RX11 = some m.cls := findClass_of_methodNamed B.named
  have hlk := B.notSynchronized
  have hl := lv_entry ([.ref a0, .int x1, .int x2, .int x3]) (n := 4) (Nat.le_of_ble_eq_true rfl)
  rw [lg_entry_eq]
  generalize (lg_sl ([.ref a0, .int x1, .int x2, .int x3]) ++ List.replicate (4 - (lg_sl ([.ref a0, .int x1, .int x2, .int x3])).length) Slot.unset).toArray = ls at hl ⊢
  have hl : lv_has ls 4 [(0, .ref a0), (1, .int x1), (2, .int x2), (3, .int x3)] := hl
  have hE : Ext S0 S0 := Ext.rf _
  have cx : Cx p s m _ meth c cX11_sellers 4 RX11 (some .int) := ⟨hx, hb, hml, hown, hU, hr, hlk⟩
  have hcc : 0 + mc ≤ mc := by omega
  have hss : 0 + ms ≤ ms := by omega
  rw [wp_X11_sellers] at hm
  refine lv_aload_n hx hb dX11_sellers_0 rfl (lv_at hl 0 rfl) ?_
  refine lv_iload_n hx hb dX11_sellers_1 rfl (lv_at hl 1 rfl) ?_
  obtain ⟨c2, s3, hb4, hb5, hm⟩ := hm
  refine px_v (vx_runV (As := [.int x1]) (rest := []) ⟨hx, hb, hml, hown, hU⟩ (cw_X11_needPlace l C X n S0 hw.wf _ a0 x1 (Ta0) c2 s3 hst E _ hm) (cwV 1 hU (pq_gV tw996 tw998 ts76 tw1 tc_X11_needPlace) rfl rfl rfl cd_X11_needPlace ⟨Nat.le_of_ble_eq_true rfl, Nat.le_of_ble_eq_true rfl⟩) (pw_preV hw Ta0 (by decide) rfl) rfl rfl hl.1 rfl (lv_room (Nat.le_of_ble_eq_true rfl)) dX11_sellers_2 ⟨by show _ ≤ mc; omega, by show _ ≤ ms; omega⟩) hw hE hno hlk (by omega) (by omega) (fun S_1 H locs hm hw hx6 => ?_)
  have Ta0 : TY S_1 a0 11 := ty_ext hx6 Ta0
  have hE : Ext S0 S_1 := Ext.tr hE hx6
  refine W.widen (k := c2) (n := s3) (by omega) (by omega) ?_
  have hcc : c2 + (mc - (c2)) ≤ mc := by omega
  have hss : s3 + (ms - (s3)) ≤ ms := by omega
  refine lv_aload_n hx hb dX11_sellers_5 rfl (lv_at hl 0 rfl) ?_
  refine lv_iload_n hx hb dX11_sellers_6 rfl (lv_at hl 2 rfl) ?_
  refine lv_iconst (v := 0) hx hb dX11_sellers_7 (by decide) ?_
  refine lv_bipush (v := 20) hx hb dX11_sellers_8 (by decide) ?_
  obtain ⟨r9, S_7, hq8, hm⟩ := hm
  refine pw_cz (va_runS (As := [.int x2, .int 0, .int 20]) (rest := [.ref a0]) ⟨hx, hb, hml, hown, hU⟩ (c_X11_isWithin l C X n S_1 hw.wf _ x2 0 20  r9 S_7 hq8) ⟨callB_of 3 hU (pq_g1 tc_X11_isWithin) rfl rfl rfl (hU _ tw1) (hU _ tw453) cd_X11_isWithin.2 ⟨Nat.le_of_ble_eq_true rfl, Nat.le_of_ble_eq_true rfl⟩, hU _ tw454⟩ (pw_preS hw) rfl rfl hl.1 rfl (lv_room (Nat.le_of_ble_eq_true rfl)) dX11_sellers_10 ⟨by show _ ≤ mc; omega, by show _ ≤ ms; omega⟩) hw (fun H locs hw hx10 hz11 => ?_)
  have Ta0 : TY S_7 a0 11 := ty_ext hx10 Ta0
  have hE : Ext S0 S_7 := Ext.tr hE hx10
  refine lv_if_eq (tgt := 29) hx hb dX11_sellers_13 (by decide) (fun h12 => ?_) (fun h12 => ?_)
  · rw [if_pos h12] at hm
    exact wpb_X11_sellers_29 cx hno C X S0 n hst E Q mc ms a0 x1 x2 x3 a0 S_7 _ _ _ (c2) (s3) (mc - (c2)) (ms - (s3)) hcc hss hw hE Ta0 Ta0 (lv_sub hl [0, 1, 2, 3] rfl) hm
  · rw [if_neg h12] at hm
    refine lv_iload_n hx hb dX11_sellers_16 rfl (lv_at hl 3 rfl) ?_
    refine lv_iconst (v := 0) hx hb dX11_sellers_17 (by decide) ?_
    refine lv_iconst (v := 2) hx hb dX11_sellers_18 (by decide) ?_
    obtain ⟨r15, S_13, hq14, hm⟩ := hm
    refine pw_cz (va_runS (As := [.int x3, .int 0, .int 2]) (rest := [.ref a0]) ⟨hx, hb, hml, hown, hU⟩ (c_X11_isWithin l C X n S_7 hw.wf _ x3 0 2  r15 S_13 hq14) ⟨callB_of 3 hU (pq_g1 tc_X11_isWithin) rfl rfl rfl (hU _ tw1) (hU _ tw453) cd_X11_isWithin.2 ⟨Nat.le_of_ble_eq_true rfl, Nat.le_of_ble_eq_true rfl⟩, hU _ tw454⟩ (pw_preS hw) rfl rfl hl.1 rfl (lv_room (Nat.le_of_ble_eq_true rfl)) dX11_sellers_19 ⟨by show _ ≤ mc; omega, by show _ ≤ ms; omega⟩) hw (fun H locs hw hx16 hz17 => ?_)
    have Ta0 : TY S_13 a0 11 := ty_ext hx16 Ta0
    have hE : Ext S0 S_13 := Ext.tr hE hx16
    refine lv_if_eq (tgt := 29) hx hb dX11_sellers_22 (by decide) (fun h18 => ?_) (fun h18 => ?_)
    · rw [if_pos h18] at hm
      exact wpb_X11_sellers_29 cx hno C X S0 n hst E Q mc ms a0 x1 x2 x3 a0 S_13 _ _ _ (c2) (s3) (mc - (c2)) (ms - (s3)) hcc hss hw hE Ta0 Ta0 (lv_sub hl [0, 1, 2, 3] rfl) hm
    · rw [if_neg h18] at hm
      refine lv_iconst (v := 1) hx hb dX11_sellers_25 (by decide) ?_
      refine lv_goto (tgt := 30) hx hb dX11_sellers_26 (by decide) ?_
      exact wpb_X11_sellers_30 cx hno C X S0 n hst E Q mc ms a0 x1 x2 x3 a0 1 S_13 _ _ _ (c2) (s3) (mc - (c2)) (ms - (s3)) hcc hss hw hE Ta0 Ta0 (lv_sub hl [0, 1, 2, 3] rfl) hm
abbrev rw_X11_gets (mc ms : Nat) : Room := { frames := 8, cells := mc, slots := ms, locals := 131 }
def pb_X11_gets_31 (n : Nat) (a0 : Nat) (x1 : Int32) (x2 : Int32) (x3 : Int32) (b0 : Nat) (z1 : Int32) (S : pq_S) (bc bs : Nat) (E : (Nat → pq_S → Prop)) (Q : (Int32 → pq_S → Prop)) : Prop := ∃ c20 s21 : Nat, c20 ≤ bc ∧ s21 ≤ bs ∧ wp_X11_need n b0 z1 S c20 s21 E (fun S_19 => ∃ q25 : Nat, (pR S_19 1102 a0) = some q25 ∧ (∃ r28 S_26, m_X3_gained n q25 x1 x2 x3 S_19 = some (r28, S_26) ∧ (Q r28 S_26)))
set_option maxHeartbeats 4000000 in
set_option maxRecDepth 100000 in
theorem wpb_X11_gets_31 {p : Program} {l : Launch} {e : Env} {s : State} {m : MethodId} {args : Array Value} {below : List Frame} {meth : Method} {c : Code} (cx : Cx p s m args meth c cX11_gets 4 RX11 (some .int)) (hno : ∀ x ∈ c.exceptionTable.toList, False) (C : pq_C) (X : va_W) (S0 : pq_S) (n : Nat) (hst : l.stackTraces = false) (E : (Nat → pq_S → Prop)) (Q : (Int32 → pq_S → Prop)) (mc ms : Nat) : ∀ (a0 : Nat) (x1 : Int32) (x2 : Int32) (x3 : Int32) (b0 : Nat) (z1 : Int32) (S : pq_S) (H : Heap) (locs : List Loc) (ls : Array Slot) (cells slots bc bs : Nat), cells + bc ≤ mc → slots + bs ≤ ms → PW C X S (pq_F C X S0 s.heap.size) H locs s → Ext S0 S → TY S a0 11 → TY S b0 11 → lv_has ls 4 [(0, .ref a0), (1, .int x1), (2, .int x2), (3, .int x3)] → pb_X11_gets_31 n a0 x1 x2 x3 b0 z1 S bc bs E Q → W p l e (rw_X11_gets mc ms) s m args below meth c H locs cells slots (vx_MQ below (QwI C X S0 s.heap.size Q) (XcP C X S0 s.heap.size E) args s mc ms (pq_F C X S0 s.heap.size)) (F0 m 31 ls [.int z1, .ref b0]) := by
  obtain ⟨hx, hb, hml, hown, hU, hr, hlk⟩ := id cx
  intro a0 x1 x2 x3 b0 z1 S H locs ls cells slots bc bs hcc hss hw hE Ta0 Tb0 hl hm
  rw [pb_X11_gets_31] at hm
  obtain ⟨c20, s21, hb22, hb23, hm⟩ := hm
  refine px_v (vx_runV (As := [.int z1]) (rest := []) ⟨hx, hb, hml, hown, hU⟩ (cw_X11_need l C X n S hw.wf _ b0 z1 (Tb0) c20 s21 hst E _ hm) (cwV 1 hU (pq_gV tw490 tw492 ts7 tw1 tc_X11_need) rfl rfl rfl cd_X11_need ⟨Nat.le_of_ble_eq_true rfl, Nat.le_of_ble_eq_true rfl⟩) (pw_preV hw Tb0 (by decide) rfl) rfl rfl hl.1 rfl (lv_room (Nat.le_of_ble_eq_true rfl)) dX11_gets_31 ⟨by show _ ≤ mc; omega, by show _ ≤ ms; omega⟩) hw hE hno hlk (by omega) (by omega) (fun S_19 H locs hm hw hx24 => ?_)
  have Ta0 : TY S_19 a0 11 := ty_ext hx24 Ta0
  have hE : Ext S0 S_19 := Ext.tr hE hx24
  refine W.widen (k := cells + (c20)) (n := slots + (s21)) (by omega) (by omega) ?_
  have hcc : cells + (c20) + (bc - (c20)) ≤ mc := by omega
  have hss : slots + (s21) + (bs - (s21)) ≤ ms := by omega
  refine lv_aload_n hx hb dX11_gets_34 rfl (lv_at hl 0 rfl) ?_
  obtain ⟨q25, hq25, hm⟩ := hm
  have Tq25 : TY S_19 q25 3 := hw.wf.ref (k := 11) (j := 2) Ta0 (by decide) (by decide) hq25
  refine pg_rb (k := 11) (j := 2) (f := 1102) hx hb hown hU iu11 hw Ta0 (by decide) rfl (hU _ tw365) rfl hq25 dX11_gets_35 ?_
  refine lv_iload_n hx hb dX11_gets_38 rfl (lv_at hl 1 rfl) ?_
  refine lv_iload_n hx hb dX11_gets_39 rfl (lv_at hl 2 rfl) ?_
  refine lv_iload_n hx hb dX11_gets_40 rfl (lv_at hl 3 rfl) ?_
  obtain ⟨r28, S_26, hq27, hm⟩ := hm
  refine pw_ci (va_runVN (As := [.int x1, .int x2, .int x3]) (rest := []) ⟨hx, hb, hml, hown, hU⟩ (c_X3_gained l C X n S_19 hw.wf _ q25 x1 x2 x3 (Tq25) r28 S_26 hq27) ⟨va_cnB (host := "WickNights") 3 hU (pq_g1 tc_X3_gained) rfl rfl rfl (hw.nw 181 rfl) (hU _ tw8) cd_X3_gained.2 ⟨Nat.le_of_ble_eq_true rfl, Nat.le_of_ble_eq_true rfl⟩, hU _ tw1336, hU _ ts110⟩ (pw_preV hw Tq25 (by decide) rfl) rfl rfl hl.1 rfl (lv_room (Nat.le_of_ble_eq_true rfl)) dX11_gets_41 ⟨by show _ ≤ mc; omega, by show _ ≤ ms; omega⟩) hw (fun H locs hw hx29 => ?_)
  have Ta0 : TY S_26 a0 11 := ty_ext hx29 Ta0
  have hE : Ext S0 S_26 := Ext.tr hE hx29
  refine vx_ret ?_
  exact pw_wiret hx hb hr rfl hlk hw hE hm (by omega) (by omega) dX11_gets_44
def pb_X11_gets_30 (n : Nat) (a0 : Nat) (x1 : Int32) (x2 : Int32) (x3 : Int32) (b0 : Nat) (S : pq_S) (bc bs : Nat) (E : (Nat → pq_S → Prop)) (Q : (Int32 → pq_S → Prop)) : Prop := pb_X11_gets_31 n a0 x1 x2 x3 b0 0 S bc bs E Q
set_option maxHeartbeats 4000000 in
set_option maxRecDepth 100000 in
theorem wpb_X11_gets_30 {p : Program} {l : Launch} {e : Env} {s : State} {m : MethodId} {args : Array Value} {below : List Frame} {meth : Method} {c : Code} (cx : Cx p s m args meth c cX11_gets 4 RX11 (some .int)) (hno : ∀ x ∈ c.exceptionTable.toList, False) (C : pq_C) (X : va_W) (S0 : pq_S) (n : Nat) (hst : l.stackTraces = false) (E : (Nat → pq_S → Prop)) (Q : (Int32 → pq_S → Prop)) (mc ms : Nat) : ∀ (a0 : Nat) (x1 : Int32) (x2 : Int32) (x3 : Int32) (b0 : Nat) (S : pq_S) (H : Heap) (locs : List Loc) (ls : Array Slot) (cells slots bc bs : Nat), cells + bc ≤ mc → slots + bs ≤ ms → PW C X S (pq_F C X S0 s.heap.size) H locs s → Ext S0 S → TY S a0 11 → TY S b0 11 → lv_has ls 4 [(0, .ref a0), (1, .int x1), (2, .int x2), (3, .int x3)] → pb_X11_gets_30 n a0 x1 x2 x3 b0 S bc bs E Q → W p l e (rw_X11_gets mc ms) s m args below meth c H locs cells slots (vx_MQ below (QwI C X S0 s.heap.size Q) (XcP C X S0 s.heap.size E) args s mc ms (pq_F C X S0 s.heap.size)) (F0 m 30 ls [.ref b0]) := by
  obtain ⟨hx, hb, hml, hown, hU, hr, hlk⟩ := id cx
  intro a0 x1 x2 x3 b0 S H locs ls cells slots bc bs hcc hss hw hE Ta0 Tb0 hl hm
  rw [pb_X11_gets_30] at hm
  refine lv_iconst (v := 0) hx hb dX11_gets_30 (by decide) ?_
  exact wpb_X11_gets_31 cx hno C X S0 n hst E Q mc ms a0 x1 x2 x3 b0 0 S _ _ _ (cells) (slots) bc bs hcc hss hw hE Ta0 Tb0 (lv_sub hl [0, 1, 2, 3] rfl) hm
def wp_X11_gets (n : Nat) (a0 : Nat) (x1 : Int32) (x2 : Int32) (x3 : Int32) (S0 : pq_S) (mc ms : Nat) (E : (Nat → pq_S → Prop)) (Q : (Int32 → pq_S → Prop)) : Prop := ∃ c2 s3 : Nat, c2 ≤ mc ∧ s3 ≤ ms ∧ wp_X11_needPlace n a0 x1 S0 c2 s3 E (fun S_1 => ∃ r9 S_7, m_X11_isWithin n x2 0 99 S_1 = some (r9, S_7) ∧ (if r9 = 0 then pb_X11_gets_30 n a0 x1 x2 x3 a0 S_7 (mc - (c2)) (ms - (s3)) E Q else ∃ r15 S_13, m_X11_isWithin n x3 0 99 S_7 = some (r15, S_13) ∧ (if r15 = 0 then pb_X11_gets_30 n a0 x1 x2 x3 a0 S_13 (mc - (c2)) (ms - (s3)) E Q else pb_X11_gets_31 n a0 x1 x2 x3 a0 1 S_13 (mc - (c2)) (ms - (s3)) E Q)))
theorem tc_X11_gets : Cond.code yX11_gets cX11_gets 4 (some .int) ∈ pq_U := tw1356
theorem cd_X11_gets : yX11_gets.cls = RX11 ∧ yX11_gets.cls ≠ "java/lang/invoke/MethodHandle" ∧ yX11_gets.cls ≠ "java/lang/invoke/VarHandle" ∧ (parseMethodDescriptor yX11_gets.desc).map (fun d => d.parameters.length) = some 3 := by decide +kernel
set_option maxHeartbeats 4000000 in
set_option maxRecDepth 100000 in
theorem cw_X11_gets (l : Launch) (C : pq_C) (X : va_W) (n : Nat) (S0 : pq_S) (hF : WF S0) (sz : Nat) (a0 : Nat) (x1 : Int32) (x2 : Int32) (x3 : Int32) (Ta0 : TY S0 a0 11) (mc ms : Nat) (hst : l.stackTraces = false) (E : (Nat → pq_S → Prop)) (Q : (Int32 → pq_S → Prop)) (hm : wp_X11_gets n a0 x1 x2 x3 S0 mc ms E Q) : vx_Met l yX11_gets (.code yX11_gets cX11_gets 4 (some .int) :: pq_U) (rw_X11_gets mc ms) (va_Pc [.ref a0, .int x1, .int x2, .int x3] (CPre C X S0 sz)) (QwI C X S0 sz Q) (XcP C X S0 sz E) mc ms (pq_F C X S0 sz) := by
  refine vx_ofW (cc := cX11_gets) (maxL := 4) (ret := (some .int)) (by decide) rfl ?_
  intro p e s m args below meth c s₁ B hml hno hv
  obtain ⟨rfl, hv⟩ := hv
  have hsz := hv.1
  subst hsz
  have hw := pw_entry hF hv
  have hts := atoms_spec (ws := .code yX11_gets cX11_gets 4 (some .int) :: pq_U) B.pre
  have hU : ∀ w ∈ pq_U, w.before _ s = true := fun w h => hts w (List.mem_cons_of_mem _ h)
  have hx := B.exec
  have hb := B.bytes
  have hr := B.returns
  have hown : s.vm.findClass RX11 = some m.cls := findClass_of_methodNamed B.named
  have hlk := B.notSynchronized
  have hl := lv_entry ([.ref a0, .int x1, .int x2, .int x3]) (n := 4) (Nat.le_of_ble_eq_true rfl)
  rw [lg_entry_eq]
  generalize (lg_sl ([.ref a0, .int x1, .int x2, .int x3]) ++ List.replicate (4 - (lg_sl ([.ref a0, .int x1, .int x2, .int x3])).length) Slot.unset).toArray = ls at hl ⊢
  have hl : lv_has ls 4 [(0, .ref a0), (1, .int x1), (2, .int x2), (3, .int x3)] := hl
  have hE : Ext S0 S0 := Ext.rf _
  have cx : Cx p s m _ meth c cX11_gets 4 RX11 (some .int) := ⟨hx, hb, hml, hown, hU, hr, hlk⟩
  have hcc : 0 + mc ≤ mc := by omega
  have hss : 0 + ms ≤ ms := by omega
  rw [wp_X11_gets] at hm
  refine lv_aload_n hx hb dX11_gets_0 rfl (lv_at hl 0 rfl) ?_
  refine lv_iload_n hx hb dX11_gets_1 rfl (lv_at hl 1 rfl) ?_
  obtain ⟨c2, s3, hb4, hb5, hm⟩ := hm
  refine px_v (vx_runV (As := [.int x1]) (rest := []) ⟨hx, hb, hml, hown, hU⟩ (cw_X11_needPlace l C X n S0 hw.wf _ a0 x1 (Ta0) c2 s3 hst E _ hm) (cwV 1 hU (pq_gV tw996 tw998 ts76 tw1 tc_X11_needPlace) rfl rfl rfl cd_X11_needPlace ⟨Nat.le_of_ble_eq_true rfl, Nat.le_of_ble_eq_true rfl⟩) (pw_preV hw Ta0 (by decide) rfl) rfl rfl hl.1 rfl (lv_room (Nat.le_of_ble_eq_true rfl)) dX11_gets_2 ⟨by show _ ≤ mc; omega, by show _ ≤ ms; omega⟩) hw hE hno hlk (by omega) (by omega) (fun S_1 H locs hm hw hx6 => ?_)
  have Ta0 : TY S_1 a0 11 := ty_ext hx6 Ta0
  have hE : Ext S0 S_1 := Ext.tr hE hx6
  refine W.widen (k := c2) (n := s3) (by omega) (by omega) ?_
  have hcc : c2 + (mc - (c2)) ≤ mc := by omega
  have hss : s3 + (ms - (s3)) ≤ ms := by omega
  refine lv_aload_n hx hb dX11_gets_5 rfl (lv_at hl 0 rfl) ?_
  refine lv_iload_n hx hb dX11_gets_6 rfl (lv_at hl 2 rfl) ?_
  refine lv_iconst (v := 0) hx hb dX11_gets_7 (by decide) ?_
  refine lv_bipush (v := 99) hx hb dX11_gets_8 (by decide) ?_
  obtain ⟨r9, S_7, hq8, hm⟩ := hm
  refine pw_cz (va_runS (As := [.int x2, .int 0, .int 99]) (rest := [.ref a0]) ⟨hx, hb, hml, hown, hU⟩ (c_X11_isWithin l C X n S_1 hw.wf _ x2 0 99  r9 S_7 hq8) ⟨callB_of 3 hU (pq_g1 tc_X11_isWithin) rfl rfl rfl (hU _ tw1) (hU _ tw453) cd_X11_isWithin.2 ⟨Nat.le_of_ble_eq_true rfl, Nat.le_of_ble_eq_true rfl⟩, hU _ tw454⟩ (pw_preS hw) rfl rfl hl.1 rfl (lv_room (Nat.le_of_ble_eq_true rfl)) dX11_gets_10 ⟨by show _ ≤ mc; omega, by show _ ≤ ms; omega⟩) hw (fun H locs hw hx10 hz11 => ?_)
  have Ta0 : TY S_7 a0 11 := ty_ext hx10 Ta0
  have hE : Ext S0 S_7 := Ext.tr hE hx10
  refine lv_if_eq (tgt := 30) hx hb dX11_gets_13 (by decide) (fun h12 => ?_) (fun h12 => ?_)
  · rw [if_pos h12] at hm
    exact wpb_X11_gets_30 cx hno C X S0 n hst E Q mc ms a0 x1 x2 x3 a0 S_7 _ _ _ (c2) (s3) (mc - (c2)) (ms - (s3)) hcc hss hw hE Ta0 Ta0 (lv_sub hl [0, 1, 2, 3] rfl) hm
  · rw [if_neg h12] at hm
    refine lv_iload_n hx hb dX11_gets_16 rfl (lv_at hl 3 rfl) ?_
    refine lv_iconst (v := 0) hx hb dX11_gets_17 (by decide) ?_
    refine lv_bipush (v := 99) hx hb dX11_gets_18 (by decide) ?_
    obtain ⟨r15, S_13, hq14, hm⟩ := hm
    refine pw_cz (va_runS (As := [.int x3, .int 0, .int 99]) (rest := [.ref a0]) ⟨hx, hb, hml, hown, hU⟩ (c_X11_isWithin l C X n S_7 hw.wf _ x3 0 99  r15 S_13 hq14) ⟨callB_of 3 hU (pq_g1 tc_X11_isWithin) rfl rfl rfl (hU _ tw1) (hU _ tw453) cd_X11_isWithin.2 ⟨Nat.le_of_ble_eq_true rfl, Nat.le_of_ble_eq_true rfl⟩, hU _ tw454⟩ (pw_preS hw) rfl rfl hl.1 rfl (lv_room (Nat.le_of_ble_eq_true rfl)) dX11_gets_20 ⟨by show _ ≤ mc; omega, by show _ ≤ ms; omega⟩) hw (fun H locs hw hx16 hz17 => ?_)
    have Ta0 : TY S_13 a0 11 := ty_ext hx16 Ta0
    have hE : Ext S0 S_13 := Ext.tr hE hx16
    refine lv_if_eq (tgt := 30) hx hb dX11_gets_23 (by decide) (fun h18 => ?_) (fun h18 => ?_)
    · rw [if_pos h18] at hm
      exact wpb_X11_gets_30 cx hno C X S0 n hst E Q mc ms a0 x1 x2 x3 a0 S_13 _ _ _ (c2) (s3) (mc - (c2)) (ms - (s3)) hcc hss hw hE Ta0 Ta0 (lv_sub hl [0, 1, 2, 3] rfl) hm
    · rw [if_neg h18] at hm
      refine lv_iconst (v := 1) hx hb dX11_gets_26 (by decide) ?_
      refine lv_goto (tgt := 31) hx hb dX11_gets_27 (by decide) ?_
      exact wpb_X11_gets_31 cx hno C X S0 n hst E Q mc ms a0 x1 x2 x3 a0 1 S_13 _ _ _ (c2) (s3) (mc - (c2)) (ms - (s3)) hcc hss hw hE Ta0 Ta0 (lv_sub hl [0, 1, 2, 3] rfl) hm
abbrev rw_X11_looks (mc ms : Nat) : Room := { frames := 7, cells := mc, slots := ms, locals := 110 }
def pb_X11_looks_80 (n : Nat) (a0 : Nat) (x1 : Int32) (x3 : Int32) (x4 : Int32) (S : pq_S) (bc bs : Nat) (E : (Nat → pq_S → Prop)) (Q : (Int32 → pq_S → Prop)) : Prop := if x3 = 0 then ∃ q37 : Nat, (pR S 1111 a0) = some q37 ∧ ((ix x1 (pN S q37)) ∧ (Q (pA S q37 (Int32.toNatClampNeg x1)) S)) else Q x4 S
set_option maxHeartbeats 4000000 in
set_option maxRecDepth 100000 in
theorem wpb_X11_looks_80 {p : Program} {l : Launch} {e : Env} {s : State} {m : MethodId} {args : Array Value} {below : List Frame} {meth : Method} {c : Code} (cx : Cx p s m args meth c cX11_looks 6 RX11 (some .int)) (hno : ∀ x ∈ c.exceptionTable.toList, False) (C : pq_C) (X : va_W) (S0 : pq_S) (n : Nat) (hst : l.stackTraces = false) (E : (Nat → pq_S → Prop)) (Q : (Int32 → pq_S → Prop)) (mc ms : Nat) : ∀ (a0 : Nat) (x1 : Int32) (x3 : Int32) (x4 : Int32) (S : pq_S) (H : Heap) (locs : List Loc) (ls : Array Slot) (cells slots bc bs : Nat), cells + bc ≤ mc → slots + bs ≤ ms → PW C X S (pq_F C X S0 s.heap.size) H locs s → Ext S0 S → TY S a0 11 → lv_has ls 6 [(0, .ref a0), (1, .int x1), (3, .int x3), (4, .int x4)] → pb_X11_looks_80 n a0 x1 x3 x4 S bc bs E Q → W p l e (rw_X11_looks mc ms) s m args below meth c H locs cells slots (vx_MQ below (QwI C X S0 s.heap.size Q) (XcP C X S0 s.heap.size E) args s mc ms (pq_F C X S0 s.heap.size)) (F0 m 80 ls []) := by
  obtain ⟨hx, hb, hml, hown, hU, hr, hlk⟩ := id cx
  intro a0 x1 x3 x4 S H locs ls cells slots bc bs hcc hss hw hE Ta0 hl hm
  rw [pb_X11_looks_80] at hm
  refine lv_iload_n hx hb dX11_looks_80 rfl (lv_at hl 2 rfl) ?_
  refine lv_if_ne (tgt := 93) hx hb dX11_looks_81 (by decide) (fun h36 => ?_) (fun h36 => ?_)
  · rw [if_neg h36] at hm
    refine lv_iload hx hb dX11_looks_93 (lv_at hl 3 rfl) ?_
    refine vx_ret ?_
    exact pw_wiret hx hb hr rfl hlk hw hE hm (by omega) (by omega) dX11_looks_95
  · rw [if_pos h36] at hm
    refine lv_aload_n hx hb dX11_looks_84 rfl (lv_at hl 0 rfl) ?_
    obtain ⟨q37, hq37, hm⟩ := hm
    have Tq37 : TY S q37 14 := hw.wf.ref (k := 11) (j := 11) Ta0 (by decide) (by decide) hq37
    refine pg_rb (k := 11) (j := 11) (f := 1111) hx hb hown hU iu11 hw Ta0 (by decide) rfl (hU _ tw374) rfl hq37 dX11_looks_85 ?_
    refine lv_iload_n hx hb dX11_looks_88 rfl (lv_at hl 1 rfl) ?_
    obtain ⟨hi38, hm⟩ := hm
    refine pw_iald hx hb hw Tq37 hi38 dX11_looks_89 ?_
    refine lv_goto (tgt := 95) hx hb dX11_looks_90 (by decide) ?_
    refine vx_ret ?_
    exact pw_wiret hx hb hr rfl hlk hw hE hm (by omega) (by omega) dX11_looks_95
def pb_X11_looks_44 (n : Nat) : Nat → Nat → Int32 → Int32 → Int32 → Int32 → Int32 → pq_S → Nat → Nat → (Nat → pq_S → Prop) → (Int32 → pq_S → Prop) → Prop
  | 0, _, _, _, _, _, _, _, _, _, _, _ => False
  | f + 1, a0, x1, x2, x3, x4, x5, S, bc, bs, E, Q => if x1 < x5 then pb_X11_looks_80 n a0 x1 x3 x4 S bc bs E Q else ∃ r28 S_26, m_X11_firstLook n a0 x5 x2 S = some (r28, S_26) ∧ (∃ q30 : Nat, (pR S_26 1111 a0) = some q30 ∧ (∃ r33 S_31, m_X11_looksBehind n a0 x5 r28 S_26 = some (r33, S_31) ∧ ((ix x5 (pN S_31 q30)) ∧ (pb_X11_looks_44 n f a0 x1 x2 x3 r28 (x5 + 1) (sA S_31 q30 (Int32.toNatClampNeg x5) r33) bc bs E Q))))
set_option maxHeartbeats 4000000 in
set_option maxRecDepth 100000 in
theorem wpb_X11_looks_44 {p : Program} {l : Launch} {e : Env} {s : State} {m : MethodId} {args : Array Value} {below : List Frame} {meth : Method} {c : Code} (cx : Cx p s m args meth c cX11_looks 6 RX11 (some .int)) (hno : ∀ x ∈ c.exceptionTable.toList, False) (C : pq_C) (X : va_W) (S0 : pq_S) (n : Nat) (hst : l.stackTraces = false) (E : (Nat → pq_S → Prop)) (Q : (Int32 → pq_S → Prop)) (mc ms : Nat) : ∀ (f : Nat) (a0 : Nat) (x1 : Int32) (x2 : Int32) (x3 : Int32) (x4 : Int32) (x5 : Int32) (S : pq_S) (H : Heap) (locs : List Loc) (ls : Array Slot) (cells slots bc bs : Nat), cells + bc ≤ mc → slots + bs ≤ ms → PW C X S (pq_F C X S0 s.heap.size) H locs s → Ext S0 S → TY S a0 11 → lv_has ls 6 [(0, .ref a0), (1, .int x1), (2, .int x2), (3, .int x3), (4, .int x4), (5, .int x5)] → pb_X11_looks_44 n f a0 x1 x2 x3 x4 x5 S bc bs E Q → W p l e (rw_X11_looks mc ms) s m args below meth c H locs cells slots (vx_MQ below (QwI C X S0 s.heap.size Q) (XcP C X S0 s.heap.size E) args s mc ms (pq_F C X S0 s.heap.size)) (F0 m 44 ls []) := by
  obtain ⟨hx, hb, hml, hown, hU, hr, hlk⟩ := id cx
  intro f
  induction f with
  | zero =>
    intro a0 x1 x2 x3 x4 x5 S H locs ls cells slots bc bs hcc hss hw hE Ta0 hl hm
    exact hm.elim
  | succ f ih =>
    intro a0 x1 x2 x3 x4 x5 S H locs ls cells slots bc bs hcc hss hw hE Ta0 hl hm
    rw [pb_X11_looks_44] at hm
    refine lv_iload hx hb dX11_looks_44 (lv_at hl 5 rfl) ?_
    refine lv_iload_n hx hb dX11_looks_46 rfl (lv_at hl 1 rfl) ?_
    refine lv_icmp_gt (tgt := 80) hx hb dX11_looks_47 (by decide) (fun h25 => ?_) (fun h25 => ?_)
    · rw [if_pos h25] at hm
      exact wpb_X11_looks_80 cx hno C X S0 n hst E Q mc ms a0 x1 x3 x4 S _ _ _ (cells) (slots) bc bs hcc hss hw hE Ta0 (lv_sub hl [0, 1, 3, 4] rfl) hm
    · rw [if_neg h25] at hm
      refine lv_aload_n hx hb dX11_looks_50 rfl (lv_at hl 0 rfl) ?_
      refine lv_iload hx hb dX11_looks_51 (lv_at hl 5 rfl) ?_
      refine lv_iload_n hx hb dX11_looks_53 rfl (lv_at hl 2 rfl) ?_
      obtain ⟨r28, S_26, hq27, hm⟩ := hm
      refine pw_ci (va_runV (As := [.int x5, .int x2]) (rest := []) ⟨hx, hb, hml, hown, hU⟩ (c_X11_firstLook l C X n S hw.wf _ a0 x5 x2 (Ta0) r28 S_26 hq27) (cwV 2 hU (pq_gV tw1262 tw1264 ts100 tw1 tc_X11_firstLook) rfl rfl rfl cd_X11_firstLook ⟨Nat.le_of_ble_eq_true rfl, Nat.le_of_ble_eq_true rfl⟩) (pw_preV hw Ta0 (by decide) rfl) rfl rfl hl.1 rfl (lv_room (Nat.le_of_ble_eq_true rfl)) dX11_looks_54 ⟨by show _ ≤ mc; omega, by show _ ≤ ms; omega⟩) hw (fun H locs hw hx29 => ?_)
      have Ta0 : TY S_26 a0 11 := ty_ext hx29 Ta0
      have hE : Ext S0 S_26 := Ext.tr hE hx29
      refine lv_istore (lv' := [(4, .int r28), (0, .ref a0), (1, .int x1), (2, .int x2), (3, .int x3), (5, .int x5)]) hx hb dX11_looks_57 hl (by decide) rfl (fun ls hl => ?_)
      refine lv_aload_n hx hb dX11_looks_59 rfl (lv_at hl 1 rfl) ?_
      obtain ⟨q30, hq30, hm⟩ := hm
      have Tq30 : TY S_26 q30 14 := hw.wf.ref (k := 11) (j := 11) Ta0 (by decide) (by decide) hq30
      refine pg_rb (k := 11) (j := 11) (f := 1111) hx hb hown hU iu11 hw Ta0 (by decide) rfl (hU _ tw374) rfl hq30 dX11_looks_60 ?_
      refine lv_iload hx hb dX11_looks_63 (lv_at hl 5 rfl) ?_
      refine lv_aload_n hx hb dX11_looks_65 rfl (lv_at hl 1 rfl) ?_
      refine lv_iload hx hb dX11_looks_66 (lv_at hl 5 rfl) ?_
      refine lv_iload hx hb dX11_looks_68 (lv_at hl 0 rfl) ?_
      obtain ⟨r33, S_31, hq32, hm⟩ := hm
      refine pw_ci (va_runV (As := [.int x5, .int r28]) (rest := [.int x5, .ref q30]) ⟨hx, hb, hml, hown, hU⟩ (c_X11_looksBehind l C X n S_26 hw.wf _ a0 x5 r28 (Ta0) r33 S_31 hq32) (cwV 2 hU (pq_gV tw1266 tw1268 ts101 tw1 tc_X11_looksBehind) rfl rfl rfl cd_X11_looksBehind ⟨Nat.le_of_ble_eq_true rfl, Nat.le_of_ble_eq_true rfl⟩) (pw_preV hw Ta0 (by decide) rfl) rfl rfl hl.1 rfl (lv_room (Nat.le_of_ble_eq_true rfl)) dX11_looks_70 ⟨by show _ ≤ mc; omega, by show _ ≤ ms; omega⟩) hw (fun H locs hw hx34 => ?_)
      have Tq30 : TY S_31 q30 14 := ty_ext hx34 Tq30
      have Ta0 : TY S_31 a0 11 := ty_ext hx34 Ta0
      have hE : Ext S0 S_31 := Ext.tr hE hx34
      obtain ⟨hi35, hm⟩ := hm
      refine pw_iast hx hb hw Tq30 hi35 dX11_looks_73 (fun H locs hw => ?_)
      refine lv_iinc (v := (x5 + 1)) (lv' := [(5, .int (x5 + 1)), (4, .int r28), (0, .ref a0), (1, .int x1), (2, .int x2), (3, .int x3)]) hx hb dX11_looks_74 hl (k := 5) rfl rfl (by decide) rfl (fun ls hl => ?_)
      refine lv_goto (tgt := 44) hx hb dX11_looks_77 (by decide) ?_
      exact ih a0 x1 x2 x3 r28 (x5 + 1) (sA S_31 q30 (Int32.toNatClampNeg x5) r33) _ _ _ (cells) (slots) bc bs hcc hss hw hE Ta0 (lv_sub hl [2, 3, 4, 5, 1, 0] rfl) hm
def pb_X11_looks_35 (n : Nat) (a0 : Nat) (x1 : Int32) (x2 : Int32) (x3 : Int32) (b0 : Nat) (z1 : Int32) (S : pq_S) (bc bs : Nat) (E : (Nat → pq_S → Prop)) (Q : (Int32 → pq_S → Prop)) : Prop := ∃ c20 s21 : Nat, c20 ≤ bc ∧ s21 ≤ bs ∧ wp_X11_need n b0 z1 S c20 s21 E (fun S_19 => pb_X11_looks_44 n n a0 x1 x2 x3 0 2 S_19 (bc - (c20)) (bs - (s21)) E Q)
set_option maxHeartbeats 4000000 in
set_option maxRecDepth 100000 in
theorem wpb_X11_looks_35 {p : Program} {l : Launch} {e : Env} {s : State} {m : MethodId} {args : Array Value} {below : List Frame} {meth : Method} {c : Code} (cx : Cx p s m args meth c cX11_looks 6 RX11 (some .int)) (hno : ∀ x ∈ c.exceptionTable.toList, False) (C : pq_C) (X : va_W) (S0 : pq_S) (n : Nat) (hst : l.stackTraces = false) (E : (Nat → pq_S → Prop)) (Q : (Int32 → pq_S → Prop)) (mc ms : Nat) : ∀ (a0 : Nat) (x1 : Int32) (x2 : Int32) (x3 : Int32) (b0 : Nat) (z1 : Int32) (S : pq_S) (H : Heap) (locs : List Loc) (ls : Array Slot) (cells slots bc bs : Nat), cells + bc ≤ mc → slots + bs ≤ ms → PW C X S (pq_F C X S0 s.heap.size) H locs s → Ext S0 S → TY S a0 11 → TY S b0 11 → lv_has ls 6 [(0, .ref a0), (1, .int x1), (2, .int x2), (3, .int x3)] → pb_X11_looks_35 n a0 x1 x2 x3 b0 z1 S bc bs E Q → W p l e (rw_X11_looks mc ms) s m args below meth c H locs cells slots (vx_MQ below (QwI C X S0 s.heap.size Q) (XcP C X S0 s.heap.size E) args s mc ms (pq_F C X S0 s.heap.size)) (F0 m 35 ls [.int z1, .ref b0]) := by
  obtain ⟨hx, hb, hml, hown, hU, hr, hlk⟩ := id cx
  intro a0 x1 x2 x3 b0 z1 S H locs ls cells slots bc bs hcc hss hw hE Ta0 Tb0 hl hm
  rw [pb_X11_looks_35] at hm
  obtain ⟨c20, s21, hb22, hb23, hm⟩ := hm
  refine px_v (vx_runV (As := [.int z1]) (rest := []) ⟨hx, hb, hml, hown, hU⟩ (cw_X11_need l C X n S hw.wf _ b0 z1 (Tb0) c20 s21 hst E _ hm) (cwV 1 hU (pq_gV tw490 tw492 ts7 tw1 tc_X11_need) rfl rfl rfl cd_X11_need ⟨Nat.le_of_ble_eq_true rfl, Nat.le_of_ble_eq_true rfl⟩) (pw_preV hw Tb0 (by decide) rfl) rfl rfl hl.1 rfl (lv_room (Nat.le_of_ble_eq_true rfl)) dX11_looks_35 ⟨by show _ ≤ mc; omega, by show _ ≤ ms; omega⟩) hw hE hno hlk (by omega) (by omega) (fun S_19 H locs hm hw hx24 => ?_)
  have Ta0 : TY S_19 a0 11 := ty_ext hx24 Ta0
  have hE : Ext S0 S_19 := Ext.tr hE hx24
  refine W.widen (k := cells + (c20)) (n := slots + (s21)) (by omega) (by omega) ?_
  have hcc : cells + (c20) + (bc - (c20)) ≤ mc := by omega
  have hss : slots + (s21) + (bs - (s21)) ≤ ms := by omega
  refine lv_iconst (v := 0) hx hb dX11_looks_38 (by decide) ?_
  refine lv_istore (lv' := [(4, .int 0), (0, .ref a0), (1, .int x1), (2, .int x2), (3, .int x3)]) hx hb dX11_looks_39 hl (by decide) rfl (fun ls hl => ?_)
  refine lv_iconst (v := 2) hx hb dX11_looks_41 (by decide) ?_
  refine lv_istore (lv' := [(5, .int 2), (4, .int 0), (0, .ref a0), (1, .int x1), (2, .int x2), (3, .int x3)]) hx hb dX11_looks_42 hl (by decide) rfl (fun ls hl => ?_)
  exact wpb_X11_looks_44 cx hno C X S0 n hst E Q mc ms n a0 x1 x2 x3 0 2 S_19 _ _ _ (cells + (c20)) (slots + (s21)) (bc - (c20)) (bs - (s21)) hcc hss hw hE Ta0 (lv_sub hl [2, 3, 4, 5, 1, 0] rfl) hm
def pb_X11_looks_34 (n : Nat) (a0 : Nat) (x1 : Int32) (x2 : Int32) (x3 : Int32) (b0 : Nat) (S : pq_S) (bc bs : Nat) (E : (Nat → pq_S → Prop)) (Q : (Int32 → pq_S → Prop)) : Prop := pb_X11_looks_35 n a0 x1 x2 x3 b0 0 S bc bs E Q
set_option maxHeartbeats 4000000 in
set_option maxRecDepth 100000 in
theorem wpb_X11_looks_34 {p : Program} {l : Launch} {e : Env} {s : State} {m : MethodId} {args : Array Value} {below : List Frame} {meth : Method} {c : Code} (cx : Cx p s m args meth c cX11_looks 6 RX11 (some .int)) (hno : ∀ x ∈ c.exceptionTable.toList, False) (C : pq_C) (X : va_W) (S0 : pq_S) (n : Nat) (hst : l.stackTraces = false) (E : (Nat → pq_S → Prop)) (Q : (Int32 → pq_S → Prop)) (mc ms : Nat) : ∀ (a0 : Nat) (x1 : Int32) (x2 : Int32) (x3 : Int32) (b0 : Nat) (S : pq_S) (H : Heap) (locs : List Loc) (ls : Array Slot) (cells slots bc bs : Nat), cells + bc ≤ mc → slots + bs ≤ ms → PW C X S (pq_F C X S0 s.heap.size) H locs s → Ext S0 S → TY S a0 11 → TY S b0 11 → lv_has ls 6 [(0, .ref a0), (1, .int x1), (2, .int x2), (3, .int x3)] → pb_X11_looks_34 n a0 x1 x2 x3 b0 S bc bs E Q → W p l e (rw_X11_looks mc ms) s m args below meth c H locs cells slots (vx_MQ below (QwI C X S0 s.heap.size Q) (XcP C X S0 s.heap.size E) args s mc ms (pq_F C X S0 s.heap.size)) (F0 m 34 ls [.ref b0]) := by
  obtain ⟨hx, hb, hml, hown, hU, hr, hlk⟩ := id cx
  intro a0 x1 x2 x3 b0 S H locs ls cells slots bc bs hcc hss hw hE Ta0 Tb0 hl hm
  rw [pb_X11_looks_34] at hm
  refine lv_iconst (v := 0) hx hb dX11_looks_34 (by decide) ?_
  exact wpb_X11_looks_35 cx hno C X S0 n hst E Q mc ms a0 x1 x2 x3 b0 0 S _ _ _ (cells) (slots) bc bs hcc hss hw hE Ta0 Tb0 (lv_sub hl [0, 1, 2, 3] rfl) hm
def wp_X11_looks (n : Nat) (a0 : Nat) (x1 : Int32) (x2 : Int32) (x3 : Int32) (S0 : pq_S) (mc ms : Nat) (E : (Nat → pq_S → Prop)) (Q : (Int32 → pq_S → Prop)) : Prop := ∃ r3 S_1, m_X11_isWithin n x1 1 40 S0 = some (r3, S_1) ∧ (if r3 = 0 then pb_X11_looks_34 n a0 x1 x2 x3 a0 S_1 mc ms E Q else ∃ r9 S_7, m_X11_isWithin n x2 1 40 S_1 = some (r9, S_7) ∧ (if r9 = 0 then pb_X11_looks_34 n a0 x1 x2 x3 a0 S_7 mc ms E Q else ∃ r15 S_13, m_X11_isWithin n x3 0 1 S_7 = some (r15, S_13) ∧ (if r15 = 0 then pb_X11_looks_34 n a0 x1 x2 x3 a0 S_13 mc ms E Q else pb_X11_looks_35 n a0 x1 x2 x3 a0 1 S_13 mc ms E Q)))
theorem tc_X11_looks : Cond.code yX11_looks cX11_looks 6 (some .int) ∈ pq_U := tw1261
theorem cd_X11_looks : yX11_looks.cls = RX11 ∧ yX11_looks.cls ≠ "java/lang/invoke/MethodHandle" ∧ yX11_looks.cls ≠ "java/lang/invoke/VarHandle" ∧ (parseMethodDescriptor yX11_looks.desc).map (fun d => d.parameters.length) = some 3 := by decide +kernel
set_option maxHeartbeats 4000000 in
set_option maxRecDepth 100000 in
theorem cw_X11_looks (l : Launch) (C : pq_C) (X : va_W) (n : Nat) (S0 : pq_S) (hF : WF S0) (sz : Nat) (a0 : Nat) (x1 : Int32) (x2 : Int32) (x3 : Int32) (Ta0 : TY S0 a0 11) (mc ms : Nat) (hst : l.stackTraces = false) (E : (Nat → pq_S → Prop)) (Q : (Int32 → pq_S → Prop)) (hm : wp_X11_looks n a0 x1 x2 x3 S0 mc ms E Q) : vx_Met l yX11_looks (.code yX11_looks cX11_looks 6 (some .int) :: pq_U) (rw_X11_looks mc ms) (va_Pc [.ref a0, .int x1, .int x2, .int x3] (CPre C X S0 sz)) (QwI C X S0 sz Q) (XcP C X S0 sz E) mc ms (pq_F C X S0 sz) := by
  refine vx_ofW (cc := cX11_looks) (maxL := 6) (ret := (some .int)) (by decide) rfl ?_
  intro p e s m args below meth c s₁ B hml hno hv
  obtain ⟨rfl, hv⟩ := hv
  have hsz := hv.1
  subst hsz
  have hw := pw_entry hF hv
  have hts := atoms_spec (ws := .code yX11_looks cX11_looks 6 (some .int) :: pq_U) B.pre
  have hU : ∀ w ∈ pq_U, w.before _ s = true := fun w h => hts w (List.mem_cons_of_mem _ h)
  have hx := B.exec
  have hb := B.bytes
  have hr := B.returns
  have hown : s.vm.findClass RX11 = some m.cls := findClass_of_methodNamed B.named
  have hlk := B.notSynchronized
  have hl := lv_entry ([.ref a0, .int x1, .int x2, .int x3]) (n := 6) (Nat.le_of_ble_eq_true rfl)
  rw [lg_entry_eq]
  generalize (lg_sl ([.ref a0, .int x1, .int x2, .int x3]) ++ List.replicate (6 - (lg_sl ([.ref a0, .int x1, .int x2, .int x3])).length) Slot.unset).toArray = ls at hl ⊢
  have hl : lv_has ls 6 [(0, .ref a0), (1, .int x1), (2, .int x2), (3, .int x3)] := hl
  have hE : Ext S0 S0 := Ext.rf _
  have cx : Cx p s m _ meth c cX11_looks 6 RX11 (some .int) := ⟨hx, hb, hml, hown, hU, hr, hlk⟩
  have hcc : 0 + mc ≤ mc := by omega
  have hss : 0 + ms ≤ ms := by omega
  rw [wp_X11_looks] at hm
  refine lv_aload_n hx hb dX11_looks_0 rfl (lv_at hl 0 rfl) ?_
  refine lv_iload_n hx hb dX11_looks_1 rfl (lv_at hl 1 rfl) ?_
  refine lv_iconst (v := 1) hx hb dX11_looks_2 (by decide) ?_
  refine lv_bipush (v := 40) hx hb dX11_looks_3 (by decide) ?_
  obtain ⟨r3, S_1, hq2, hm⟩ := hm
  refine pw_cz (va_runS (As := [.int x1, .int 1, .int 40]) (rest := [.ref a0]) ⟨hx, hb, hml, hown, hU⟩ (c_X11_isWithin l C X n S0 hw.wf _ x1 1 40  r3 S_1 hq2) ⟨callB_of 3 hU (pq_g1 tc_X11_isWithin) rfl rfl rfl (hU _ tw1) (hU _ tw453) cd_X11_isWithin.2 ⟨Nat.le_of_ble_eq_true rfl, Nat.le_of_ble_eq_true rfl⟩, hU _ tw454⟩ (pw_preS hw) rfl rfl hl.1 rfl (lv_room (Nat.le_of_ble_eq_true rfl)) dX11_looks_5 ⟨by show _ ≤ mc; omega, by show _ ≤ ms; omega⟩) hw (fun H locs hw hx4 hz5 => ?_)
  have Ta0 : TY S_1 a0 11 := ty_ext hx4 Ta0
  have hE : Ext S0 S_1 := Ext.tr hE hx4
  refine lv_if_eq (tgt := 34) hx hb dX11_looks_8 (by decide) (fun h6 => ?_) (fun h6 => ?_)
  · rw [if_pos h6] at hm
    exact wpb_X11_looks_34 cx hno C X S0 n hst E Q mc ms a0 x1 x2 x3 a0 S_1 _ _ _ (0) (0) mc ms hcc hss hw hE Ta0 Ta0 (lv_sub hl [0, 1, 2, 3] rfl) hm
  · rw [if_neg h6] at hm
    refine lv_iload_n hx hb dX11_looks_11 rfl (lv_at hl 2 rfl) ?_
    refine lv_iconst (v := 1) hx hb dX11_looks_12 (by decide) ?_
    refine lv_bipush (v := 40) hx hb dX11_looks_13 (by decide) ?_
    obtain ⟨r9, S_7, hq8, hm⟩ := hm
    refine pw_cz (va_runS (As := [.int x2, .int 1, .int 40]) (rest := [.ref a0]) ⟨hx, hb, hml, hown, hU⟩ (c_X11_isWithin l C X n S_1 hw.wf _ x2 1 40  r9 S_7 hq8) ⟨callB_of 3 hU (pq_g1 tc_X11_isWithin) rfl rfl rfl (hU _ tw1) (hU _ tw453) cd_X11_isWithin.2 ⟨Nat.le_of_ble_eq_true rfl, Nat.le_of_ble_eq_true rfl⟩, hU _ tw454⟩ (pw_preS hw) rfl rfl hl.1 rfl (lv_room (Nat.le_of_ble_eq_true rfl)) dX11_looks_15 ⟨by show _ ≤ mc; omega, by show _ ≤ ms; omega⟩) hw (fun H locs hw hx10 hz11 => ?_)
    have Ta0 : TY S_7 a0 11 := ty_ext hx10 Ta0
    have hE : Ext S0 S_7 := Ext.tr hE hx10
    refine lv_if_eq (tgt := 34) hx hb dX11_looks_18 (by decide) (fun h12 => ?_) (fun h12 => ?_)
    · rw [if_pos h12] at hm
      exact wpb_X11_looks_34 cx hno C X S0 n hst E Q mc ms a0 x1 x2 x3 a0 S_7 _ _ _ (0) (0) mc ms hcc hss hw hE Ta0 Ta0 (lv_sub hl [0, 1, 2, 3] rfl) hm
    · rw [if_neg h12] at hm
      refine lv_iload_n hx hb dX11_looks_21 rfl (lv_at hl 3 rfl) ?_
      refine lv_iconst (v := 0) hx hb dX11_looks_22 (by decide) ?_
      refine lv_iconst (v := 1) hx hb dX11_looks_23 (by decide) ?_
      obtain ⟨r15, S_13, hq14, hm⟩ := hm
      refine pw_cz (va_runS (As := [.int x3, .int 0, .int 1]) (rest := [.ref a0]) ⟨hx, hb, hml, hown, hU⟩ (c_X11_isWithin l C X n S_7 hw.wf _ x3 0 1  r15 S_13 hq14) ⟨callB_of 3 hU (pq_g1 tc_X11_isWithin) rfl rfl rfl (hU _ tw1) (hU _ tw453) cd_X11_isWithin.2 ⟨Nat.le_of_ble_eq_true rfl, Nat.le_of_ble_eq_true rfl⟩, hU _ tw454⟩ (pw_preS hw) rfl rfl hl.1 rfl (lv_room (Nat.le_of_ble_eq_true rfl)) dX11_looks_24 ⟨by show _ ≤ mc; omega, by show _ ≤ ms; omega⟩) hw (fun H locs hw hx16 hz17 => ?_)
      have Ta0 : TY S_13 a0 11 := ty_ext hx16 Ta0
      have hE : Ext S0 S_13 := Ext.tr hE hx16
      refine lv_if_eq (tgt := 34) hx hb dX11_looks_27 (by decide) (fun h18 => ?_) (fun h18 => ?_)
      · rw [if_pos h18] at hm
        exact wpb_X11_looks_34 cx hno C X S0 n hst E Q mc ms a0 x1 x2 x3 a0 S_13 _ _ _ (0) (0) mc ms hcc hss hw hE Ta0 Ta0 (lv_sub hl [0, 1, 2, 3] rfl) hm
      · rw [if_neg h18] at hm
        refine lv_iconst (v := 1) hx hb dX11_looks_30 (by decide) ?_
        refine lv_goto (tgt := 35) hx hb dX11_looks_31 (by decide) ?_
        exact wpb_X11_looks_35 cx hno C X S0 n hst E Q mc ms a0 x1 x2 x3 a0 1 S_13 _ _ _ (0) (0) mc ms hcc hss hw hE Ta0 Ta0 (lv_sub hl [0, 1, 2, 3] rfl) hm
abbrev rw_X11_leaky (mc ms : Nat) : Room := { frames := 7, cells := mc, slots := ms, locals := 144 }
def wp_X11_leaky (n : Nat) (a0 : Nat) (x1 : Int32) (S0 : pq_S) (mc ms : Nat) (E : (Nat → pq_S → Prop)) (Q : (Int32 → pq_S → Prop)) : Prop := ∃ r3 S_1, m_X11_isWithin n x1 0 3 S0 = some (r3, S_1) ∧ (∃ c7 s8 : Nat, c7 ≤ mc ∧ s8 ≤ ms ∧ wp_X11_need n a0 r3 S_1 c7 s8 E (fun S_6 => ∃ q12 : Nat, (pR S_6 1107 a0) = some q12 ∧ (∃ q13 : Nat, (pR S_6 1101 a0) = some q13 ∧ (∃ q14 : Nat, (pR S_6 700 q13) = some q14 ∧ (∃ r17 S_15, m_X0_leakySets n q12 q14 x1 S_6 = some (r17, S_15) ∧ (Q r17 S_15))))))
theorem tc_X11_leaky : Cond.code yX11_leaky cX11_leaky 2 (some .int) ∈ pq_U := tw1276
theorem cd_X11_leaky : yX11_leaky.cls = RX11 ∧ yX11_leaky.cls ≠ "java/lang/invoke/MethodHandle" ∧ yX11_leaky.cls ≠ "java/lang/invoke/VarHandle" ∧ (parseMethodDescriptor yX11_leaky.desc).map (fun d => d.parameters.length) = some 1 := by decide +kernel
set_option maxHeartbeats 4000000 in
set_option maxRecDepth 100000 in
theorem cw_X11_leaky (l : Launch) (C : pq_C) (X : va_W) (n : Nat) (S0 : pq_S) (hF : WF S0) (sz : Nat) (a0 : Nat) (x1 : Int32) (Ta0 : TY S0 a0 11) (mc ms : Nat) (hst : l.stackTraces = false) (E : (Nat → pq_S → Prop)) (Q : (Int32 → pq_S → Prop)) (hm : wp_X11_leaky n a0 x1 S0 mc ms E Q) : vx_Met l yX11_leaky (.code yX11_leaky cX11_leaky 2 (some .int) :: pq_U) (rw_X11_leaky mc ms) (va_Pc [.ref a0, .int x1] (CPre C X S0 sz)) (QwI C X S0 sz Q) (XcP C X S0 sz E) mc ms (pq_F C X S0 sz) := by
  refine vx_ofW (cc := cX11_leaky) (maxL := 2) (ret := (some .int)) (by decide) rfl ?_
  intro p e s m args below meth c s₁ B hml hno hv
  obtain ⟨rfl, hv⟩ := hv
  have hsz := hv.1
  subst hsz
  have hw := pw_entry hF hv
  have hts := atoms_spec (ws := .code yX11_leaky cX11_leaky 2 (some .int) :: pq_U) B.pre
  have hU : ∀ w ∈ pq_U, w.before _ s = true := fun w h => hts w (List.mem_cons_of_mem _ h)
  have hx := B.exec
  have hb := B.bytes
  have hr := B.returns
  have hown : s.vm.findClass RX11 = some m.cls := findClass_of_methodNamed B.named
  have hlk := B.notSynchronized
  have hl := lv_entry ([.ref a0, .int x1]) (n := 2) (Nat.le_of_ble_eq_true rfl)
  rw [lg_entry_eq]
  generalize (lg_sl ([.ref a0, .int x1]) ++ List.replicate (2 - (lg_sl ([.ref a0, .int x1])).length) Slot.unset).toArray = ls at hl ⊢
  have hl : lv_has ls 2 [(0, .ref a0), (1, .int x1)] := hl
  have hE : Ext S0 S0 := Ext.rf _
  have cx : Cx p s m _ meth c cX11_leaky 2 RX11 (some .int) := ⟨hx, hb, hml, hown, hU, hr, hlk⟩
  have hcc : 0 + mc ≤ mc := by omega
  have hss : 0 + ms ≤ ms := by omega
  rw [wp_X11_leaky] at hm
  refine lv_aload_n hx hb dX11_leaky_0 rfl (lv_at hl 0 rfl) ?_
  refine lv_iload_n hx hb dX11_leaky_1 rfl (lv_at hl 1 rfl) ?_
  refine lv_iconst (v := 0) hx hb dX11_leaky_2 (by decide) ?_
  refine lv_iconst (v := 3) hx hb dX11_leaky_3 (by decide) ?_
  obtain ⟨r3, S_1, hq2, hm⟩ := hm
  refine pw_cz (va_runS (As := [.int x1, .int 0, .int 3]) (rest := [.ref a0]) ⟨hx, hb, hml, hown, hU⟩ (c_X11_isWithin l C X n S0 hw.wf _ x1 0 3  r3 S_1 hq2) ⟨callB_of 3 hU (pq_g1 tc_X11_isWithin) rfl rfl rfl (hU _ tw1) (hU _ tw453) cd_X11_isWithin.2 ⟨Nat.le_of_ble_eq_true rfl, Nat.le_of_ble_eq_true rfl⟩, hU _ tw454⟩ (pw_preS hw) rfl rfl hl.1 rfl (lv_room (Nat.le_of_ble_eq_true rfl)) dX11_leaky_4 ⟨by show _ ≤ mc; omega, by show _ ≤ ms; omega⟩) hw (fun H locs hw hx4 hz5 => ?_)
  have Ta0 : TY S_1 a0 11 := ty_ext hx4 Ta0
  have hE : Ext S0 S_1 := Ext.tr hE hx4
  obtain ⟨c7, s8, hb9, hb10, hm⟩ := hm
  refine px_v (vx_runV (As := [.int r3]) (rest := []) ⟨hx, hb, hml, hown, hU⟩ (cw_X11_need l C X n S_1 hw.wf _ a0 r3 (Ta0) c7 s8 hst E _ hm) (cwV 1 hU (pq_gV tw490 tw492 ts7 tw1 tc_X11_need) rfl rfl rfl cd_X11_need ⟨Nat.le_of_ble_eq_true rfl, Nat.le_of_ble_eq_true rfl⟩) (pw_preV hw Ta0 (by decide) rfl) rfl rfl hl.1 rfl (lv_room (Nat.le_of_ble_eq_true rfl)) dX11_leaky_7 ⟨by show _ ≤ mc; omega, by show _ ≤ ms; omega⟩) hw hE hno hlk (by omega) (by omega) (fun S_6 H locs hm hw hx11 => ?_)
  have Ta0 : TY S_6 a0 11 := ty_ext hx11 Ta0
  have hE : Ext S0 S_6 := Ext.tr hE hx11
  refine W.widen (k := c7) (n := s8) (by omega) (by omega) ?_
  have hcc : c7 + (mc - (c7)) ≤ mc := by omega
  have hss : s8 + (ms - (s8)) ≤ ms := by omega
  refine lv_aload_n hx hb dX11_leaky_10 rfl (lv_at hl 0 rfl) ?_
  obtain ⟨q12, hq12, hm⟩ := hm
  have Tq12 : TY S_6 q12 0 := hw.wf.ref (k := 11) (j := 7) Ta0 (by decide) (by decide) hq12
  refine pg_rb (k := 11) (j := 7) (f := 1107) hx hb hown hU iu11 hw Ta0 (by decide) rfl (hU _ tw370) rfl hq12 dX11_leaky_11 ?_
  refine lv_aload_n hx hb dX11_leaky_14 rfl (lv_at hl 0 rfl) ?_
  obtain ⟨q13, hq13, hm⟩ := hm
  have Tq13 : TY S_6 q13 7 := hw.wf.ref (k := 11) (j := 1) Ta0 (by decide) (by decide) hq13
  refine pg_rb (k := 11) (j := 1) (f := 1101) hx hb hown hU iu11 hw Ta0 (by decide) rfl (hU _ tw364) rfl hq13 dX11_leaky_15 ?_
  obtain ⟨q14, hq14, hm⟩ := hm
  have Tq14 : TY S_6 q14 1 := hw.wf.ref (k := 7) (j := 0) Tq13 (by decide) (by decide) hq14
  refine pgN_rb (k := 7) (j := 0) (f := 700) hx hb hown hU iu7 hw Tq13 (by decide) rfl 55 rfl rfl hq14 dX11_leaky_18 ?_
  refine lv_iload_n hx hb dX11_leaky_21 rfl (lv_at hl 1 rfl) ?_
  obtain ⟨r17, S_15, hq16, hm⟩ := hm
  refine pw_ci (va_runVN (As := [.ref q14, .int x1]) (rest := []) ⟨hx, hb, hml, hown, hU⟩ (c_X0_leakySets l C X n S_6 hw.wf _ q12 q14 x1 (Tq12) (Tq14) r17 S_15 hq16) ⟨va_cnB (host := "WickNights") 2 hU (pq_g1 tc_X0_leakySets) rfl rfl rfl (hw.nw 176 rfl) (hU _ tw11) cd_X0_leakySets.2 ⟨Nat.le_of_ble_eq_true rfl, Nat.le_of_ble_eq_true rfl⟩, hU _ tw1279, hU _ ts102⟩ (pw_preV hw Tq12 (by decide) rfl) rfl rfl hl.1 rfl (lv_room (Nat.le_of_ble_eq_true rfl)) dX11_leaky_22 ⟨by show _ ≤ mc; omega, by show _ ≤ ms; omega⟩) hw (fun H locs hw hx18 => ?_)
  have Ta0 : TY S_15 a0 11 := ty_ext hx18 Ta0
  have hE : Ext S0 S_15 := Ext.tr hE hx18
  refine vx_ret ?_
  exact pw_wiret hx hb hr rfl hlk hw hE hm (by omega) (by omega) dX11_leaky_25
abbrev rw_X11_misses (mc ms : Nat) : Room := { frames := 8, cells := mc, slots := ms, locals := 131 }
def pb_X11_misses_33 (n : Nat) (a0 : Nat) (x1 : Int32) (x2 : Int32) (b0 : Nat) (z1 : Int32) (S : pq_S) (bc bs : Nat) (E : (Nat → pq_S → Prop)) (Q : (Int32 → pq_S → Prop)) : Prop := ∃ c13 s14 : Nat, c13 ≤ bc ∧ s14 ≤ bs ∧ wp_X11_need n b0 z1 S c13 s14 E (fun S_12 => ∃ q18 : Nat, (pR S_12 1101 a0) = some q18 ∧ (∃ q19 : Nat, (pR S_12 700 q18) = some q19 ∧ (∃ r22 S_20, m_X1_missing n q19 x1 x2 S_12 = some (r22, S_20) ∧ (Q r22 S_20))))
set_option maxHeartbeats 4000000 in
set_option maxRecDepth 100000 in
theorem wpb_X11_misses_33 {p : Program} {l : Launch} {e : Env} {s : State} {m : MethodId} {args : Array Value} {below : List Frame} {meth : Method} {c : Code} (cx : Cx p s m args meth c cX11_misses 3 RX11 (some .int)) (hno : ∀ x ∈ c.exceptionTable.toList, False) (C : pq_C) (X : va_W) (S0 : pq_S) (n : Nat) (hst : l.stackTraces = false) (E : (Nat → pq_S → Prop)) (Q : (Int32 → pq_S → Prop)) (mc ms : Nat) : ∀ (a0 : Nat) (x1 : Int32) (x2 : Int32) (b0 : Nat) (z1 : Int32) (S : pq_S) (H : Heap) (locs : List Loc) (ls : Array Slot) (cells slots bc bs : Nat), cells + bc ≤ mc → slots + bs ≤ ms → PW C X S (pq_F C X S0 s.heap.size) H locs s → Ext S0 S → TY S a0 11 → TY S b0 11 → lv_has ls 3 [(0, .ref a0), (1, .int x1), (2, .int x2)] → pb_X11_misses_33 n a0 x1 x2 b0 z1 S bc bs E Q → W p l e (rw_X11_misses mc ms) s m args below meth c H locs cells slots (vx_MQ below (QwI C X S0 s.heap.size Q) (XcP C X S0 s.heap.size E) args s mc ms (pq_F C X S0 s.heap.size)) (F0 m 33 ls [.int z1, .ref b0]) := by
  obtain ⟨hx, hb, hml, hown, hU, hr, hlk⟩ := id cx
  intro a0 x1 x2 b0 z1 S H locs ls cells slots bc bs hcc hss hw hE Ta0 Tb0 hl hm
  rw [pb_X11_misses_33] at hm
  obtain ⟨c13, s14, hb15, hb16, hm⟩ := hm
  refine px_v (vx_runV (As := [.int z1]) (rest := []) ⟨hx, hb, hml, hown, hU⟩ (cw_X11_need l C X n S hw.wf _ b0 z1 (Tb0) c13 s14 hst E _ hm) (cwV 1 hU (pq_gV tw490 tw492 ts7 tw1 tc_X11_need) rfl rfl rfl cd_X11_need ⟨Nat.le_of_ble_eq_true rfl, Nat.le_of_ble_eq_true rfl⟩) (pw_preV hw Tb0 (by decide) rfl) rfl rfl hl.1 rfl (lv_room (Nat.le_of_ble_eq_true rfl)) dX11_misses_33 ⟨by show _ ≤ mc; omega, by show _ ≤ ms; omega⟩) hw hE hno hlk (by omega) (by omega) (fun S_12 H locs hm hw hx17 => ?_)
  have Ta0 : TY S_12 a0 11 := ty_ext hx17 Ta0
  have hE : Ext S0 S_12 := Ext.tr hE hx17
  refine W.widen (k := cells + (c13)) (n := slots + (s14)) (by omega) (by omega) ?_
  have hcc : cells + (c13) + (bc - (c13)) ≤ mc := by omega
  have hss : slots + (s14) + (bs - (s14)) ≤ ms := by omega
  refine lv_aload_n hx hb dX11_misses_36 rfl (lv_at hl 0 rfl) ?_
  obtain ⟨q18, hq18, hm⟩ := hm
  have Tq18 : TY S_12 q18 7 := hw.wf.ref (k := 11) (j := 1) Ta0 (by decide) (by decide) hq18
  refine pg_rb (k := 11) (j := 1) (f := 1101) hx hb hown hU iu11 hw Ta0 (by decide) rfl (hU _ tw364) rfl hq18 dX11_misses_37 ?_
  obtain ⟨q19, hq19, hm⟩ := hm
  have Tq19 : TY S_12 q19 1 := hw.wf.ref (k := 7) (j := 0) Tq18 (by decide) (by decide) hq19
  refine pgN_rb (k := 7) (j := 0) (f := 700) hx hb hown hU iu7 hw Tq18 (by decide) rfl 55 rfl rfl hq19 dX11_misses_40 ?_
  refine lv_iload_n hx hb dX11_misses_43 rfl (lv_at hl 1 rfl) ?_
  refine lv_iload_n hx hb dX11_misses_44 rfl (lv_at hl 2 rfl) ?_
  obtain ⟨r22, S_20, hq21, hm⟩ := hm
  refine pw_ci (va_runVN (As := [.int x1, .int x2]) (rest := []) ⟨hx, hb, hml, hown, hU⟩ (c_X1_missing l C X n S_12 hw.wf _ q19 x1 x2 (Tq19) r22 S_20 hq21) ⟨va_cnB (host := "WickNights") 2 hU (pq_g1 tc_X1_missing) rfl rfl rfl (hw.nw 178 rfl) (hU _ tw4) cd_X1_missing.2 ⟨Nat.le_of_ble_eq_true rfl, Nat.le_of_ble_eq_true rfl⟩, hU _ tw1287, hU _ ts104⟩ (pw_preV hw Tq19 (by decide) rfl) rfl rfl hl.1 rfl (lv_room (Nat.le_of_ble_eq_true rfl)) dX11_misses_45 ⟨by show _ ≤ mc; omega, by show _ ≤ ms; omega⟩) hw (fun H locs hw hx23 => ?_)
  have Ta0 : TY S_20 a0 11 := ty_ext hx23 Ta0
  have hE : Ext S0 S_20 := Ext.tr hE hx23
  refine vx_ret ?_
  exact pw_wiret hx hb hr rfl hlk hw hE hm (by omega) (by omega) dX11_misses_48
def pb_X11_misses_32 (n : Nat) (a0 : Nat) (x1 : Int32) (x2 : Int32) (b0 : Nat) (S : pq_S) (bc bs : Nat) (E : (Nat → pq_S → Prop)) (Q : (Int32 → pq_S → Prop)) : Prop := pb_X11_misses_33 n a0 x1 x2 b0 0 S bc bs E Q
set_option maxHeartbeats 4000000 in
set_option maxRecDepth 100000 in
theorem wpb_X11_misses_32 {p : Program} {l : Launch} {e : Env} {s : State} {m : MethodId} {args : Array Value} {below : List Frame} {meth : Method} {c : Code} (cx : Cx p s m args meth c cX11_misses 3 RX11 (some .int)) (hno : ∀ x ∈ c.exceptionTable.toList, False) (C : pq_C) (X : va_W) (S0 : pq_S) (n : Nat) (hst : l.stackTraces = false) (E : (Nat → pq_S → Prop)) (Q : (Int32 → pq_S → Prop)) (mc ms : Nat) : ∀ (a0 : Nat) (x1 : Int32) (x2 : Int32) (b0 : Nat) (S : pq_S) (H : Heap) (locs : List Loc) (ls : Array Slot) (cells slots bc bs : Nat), cells + bc ≤ mc → slots + bs ≤ ms → PW C X S (pq_F C X S0 s.heap.size) H locs s → Ext S0 S → TY S a0 11 → TY S b0 11 → lv_has ls 3 [(0, .ref a0), (1, .int x1), (2, .int x2)] → pb_X11_misses_32 n a0 x1 x2 b0 S bc bs E Q → W p l e (rw_X11_misses mc ms) s m args below meth c H locs cells slots (vx_MQ below (QwI C X S0 s.heap.size Q) (XcP C X S0 s.heap.size E) args s mc ms (pq_F C X S0 s.heap.size)) (F0 m 32 ls [.ref b0]) := by
  obtain ⟨hx, hb, hml, hown, hU, hr, hlk⟩ := id cx
  intro a0 x1 x2 b0 S H locs ls cells slots bc bs hcc hss hw hE Ta0 Tb0 hl hm
  rw [pb_X11_misses_32] at hm
  refine lv_iconst (v := 0) hx hb dX11_misses_32 (by decide) ?_
  exact wpb_X11_misses_33 cx hno C X S0 n hst E Q mc ms a0 x1 x2 b0 0 S _ _ _ (cells) (slots) bc bs hcc hss hw hE Ta0 Tb0 (lv_sub hl [0, 1, 2] rfl) hm
def wp_X11_misses (n : Nat) (a0 : Nat) (x1 : Int32) (x2 : Int32) (S0 : pq_S) (mc ms : Nat) (E : (Nat → pq_S → Prop)) (Q : (Int32 → pq_S → Prop)) : Prop := ∃ c2 s3 : Nat, c2 ≤ mc ∧ s3 ≤ ms ∧ wp_X11_needPlace n a0 x1 S0 c2 s3 E (fun S_1 => if x2 < 0 then pb_X11_misses_32 n a0 x1 x2 a0 S_1 (mc - (c2)) (ms - (s3)) E Q else ∃ q8 : Nat, (pR S_1 1101 a0) = some q8 ∧ (∃ q9 : Nat, (pR S_1 700 q8) = some q9 ∧ (∃ q10 : Nat, (pR S_1 100 q9) = some q10 ∧ (if (x2 >>> ((pI S_1 902 q10) &&& (31 : Int32))) = 0 then pb_X11_misses_33 n a0 x1 x2 a0 1 S_1 (mc - (c2)) (ms - (s3)) E Q else pb_X11_misses_32 n a0 x1 x2 a0 S_1 (mc - (c2)) (ms - (s3)) E Q))))
theorem tc_X11_misses : Cond.code yX11_misses cX11_misses 3 (some .int) ∈ pq_U := tw1306
theorem cd_X11_misses : yX11_misses.cls = RX11 ∧ yX11_misses.cls ≠ "java/lang/invoke/MethodHandle" ∧ yX11_misses.cls ≠ "java/lang/invoke/VarHandle" ∧ (parseMethodDescriptor yX11_misses.desc).map (fun d => d.parameters.length) = some 2 := by decide +kernel
set_option maxHeartbeats 4000000 in
set_option maxRecDepth 100000 in
theorem cw_X11_misses (l : Launch) (C : pq_C) (X : va_W) (n : Nat) (S0 : pq_S) (hF : WF S0) (sz : Nat) (a0 : Nat) (x1 : Int32) (x2 : Int32) (Ta0 : TY S0 a0 11) (mc ms : Nat) (hst : l.stackTraces = false) (E : (Nat → pq_S → Prop)) (Q : (Int32 → pq_S → Prop)) (hm : wp_X11_misses n a0 x1 x2 S0 mc ms E Q) : vx_Met l yX11_misses (.code yX11_misses cX11_misses 3 (some .int) :: pq_U) (rw_X11_misses mc ms) (va_Pc [.ref a0, .int x1, .int x2] (CPre C X S0 sz)) (QwI C X S0 sz Q) (XcP C X S0 sz E) mc ms (pq_F C X S0 sz) := by
  refine vx_ofW (cc := cX11_misses) (maxL := 3) (ret := (some .int)) (by decide) rfl ?_
  intro p e s m args below meth c s₁ B hml hno hv
  obtain ⟨rfl, hv⟩ := hv
  have hsz := hv.1
  subst hsz
  have hw := pw_entry hF hv
  have hts := atoms_spec (ws := .code yX11_misses cX11_misses 3 (some .int) :: pq_U) B.pre
  have hU : ∀ w ∈ pq_U, w.before _ s = true := fun w h => hts w (List.mem_cons_of_mem _ h)
  have hx := B.exec
  have hb := B.bytes
  have hr := B.returns
  have hown : s.vm.findClass RX11 = some m.cls := findClass_of_methodNamed B.named
  have hlk := B.notSynchronized
  have hl := lv_entry ([.ref a0, .int x1, .int x2]) (n := 3) (Nat.le_of_ble_eq_true rfl)
  rw [lg_entry_eq]
  generalize (lg_sl ([.ref a0, .int x1, .int x2]) ++ List.replicate (3 - (lg_sl ([.ref a0, .int x1, .int x2])).length) Slot.unset).toArray = ls at hl ⊢
  have hl : lv_has ls 3 [(0, .ref a0), (1, .int x1), (2, .int x2)] := hl
  have hE : Ext S0 S0 := Ext.rf _
  have cx : Cx p s m _ meth c cX11_misses 3 RX11 (some .int) := ⟨hx, hb, hml, hown, hU, hr, hlk⟩
  have hcc : 0 + mc ≤ mc := by omega
  have hss : 0 + ms ≤ ms := by omega
  rw [wp_X11_misses] at hm
  refine lv_aload_n hx hb dX11_misses_0 rfl (lv_at hl 0 rfl) ?_
  refine lv_iload_n hx hb dX11_misses_1 rfl (lv_at hl 1 rfl) ?_
  obtain ⟨c2, s3, hb4, hb5, hm⟩ := hm
  refine px_v (vx_runV (As := [.int x1]) (rest := []) ⟨hx, hb, hml, hown, hU⟩ (cw_X11_needPlace l C X n S0 hw.wf _ a0 x1 (Ta0) c2 s3 hst E _ hm) (cwV 1 hU (pq_gV tw996 tw998 ts76 tw1 tc_X11_needPlace) rfl rfl rfl cd_X11_needPlace ⟨Nat.le_of_ble_eq_true rfl, Nat.le_of_ble_eq_true rfl⟩) (pw_preV hw Ta0 (by decide) rfl) rfl rfl hl.1 rfl (lv_room (Nat.le_of_ble_eq_true rfl)) dX11_misses_2 ⟨by show _ ≤ mc; omega, by show _ ≤ ms; omega⟩) hw hE hno hlk (by omega) (by omega) (fun S_1 H locs hm hw hx6 => ?_)
  have Ta0 : TY S_1 a0 11 := ty_ext hx6 Ta0
  have hE : Ext S0 S_1 := Ext.tr hE hx6
  refine W.widen (k := c2) (n := s3) (by omega) (by omega) ?_
  have hcc : c2 + (mc - (c2)) ≤ mc := by omega
  have hss : s3 + (ms - (s3)) ≤ ms := by omega
  refine lv_aload_n hx hb dX11_misses_5 rfl (lv_at hl 0 rfl) ?_
  refine lv_iload_n hx hb dX11_misses_6 rfl (lv_at hl 2 rfl) ?_
  refine lv_if_lt (tgt := 32) hx hb dX11_misses_7 (by decide) (fun h7 => ?_) (fun h7 => ?_)
  · rw [if_pos h7] at hm
    exact wpb_X11_misses_32 cx hno C X S0 n hst E Q mc ms a0 x1 x2 a0 S_1 _ _ _ (c2) (s3) (mc - (c2)) (ms - (s3)) hcc hss hw hE Ta0 Ta0 (lv_sub hl [0, 1, 2] rfl) hm
  · rw [if_neg h7] at hm
    refine lv_iload_n hx hb dX11_misses_10 rfl (lv_at hl 2 rfl) ?_
    refine lv_aload_n hx hb dX11_misses_11 rfl (lv_at hl 0 rfl) ?_
    obtain ⟨q8, hq8, hm⟩ := hm
    have Tq8 : TY S_1 q8 7 := hw.wf.ref (k := 11) (j := 1) Ta0 (by decide) (by decide) hq8
    refine pg_rb (k := 11) (j := 1) (f := 1101) hx hb hown hU iu11 hw Ta0 (by decide) rfl (hU _ tw364) rfl hq8 dX11_misses_12 ?_
    obtain ⟨q9, hq9, hm⟩ := hm
    have Tq9 : TY S_1 q9 1 := hw.wf.ref (k := 7) (j := 0) Tq8 (by decide) (by decide) hq9
    refine pgN_rb (k := 7) (j := 0) (f := 700) hx hb hown hU iu7 hw Tq8 (by decide) rfl 55 rfl rfl hq9 dX11_misses_15 ?_
    obtain ⟨q10, hq10, hm⟩ := hm
    have Tq10 : TY S_1 q10 9 := hw.wf.ref (k := 1) (j := 0) Tq9 (by decide) (by decide) hq10
    refine pgN_rb (k := 1) (j := 0) (f := 100) hx hb hown hU iu1 hw Tq9 (by decide) rfl 22 rfl rfl hq10 dX11_misses_18 ?_
    refine pgN_i (k := 9) (j := 2) (f := 902) hx hb hown hU iu9 hw Tq10 (by decide) rfl 14 rfl rfl dX11_misses_21 ?_
    refine lv_ishr hx hb dX11_misses_24 ?_
    refine lv_if_ne (tgt := 32) hx hb dX11_misses_25 (by decide) (fun h11 => ?_) (fun h11 => ?_)
    · rw [if_neg h11] at hm
      exact wpb_X11_misses_32 cx hno C X S0 n hst E Q mc ms a0 x1 x2 a0 S_1 _ _ _ (c2) (s3) (mc - (c2)) (ms - (s3)) hcc hss hw hE Ta0 Ta0 (lv_sub hl [0, 1, 2] rfl) hm
    · rw [if_pos h11] at hm
      refine lv_iconst (v := 1) hx hb dX11_misses_28 (by decide) ?_
      refine lv_goto (tgt := 33) hx hb dX11_misses_29 (by decide) ?_
      exact wpb_X11_misses_33 cx hno C X S0 n hst E Q mc ms a0 x1 x2 a0 1 S_1 _ _ _ (c2) (s3) (mc - (c2)) (ms - (s3)) hcc hss hw hE Ta0 Ta0 (lv_sub hl [0, 1, 2] rfl) hm
abbrev rw_X11_seam (mc ms : Nat) : Room := { frames := 70, cells := mc, slots := ms, locals := 2153 }
def pb_X11_seam_40 (n : Nat) (a0 : Nat) (x1 : Int32) (x2 : Int32) (x3 : Int32) (x4 : Int32) (b0 : Nat) (z1 : Int32) (S : pq_S) (bc bs : Nat) (E : (Nat → pq_S → Prop)) (Q : (Int32 → pq_S → Prop)) : Prop := ∃ c26 s27 : Nat, c26 ≤ bc ∧ s27 ≤ bs ∧ wp_X11_need n b0 z1 S c26 s27 E (fun S_25 => ∃ q31 : Nat, (pR S_25 1101 a0) = some q31 ∧ (∃ S_32 : pq_S, m_X7_findShafts n q31 x1 x2 x3 S_25 = some S_32 ∧ (if x4 = 0 then ∃ q37 : Nat, (pR S_32 1101 a0) = some q37 ∧ (Q (pI S_32 704 q37) S_32) else ∃ q36 : Nat, (pR S_32 1101 a0) = some q36 ∧ (Q (pI S_32 705 q36) S_32))))
set_option maxHeartbeats 4000000 in
set_option maxRecDepth 100000 in
theorem wpb_X11_seam_40 {p : Program} {l : Launch} {e : Env} {s : State} {m : MethodId} {args : Array Value} {below : List Frame} {meth : Method} {c : Code} (cx : Cx p s m args meth c cX11_seam 5 RX11 (some .int)) (hno : ∀ x ∈ c.exceptionTable.toList, False) (C : pq_C) (X : va_W) (S0 : pq_S) (n : Nat) (hst : l.stackTraces = false) (E : (Nat → pq_S → Prop)) (Q : (Int32 → pq_S → Prop)) (mc ms : Nat) : ∀ (a0 : Nat) (x1 : Int32) (x2 : Int32) (x3 : Int32) (x4 : Int32) (b0 : Nat) (z1 : Int32) (S : pq_S) (H : Heap) (locs : List Loc) (ls : Array Slot) (cells slots bc bs : Nat), cells + bc ≤ mc → slots + bs ≤ ms → PW C X S (pq_F C X S0 s.heap.size) H locs s → Ext S0 S → TY S a0 11 → TY S b0 11 → lv_has ls 5 [(0, .ref a0), (1, .int x1), (2, .int x2), (3, .int x3), (4, .int x4)] → pb_X11_seam_40 n a0 x1 x2 x3 x4 b0 z1 S bc bs E Q → W p l e (rw_X11_seam mc ms) s m args below meth c H locs cells slots (vx_MQ below (QwI C X S0 s.heap.size Q) (XcP C X S0 s.heap.size E) args s mc ms (pq_F C X S0 s.heap.size)) (F0 m 40 ls [.int z1, .ref b0]) := by
  obtain ⟨hx, hb, hml, hown, hU, hr, hlk⟩ := id cx
  intro a0 x1 x2 x3 x4 b0 z1 S H locs ls cells slots bc bs hcc hss hw hE Ta0 Tb0 hl hm
  rw [pb_X11_seam_40] at hm
  obtain ⟨c26, s27, hb28, hb29, hm⟩ := hm
  refine px_v (vx_runV (As := [.int z1]) (rest := []) ⟨hx, hb, hml, hown, hU⟩ (cw_X11_need l C X n S hw.wf _ b0 z1 (Tb0) c26 s27 hst E _ hm) (cwV 1 hU (pq_gV tw490 tw492 ts7 tw1 tc_X11_need) rfl rfl rfl cd_X11_need ⟨Nat.le_of_ble_eq_true rfl, Nat.le_of_ble_eq_true rfl⟩) (pw_preV hw Tb0 (by decide) rfl) rfl rfl hl.1 rfl (lv_room (Nat.le_of_ble_eq_true rfl)) dX11_seam_40 ⟨by show _ ≤ mc; omega, by show _ ≤ ms; omega⟩) hw hE hno hlk (by omega) (by omega) (fun S_25 H locs hm hw hx30 => ?_)
  have Ta0 : TY S_25 a0 11 := ty_ext hx30 Ta0
  have hE : Ext S0 S_25 := Ext.tr hE hx30
  refine W.widen (k := cells + (c26)) (n := slots + (s27)) (by omega) (by omega) ?_
  have hcc : cells + (c26) + (bc - (c26)) ≤ mc := by omega
  have hss : slots + (s27) + (bs - (s27)) ≤ ms := by omega
  refine lv_aload_n hx hb dX11_seam_43 rfl (lv_at hl 0 rfl) ?_
  obtain ⟨q31, hq31, hm⟩ := hm
  have Tq31 : TY S_25 q31 7 := hw.wf.ref (k := 11) (j := 1) Ta0 (by decide) (by decide) hq31
  refine pg_rb (k := 11) (j := 1) (f := 1101) hx hb hown hU iu11 hw Ta0 (by decide) rfl (hU _ tw364) rfl hq31 dX11_seam_44 ?_
  refine lv_iload_n hx hb dX11_seam_47 rfl (lv_at hl 1 rfl) ?_
  refine lv_iload_n hx hb dX11_seam_48 rfl (lv_at hl 2 rfl) ?_
  refine lv_iload_n hx hb dX11_seam_49 rfl (lv_at hl 3 rfl) ?_
  obtain ⟨S_32, hq33, hm⟩ := hm
  refine pw_cv (va_runVN (As := [.int x1, .int x2, .int x3]) (rest := []) ⟨hx, hb, hml, hown, hU⟩ (c_X7_findShafts l C X n S_25 hw.wf _ q31 x1 x2 x3 (Tq31) S_32 hq33) ⟨va_cnB (host := "WickNights") 3 hU (pq_g1 tc_X7_findShafts) rfl rfl rfl (hw.nw 179 rfl) (hU _ tw3) cd_X7_findShafts.2 ⟨Nat.le_of_ble_eq_true rfl, Nat.le_of_ble_eq_true rfl⟩, hU _ tw1317, hU _ ts107⟩ (pw_preV hw Tq31 (by decide) rfl) rfl rfl hl.1 rfl (lv_room (Nat.le_of_ble_eq_true rfl)) dX11_seam_50 ⟨by show _ ≤ mc; omega, by show _ ≤ ms; omega⟩) hw (fun H locs hw hx34 => ?_)
  have Ta0 : TY S_32 a0 11 := ty_ext hx34 Ta0
  have hE : Ext S0 S_32 := Ext.tr hE hx34
  refine lv_iload hx hb dX11_seam_53 (lv_at hl 4 rfl) ?_
  refine lv_if_ne (tgt := 68) hx hb dX11_seam_55 (by decide) (fun h35 => ?_) (fun h35 => ?_)
  · rw [if_neg h35] at hm
    refine lv_aload_n hx hb dX11_seam_68 rfl (lv_at hl 0 rfl) ?_
    obtain ⟨q36, hq36, hm⟩ := hm
    have Tq36 : TY S_32 q36 7 := hw.wf.ref (k := 11) (j := 1) Ta0 (by decide) (by decide) hq36
    refine pg_rb (k := 11) (j := 1) (f := 1101) hx hb hown hU iu11 hw Ta0 (by decide) rfl (hU _ tw364) rfl hq36 dX11_seam_69 ?_
    refine pgN_i (k := 7) (j := 5) (f := 705) hx hb hown hU iu7 hw Tq36 (by decide) rfl 63 rfl rfl dX11_seam_72 ?_
    refine vx_ret ?_
    exact pw_wiret hx hb hr rfl hlk hw hE hm (by omega) (by omega) dX11_seam_75
  · rw [if_pos h35] at hm
    refine lv_aload_n hx hb dX11_seam_58 rfl (lv_at hl 0 rfl) ?_
    obtain ⟨q37, hq37, hm⟩ := hm
    have Tq37 : TY S_32 q37 7 := hw.wf.ref (k := 11) (j := 1) Ta0 (by decide) (by decide) hq37
    refine pg_rb (k := 11) (j := 1) (f := 1101) hx hb hown hU iu11 hw Ta0 (by decide) rfl (hU _ tw364) rfl hq37 dX11_seam_59 ?_
    refine pgN_i (k := 7) (j := 4) (f := 704) hx hb hown hU iu7 hw Tq37 (by decide) rfl 62 rfl rfl dX11_seam_62 ?_
    refine lv_goto (tgt := 75) hx hb dX11_seam_65 (by decide) ?_
    refine vx_ret ?_
    exact pw_wiret hx hb hr rfl hlk hw hE hm (by omega) (by omega) dX11_seam_75
def pb_X11_seam_39 (n : Nat) (a0 : Nat) (x1 : Int32) (x2 : Int32) (x3 : Int32) (x4 : Int32) (b0 : Nat) (S : pq_S) (bc bs : Nat) (E : (Nat → pq_S → Prop)) (Q : (Int32 → pq_S → Prop)) : Prop := pb_X11_seam_40 n a0 x1 x2 x3 x4 b0 0 S bc bs E Q
set_option maxHeartbeats 4000000 in
set_option maxRecDepth 100000 in
theorem wpb_X11_seam_39 {p : Program} {l : Launch} {e : Env} {s : State} {m : MethodId} {args : Array Value} {below : List Frame} {meth : Method} {c : Code} (cx : Cx p s m args meth c cX11_seam 5 RX11 (some .int)) (hno : ∀ x ∈ c.exceptionTable.toList, False) (C : pq_C) (X : va_W) (S0 : pq_S) (n : Nat) (hst : l.stackTraces = false) (E : (Nat → pq_S → Prop)) (Q : (Int32 → pq_S → Prop)) (mc ms : Nat) : ∀ (a0 : Nat) (x1 : Int32) (x2 : Int32) (x3 : Int32) (x4 : Int32) (b0 : Nat) (S : pq_S) (H : Heap) (locs : List Loc) (ls : Array Slot) (cells slots bc bs : Nat), cells + bc ≤ mc → slots + bs ≤ ms → PW C X S (pq_F C X S0 s.heap.size) H locs s → Ext S0 S → TY S a0 11 → TY S b0 11 → lv_has ls 5 [(0, .ref a0), (1, .int x1), (2, .int x2), (3, .int x3), (4, .int x4)] → pb_X11_seam_39 n a0 x1 x2 x3 x4 b0 S bc bs E Q → W p l e (rw_X11_seam mc ms) s m args below meth c H locs cells slots (vx_MQ below (QwI C X S0 s.heap.size Q) (XcP C X S0 s.heap.size E) args s mc ms (pq_F C X S0 s.heap.size)) (F0 m 39 ls [.ref b0]) := by
  obtain ⟨hx, hb, hml, hown, hU, hr, hlk⟩ := id cx
  intro a0 x1 x2 x3 x4 b0 S H locs ls cells slots bc bs hcc hss hw hE Ta0 Tb0 hl hm
  rw [pb_X11_seam_39] at hm
  refine lv_iconst (v := 0) hx hb dX11_seam_39 (by decide) ?_
  exact wpb_X11_seam_40 cx hno C X S0 n hst E Q mc ms a0 x1 x2 x3 x4 b0 0 S _ _ _ (cells) (slots) bc bs hcc hss hw hE Ta0 Tb0 (lv_sub hl [0, 1, 2, 3, 4] rfl) hm
def wp_X11_seam (n : Nat) (a0 : Nat) (x1 : Int32) (x2 : Int32) (x3 : Int32) (x4 : Int32) (S0 : pq_S) (mc ms : Nat) (E : (Nat → pq_S → Prop)) (Q : (Int32 → pq_S → Prop)) : Prop := ∃ c2 s3 : Nat, c2 ≤ mc ∧ s3 ≤ ms ∧ wp_X11_needMine n a0 x1 S0 c2 s3 E (fun S_1 => ∃ r9 S_7, m_X11_isWithin n x2 1 4 S_1 = some (r9, S_7) ∧ (if r9 = 0 then pb_X11_seam_39 n a0 x1 x2 x3 x4 a0 S_7 (mc - (c2)) (ms - (s3)) E Q else ∃ r15 S_13, m_X11_isWithin n x3 0 9 S_7 = some (r15, S_13) ∧ (if r15 = 0 then pb_X11_seam_39 n a0 x1 x2 x3 x4 a0 S_13 (mc - (c2)) (ms - (s3)) E Q else ∃ r21 S_19, m_X11_isWithin n x4 0 1 S_13 = some (r21, S_19) ∧ (if r21 = 0 then pb_X11_seam_39 n a0 x1 x2 x3 x4 a0 S_19 (mc - (c2)) (ms - (s3)) E Q else pb_X11_seam_40 n a0 x1 x2 x3 x4 a0 1 S_19 (mc - (c2)) (ms - (s3)) E Q))))
theorem tc_X11_seam : Cond.code yX11_seam cX11_seam 5 (some .int) ∈ pq_U := tw1314
theorem cd_X11_seam : yX11_seam.cls = RX11 ∧ yX11_seam.cls ≠ "java/lang/invoke/MethodHandle" ∧ yX11_seam.cls ≠ "java/lang/invoke/VarHandle" ∧ (parseMethodDescriptor yX11_seam.desc).map (fun d => d.parameters.length) = some 4 := by decide +kernel
set_option maxHeartbeats 4000000 in
set_option maxRecDepth 100000 in
theorem cw_X11_seam (l : Launch) (C : pq_C) (X : va_W) (n : Nat) (S0 : pq_S) (hF : WF S0) (sz : Nat) (a0 : Nat) (x1 : Int32) (x2 : Int32) (x3 : Int32) (x4 : Int32) (Ta0 : TY S0 a0 11) (mc ms : Nat) (hst : l.stackTraces = false) (E : (Nat → pq_S → Prop)) (Q : (Int32 → pq_S → Prop)) (hm : wp_X11_seam n a0 x1 x2 x3 x4 S0 mc ms E Q) : vx_Met l yX11_seam (.code yX11_seam cX11_seam 5 (some .int) :: pq_U) (rw_X11_seam mc ms) (va_Pc [.ref a0, .int x1, .int x2, .int x3, .int x4] (CPre C X S0 sz)) (QwI C X S0 sz Q) (XcP C X S0 sz E) mc ms (pq_F C X S0 sz) := by
  refine vx_ofW (cc := cX11_seam) (maxL := 5) (ret := (some .int)) (by decide) rfl ?_
  intro p e s m args below meth c s₁ B hml hno hv
  obtain ⟨rfl, hv⟩ := hv
  have hsz := hv.1
  subst hsz
  have hw := pw_entry hF hv
  have hts := atoms_spec (ws := .code yX11_seam cX11_seam 5 (some .int) :: pq_U) B.pre
  have hU : ∀ w ∈ pq_U, w.before _ s = true := fun w h => hts w (List.mem_cons_of_mem _ h)
  have hx := B.exec
  have hb := B.bytes
  have hr := B.returns
  have hown : s.vm.findClass RX11 = some m.cls := findClass_of_methodNamed B.named
  have hlk := B.notSynchronized
  have hl := lv_entry ([.ref a0, .int x1, .int x2, .int x3, .int x4]) (n := 5) (Nat.le_of_ble_eq_true rfl)
  rw [lg_entry_eq]
  generalize (lg_sl ([.ref a0, .int x1, .int x2, .int x3, .int x4]) ++ List.replicate (5 - (lg_sl ([.ref a0, .int x1, .int x2, .int x3, .int x4])).length) Slot.unset).toArray = ls at hl ⊢
  have hl : lv_has ls 5 [(0, .ref a0), (1, .int x1), (2, .int x2), (3, .int x3), (4, .int x4)] := hl
  have hE : Ext S0 S0 := Ext.rf _
  have cx : Cx p s m _ meth c cX11_seam 5 RX11 (some .int) := ⟨hx, hb, hml, hown, hU, hr, hlk⟩
  have hcc : 0 + mc ≤ mc := by omega
  have hss : 0 + ms ≤ ms := by omega
  rw [wp_X11_seam] at hm
  refine lv_aload_n hx hb dX11_seam_0 rfl (lv_at hl 0 rfl) ?_
  refine lv_iload_n hx hb dX11_seam_1 rfl (lv_at hl 1 rfl) ?_
  obtain ⟨c2, s3, hb4, hb5, hm⟩ := hm
  refine px_v (vx_runV (As := [.int x1]) (rest := []) ⟨hx, hb, hml, hown, hU⟩ (cw_X11_needMine l C X n S0 hw.wf _ a0 x1 (Ta0) c2 s3 hst E _ hm) (cwV 1 hU (pq_gV tw1050 tw1052 ts82 tw1 tc_X11_needMine) rfl rfl rfl cd_X11_needMine ⟨Nat.le_of_ble_eq_true rfl, Nat.le_of_ble_eq_true rfl⟩) (pw_preV hw Ta0 (by decide) rfl) rfl rfl hl.1 rfl (lv_room (Nat.le_of_ble_eq_true rfl)) dX11_seam_2 ⟨by show _ ≤ mc; omega, by show _ ≤ ms; omega⟩) hw hE hno hlk (by omega) (by omega) (fun S_1 H locs hm hw hx6 => ?_)
  have Ta0 : TY S_1 a0 11 := ty_ext hx6 Ta0
  have hE : Ext S0 S_1 := Ext.tr hE hx6
  refine W.widen (k := c2) (n := s3) (by omega) (by omega) ?_
  have hcc : c2 + (mc - (c2)) ≤ mc := by omega
  have hss : s3 + (ms - (s3)) ≤ ms := by omega
  refine lv_aload_n hx hb dX11_seam_5 rfl (lv_at hl 0 rfl) ?_
  refine lv_iload_n hx hb dX11_seam_6 rfl (lv_at hl 2 rfl) ?_
  refine lv_iconst (v := 1) hx hb dX11_seam_7 (by decide) ?_
  refine lv_iconst (v := 4) hx hb dX11_seam_8 (by decide) ?_
  obtain ⟨r9, S_7, hq8, hm⟩ := hm
  refine pw_cz (va_runS (As := [.int x2, .int 1, .int 4]) (rest := [.ref a0]) ⟨hx, hb, hml, hown, hU⟩ (c_X11_isWithin l C X n S_1 hw.wf _ x2 1 4  r9 S_7 hq8) ⟨callB_of 3 hU (pq_g1 tc_X11_isWithin) rfl rfl rfl (hU _ tw1) (hU _ tw453) cd_X11_isWithin.2 ⟨Nat.le_of_ble_eq_true rfl, Nat.le_of_ble_eq_true rfl⟩, hU _ tw454⟩ (pw_preS hw) rfl rfl hl.1 rfl (lv_room (Nat.le_of_ble_eq_true rfl)) dX11_seam_9 ⟨by show _ ≤ mc; omega, by show _ ≤ ms; omega⟩) hw (fun H locs hw hx10 hz11 => ?_)
  have Ta0 : TY S_7 a0 11 := ty_ext hx10 Ta0
  have hE : Ext S0 S_7 := Ext.tr hE hx10
  refine lv_if_eq (tgt := 39) hx hb dX11_seam_12 (by decide) (fun h12 => ?_) (fun h12 => ?_)
  · rw [if_pos h12] at hm
    exact wpb_X11_seam_39 cx hno C X S0 n hst E Q mc ms a0 x1 x2 x3 x4 a0 S_7 _ _ _ (c2) (s3) (mc - (c2)) (ms - (s3)) hcc hss hw hE Ta0 Ta0 (lv_sub hl [0, 1, 2, 3, 4] rfl) hm
  · rw [if_neg h12] at hm
    refine lv_iload_n hx hb dX11_seam_15 rfl (lv_at hl 3 rfl) ?_
    refine lv_iconst (v := 0) hx hb dX11_seam_16 (by decide) ?_
    refine lv_bipush (v := 9) hx hb dX11_seam_17 (by decide) ?_
    obtain ⟨r15, S_13, hq14, hm⟩ := hm
    refine pw_cz (va_runS (As := [.int x3, .int 0, .int 9]) (rest := [.ref a0]) ⟨hx, hb, hml, hown, hU⟩ (c_X11_isWithin l C X n S_7 hw.wf _ x3 0 9  r15 S_13 hq14) ⟨callB_of 3 hU (pq_g1 tc_X11_isWithin) rfl rfl rfl (hU _ tw1) (hU _ tw453) cd_X11_isWithin.2 ⟨Nat.le_of_ble_eq_true rfl, Nat.le_of_ble_eq_true rfl⟩, hU _ tw454⟩ (pw_preS hw) rfl rfl hl.1 rfl (lv_room (Nat.le_of_ble_eq_true rfl)) dX11_seam_19 ⟨by show _ ≤ mc; omega, by show _ ≤ ms; omega⟩) hw (fun H locs hw hx16 hz17 => ?_)
    have Ta0 : TY S_13 a0 11 := ty_ext hx16 Ta0
    have hE : Ext S0 S_13 := Ext.tr hE hx16
    refine lv_if_eq (tgt := 39) hx hb dX11_seam_22 (by decide) (fun h18 => ?_) (fun h18 => ?_)
    · rw [if_pos h18] at hm
      exact wpb_X11_seam_39 cx hno C X S0 n hst E Q mc ms a0 x1 x2 x3 x4 a0 S_13 _ _ _ (c2) (s3) (mc - (c2)) (ms - (s3)) hcc hss hw hE Ta0 Ta0 (lv_sub hl [0, 1, 2, 3, 4] rfl) hm
    · rw [if_neg h18] at hm
      refine lv_iload hx hb dX11_seam_25 (lv_at hl 4 rfl) ?_
      refine lv_iconst (v := 0) hx hb dX11_seam_27 (by decide) ?_
      refine lv_iconst (v := 1) hx hb dX11_seam_28 (by decide) ?_
      obtain ⟨r21, S_19, hq20, hm⟩ := hm
      refine pw_cz (va_runS (As := [.int x4, .int 0, .int 1]) (rest := [.ref a0]) ⟨hx, hb, hml, hown, hU⟩ (c_X11_isWithin l C X n S_13 hw.wf _ x4 0 1  r21 S_19 hq20) ⟨callB_of 3 hU (pq_g1 tc_X11_isWithin) rfl rfl rfl (hU _ tw1) (hU _ tw453) cd_X11_isWithin.2 ⟨Nat.le_of_ble_eq_true rfl, Nat.le_of_ble_eq_true rfl⟩, hU _ tw454⟩ (pw_preS hw) rfl rfl hl.1 rfl (lv_room (Nat.le_of_ble_eq_true rfl)) dX11_seam_29 ⟨by show _ ≤ mc; omega, by show _ ≤ ms; omega⟩) hw (fun H locs hw hx22 hz23 => ?_)
      have Ta0 : TY S_19 a0 11 := ty_ext hx22 Ta0
      have hE : Ext S0 S_19 := Ext.tr hE hx22
      refine lv_if_eq (tgt := 39) hx hb dX11_seam_32 (by decide) (fun h24 => ?_) (fun h24 => ?_)
      · rw [if_pos h24] at hm
        exact wpb_X11_seam_39 cx hno C X S0 n hst E Q mc ms a0 x1 x2 x3 x4 a0 S_19 _ _ _ (c2) (s3) (mc - (c2)) (ms - (s3)) hcc hss hw hE Ta0 Ta0 (lv_sub hl [0, 1, 2, 3, 4] rfl) hm
      · rw [if_neg h24] at hm
        refine lv_iconst (v := 1) hx hb dX11_seam_35 (by decide) ?_
        refine lv_goto (tgt := 40) hx hb dX11_seam_36 (by decide) ?_
        exact wpb_X11_seam_40 cx hno C X S0 n hst E Q mc ms a0 x1 x2 x3 x4 a0 1 S_19 _ _ _ (c2) (s3) (mc - (c2)) (ms - (s3)) hcc hss hw hE Ta0 Ta0 (lv_sub hl [0, 1, 2, 3, 4] rfl) hm
abbrev rw_X11_moons (mc ms : Nat) : Room := { frames := 7, cells := mc, slots := ms, locals := 110 }
def wp_X11_moons (n : Nat) (a0 : Nat) (x1 : Int32) (S0 : pq_S) (mc ms : Nat) (E : (Nat → pq_S → Prop)) (Q : (Int32 → pq_S → Prop)) : Prop := ∃ r3 S_1, m_X11_isDay n x1 S0 = some (r3, S_1) ∧ (∃ c7 s8 : Nat, c7 ≤ mc ∧ s8 ≤ ms ∧ wp_X11_need n a0 r3 S_1 c7 s8 E (fun S_6 => ∃ q12 : Nat, (pR S_6 1101 a0) = some q12 ∧ (∃ q13 : Nat, (pR S_6 700 q12) = some q13 ∧ (∃ r16 S_14, m_X1_moonsOn n q13 x1 S_6 = some (r16, S_14) ∧ (Q r16 S_14)))))
theorem tc_X11_moons : Cond.code yX11_moons cX11_moons 2 (some .int) ∈ pq_U := tw1364
theorem cd_X11_moons : yX11_moons.cls = RX11 ∧ yX11_moons.cls ≠ "java/lang/invoke/MethodHandle" ∧ yX11_moons.cls ≠ "java/lang/invoke/VarHandle" ∧ (parseMethodDescriptor yX11_moons.desc).map (fun d => d.parameters.length) = some 1 := by decide +kernel
set_option maxHeartbeats 4000000 in
set_option maxRecDepth 100000 in
theorem cw_X11_moons (l : Launch) (C : pq_C) (X : va_W) (n : Nat) (S0 : pq_S) (hF : WF S0) (sz : Nat) (a0 : Nat) (x1 : Int32) (Ta0 : TY S0 a0 11) (mc ms : Nat) (hst : l.stackTraces = false) (E : (Nat → pq_S → Prop)) (Q : (Int32 → pq_S → Prop)) (hm : wp_X11_moons n a0 x1 S0 mc ms E Q) : vx_Met l yX11_moons (.code yX11_moons cX11_moons 2 (some .int) :: pq_U) (rw_X11_moons mc ms) (va_Pc [.ref a0, .int x1] (CPre C X S0 sz)) (QwI C X S0 sz Q) (XcP C X S0 sz E) mc ms (pq_F C X S0 sz) := by
  refine vx_ofW (cc := cX11_moons) (maxL := 2) (ret := (some .int)) (by decide) rfl ?_
  intro p e s m args below meth c s₁ B hml hno hv
  obtain ⟨rfl, hv⟩ := hv
  have hsz := hv.1
  subst hsz
  have hw := pw_entry hF hv
  have hts := atoms_spec (ws := .code yX11_moons cX11_moons 2 (some .int) :: pq_U) B.pre
  have hU : ∀ w ∈ pq_U, w.before _ s = true := fun w h => hts w (List.mem_cons_of_mem _ h)
  have hx := B.exec
  have hb := B.bytes
  have hr := B.returns
  have hown : s.vm.findClass RX11 = some m.cls := findClass_of_methodNamed B.named
  have hlk := B.notSynchronized
  have hl := lv_entry ([.ref a0, .int x1]) (n := 2) (Nat.le_of_ble_eq_true rfl)
  rw [lg_entry_eq]
  generalize (lg_sl ([.ref a0, .int x1]) ++ List.replicate (2 - (lg_sl ([.ref a0, .int x1])).length) Slot.unset).toArray = ls at hl ⊢
  have hl : lv_has ls 2 [(0, .ref a0), (1, .int x1)] := hl
  have hE : Ext S0 S0 := Ext.rf _
  have cx : Cx p s m _ meth c cX11_moons 2 RX11 (some .int) := ⟨hx, hb, hml, hown, hU, hr, hlk⟩
  have hcc : 0 + mc ≤ mc := by omega
  have hss : 0 + ms ≤ ms := by omega
  rw [wp_X11_moons] at hm
  refine lv_aload_n hx hb dX11_moons_0 rfl (lv_at hl 0 rfl) ?_
  refine lv_iload_n hx hb dX11_moons_1 rfl (lv_at hl 1 rfl) ?_
  obtain ⟨r3, S_1, hq2, hm⟩ := hm
  refine pw_cz (va_runS (As := [.int x1]) (rest := [.ref a0]) ⟨hx, hb, hml, hown, hU⟩ (c_X11_isDay l C X n S0 hw.wf _ x1  r3 S_1 hq2) ⟨callB_of 1 hU (pq_g1 tc_X11_isDay) rfl rfl rfl (hU _ tw1) (hU _ tw1365) cd_X11_isDay.2 ⟨Nat.le_of_ble_eq_true rfl, Nat.le_of_ble_eq_true rfl⟩, hU _ tw1366⟩ (pw_preS hw) rfl rfl hl.1 rfl (lv_room (Nat.le_of_ble_eq_true rfl)) dX11_moons_2 ⟨by show _ ≤ mc; omega, by show _ ≤ ms; omega⟩) hw (fun H locs hw hx4 hz5 => ?_)
  have Ta0 : TY S_1 a0 11 := ty_ext hx4 Ta0
  have hE : Ext S0 S_1 := Ext.tr hE hx4
  obtain ⟨c7, s8, hb9, hb10, hm⟩ := hm
  refine px_v (vx_runV (As := [.int r3]) (rest := []) ⟨hx, hb, hml, hown, hU⟩ (cw_X11_need l C X n S_1 hw.wf _ a0 r3 (Ta0) c7 s8 hst E _ hm) (cwV 1 hU (pq_gV tw490 tw492 ts7 tw1 tc_X11_need) rfl rfl rfl cd_X11_need ⟨Nat.le_of_ble_eq_true rfl, Nat.le_of_ble_eq_true rfl⟩) (pw_preV hw Ta0 (by decide) rfl) rfl rfl hl.1 rfl (lv_room (Nat.le_of_ble_eq_true rfl)) dX11_moons_5 ⟨by show _ ≤ mc; omega, by show _ ≤ ms; omega⟩) hw hE hno hlk (by omega) (by omega) (fun S_6 H locs hm hw hx11 => ?_)
  have Ta0 : TY S_6 a0 11 := ty_ext hx11 Ta0
  have hE : Ext S0 S_6 := Ext.tr hE hx11
  refine W.widen (k := c7) (n := s8) (by omega) (by omega) ?_
  have hcc : c7 + (mc - (c7)) ≤ mc := by omega
  have hss : s8 + (ms - (s8)) ≤ ms := by omega
  refine lv_aload_n hx hb dX11_moons_8 rfl (lv_at hl 0 rfl) ?_
  obtain ⟨q12, hq12, hm⟩ := hm
  have Tq12 : TY S_6 q12 7 := hw.wf.ref (k := 11) (j := 1) Ta0 (by decide) (by decide) hq12
  refine pg_rb (k := 11) (j := 1) (f := 1101) hx hb hown hU iu11 hw Ta0 (by decide) rfl (hU _ tw364) rfl hq12 dX11_moons_9 ?_
  obtain ⟨q13, hq13, hm⟩ := hm
  have Tq13 : TY S_6 q13 1 := hw.wf.ref (k := 7) (j := 0) Tq12 (by decide) (by decide) hq13
  refine pgN_rb (k := 7) (j := 0) (f := 700) hx hb hown hU iu7 hw Tq12 (by decide) rfl 55 rfl rfl hq13 dX11_moons_12 ?_
  refine lv_iload_n hx hb dX11_moons_15 rfl (lv_at hl 1 rfl) ?_
  obtain ⟨r16, S_14, hq15, hm⟩ := hm
  refine pw_ci (va_runVN (As := [.int x1]) (rest := []) ⟨hx, hb, hml, hown, hU⟩ (c_X1_moonsOn l C X n S_6 hw.wf _ q13 x1 (Tq13) r16 S_14 hq15) ⟨va_cnB (host := "WickNights") 1 hU (pq_g1 tc_X1_moonsOn) rfl rfl rfl (hw.nw 182 rfl) (hU _ tw4) cd_X1_moonsOn.2 ⟨Nat.le_of_ble_eq_true rfl, Nat.le_of_ble_eq_true rfl⟩, hU _ tw1370, hU _ ts114⟩ (pw_preV hw Tq13 (by decide) rfl) rfl rfl hl.1 rfl (lv_room (Nat.le_of_ble_eq_true rfl)) dX11_moons_16 ⟨by show _ ≤ mc; omega, by show _ ≤ ms; omega⟩) hw (fun H locs hw hx17 => ?_)
  have Ta0 : TY S_14 a0 11 := ty_ext hx17 Ta0
  have hE : Ext S0 S_14 := Ext.tr hE hx17
  refine vx_ret ?_
  exact pw_wiret hx hb hr rfl hlk hw hE hm (by omega) (by omega) dX11_moons_19
abbrev rw_X11_dark (mc ms : Nat) : Room := { frames := 7, cells := mc, slots := ms, locals := 110 }
def wp_X11_dark (n : Nat) (a0 : Nat) (x1 : Int32) (S0 : pq_S) (mc ms : Nat) (E : (Nat → pq_S → Prop)) (Q : (Int32 → pq_S → Prop)) : Prop := ∃ r3 S_1, m_X11_isDay n x1 S0 = some (r3, S_1) ∧ (∃ c7 s8 : Nat, c7 ≤ mc ∧ s8 ≤ ms ∧ wp_X11_need n a0 r3 S_1 c7 s8 E (fun S_6 => ∃ q12 : Nat, (pR S_6 1101 a0) = some q12 ∧ (∃ q13 : Nat, (pR S_6 700 q12) = some q13 ∧ (∃ r16 S_14, m_X1_firstDay n q13 x1 0 S_6 = some (r16, S_14) ∧ (Q r16 S_14)))))
theorem tc_X11_dark : Cond.code yX11_dark cX11_dark 2 (some .int) ∈ pq_U := tw1378
theorem cd_X11_dark : yX11_dark.cls = RX11 ∧ yX11_dark.cls ≠ "java/lang/invoke/MethodHandle" ∧ yX11_dark.cls ≠ "java/lang/invoke/VarHandle" ∧ (parseMethodDescriptor yX11_dark.desc).map (fun d => d.parameters.length) = some 1 := by decide +kernel
set_option maxHeartbeats 4000000 in
set_option maxRecDepth 100000 in
theorem cw_X11_dark (l : Launch) (C : pq_C) (X : va_W) (n : Nat) (S0 : pq_S) (hF : WF S0) (sz : Nat) (a0 : Nat) (x1 : Int32) (Ta0 : TY S0 a0 11) (mc ms : Nat) (hst : l.stackTraces = false) (E : (Nat → pq_S → Prop)) (Q : (Int32 → pq_S → Prop)) (hm : wp_X11_dark n a0 x1 S0 mc ms E Q) : vx_Met l yX11_dark (.code yX11_dark cX11_dark 2 (some .int) :: pq_U) (rw_X11_dark mc ms) (va_Pc [.ref a0, .int x1] (CPre C X S0 sz)) (QwI C X S0 sz Q) (XcP C X S0 sz E) mc ms (pq_F C X S0 sz) := by
  refine vx_ofW (cc := cX11_dark) (maxL := 2) (ret := (some .int)) (by decide) rfl ?_
  intro p e s m args below meth c s₁ B hml hno hv
  obtain ⟨rfl, hv⟩ := hv
  have hsz := hv.1
  subst hsz
  have hw := pw_entry hF hv
  have hts := atoms_spec (ws := .code yX11_dark cX11_dark 2 (some .int) :: pq_U) B.pre
  have hU : ∀ w ∈ pq_U, w.before _ s = true := fun w h => hts w (List.mem_cons_of_mem _ h)
  have hx := B.exec
  have hb := B.bytes
  have hr := B.returns
  have hown : s.vm.findClass RX11 = some m.cls := findClass_of_methodNamed B.named
  have hlk := B.notSynchronized
  have hl := lv_entry ([.ref a0, .int x1]) (n := 2) (Nat.le_of_ble_eq_true rfl)
  rw [lg_entry_eq]
  generalize (lg_sl ([.ref a0, .int x1]) ++ List.replicate (2 - (lg_sl ([.ref a0, .int x1])).length) Slot.unset).toArray = ls at hl ⊢
  have hl : lv_has ls 2 [(0, .ref a0), (1, .int x1)] := hl
  have hE : Ext S0 S0 := Ext.rf _
  have cx : Cx p s m _ meth c cX11_dark 2 RX11 (some .int) := ⟨hx, hb, hml, hown, hU, hr, hlk⟩
  have hcc : 0 + mc ≤ mc := by omega
  have hss : 0 + ms ≤ ms := by omega
  rw [wp_X11_dark] at hm
  refine lv_aload_n hx hb dX11_dark_0 rfl (lv_at hl 0 rfl) ?_
  refine lv_iload_n hx hb dX11_dark_1 rfl (lv_at hl 1 rfl) ?_
  obtain ⟨r3, S_1, hq2, hm⟩ := hm
  refine pw_cz (va_runS (As := [.int x1]) (rest := [.ref a0]) ⟨hx, hb, hml, hown, hU⟩ (c_X11_isDay l C X n S0 hw.wf _ x1  r3 S_1 hq2) ⟨callB_of 1 hU (pq_g1 tc_X11_isDay) rfl rfl rfl (hU _ tw1) (hU _ tw1365) cd_X11_isDay.2 ⟨Nat.le_of_ble_eq_true rfl, Nat.le_of_ble_eq_true rfl⟩, hU _ tw1366⟩ (pw_preS hw) rfl rfl hl.1 rfl (lv_room (Nat.le_of_ble_eq_true rfl)) dX11_dark_2 ⟨by show _ ≤ mc; omega, by show _ ≤ ms; omega⟩) hw (fun H locs hw hx4 hz5 => ?_)
  have Ta0 : TY S_1 a0 11 := ty_ext hx4 Ta0
  have hE : Ext S0 S_1 := Ext.tr hE hx4
  obtain ⟨c7, s8, hb9, hb10, hm⟩ := hm
  refine px_v (vx_runV (As := [.int r3]) (rest := []) ⟨hx, hb, hml, hown, hU⟩ (cw_X11_need l C X n S_1 hw.wf _ a0 r3 (Ta0) c7 s8 hst E _ hm) (cwV 1 hU (pq_gV tw490 tw492 ts7 tw1 tc_X11_need) rfl rfl rfl cd_X11_need ⟨Nat.le_of_ble_eq_true rfl, Nat.le_of_ble_eq_true rfl⟩) (pw_preV hw Ta0 (by decide) rfl) rfl rfl hl.1 rfl (lv_room (Nat.le_of_ble_eq_true rfl)) dX11_dark_5 ⟨by show _ ≤ mc; omega, by show _ ≤ ms; omega⟩) hw hE hno hlk (by omega) (by omega) (fun S_6 H locs hm hw hx11 => ?_)
  have Ta0 : TY S_6 a0 11 := ty_ext hx11 Ta0
  have hE : Ext S0 S_6 := Ext.tr hE hx11
  refine W.widen (k := c7) (n := s8) (by omega) (by omega) ?_
  have hcc : c7 + (mc - (c7)) ≤ mc := by omega
  have hss : s8 + (ms - (s8)) ≤ ms := by omega
  refine lv_aload_n hx hb dX11_dark_8 rfl (lv_at hl 0 rfl) ?_
  obtain ⟨q12, hq12, hm⟩ := hm
  have Tq12 : TY S_6 q12 7 := hw.wf.ref (k := 11) (j := 1) Ta0 (by decide) (by decide) hq12
  refine pg_rb (k := 11) (j := 1) (f := 1101) hx hb hown hU iu11 hw Ta0 (by decide) rfl (hU _ tw364) rfl hq12 dX11_dark_9 ?_
  obtain ⟨q13, hq13, hm⟩ := hm
  have Tq13 : TY S_6 q13 1 := hw.wf.ref (k := 7) (j := 0) Tq12 (by decide) (by decide) hq13
  refine pgN_rb (k := 7) (j := 0) (f := 700) hx hb hown hU iu7 hw Tq12 (by decide) rfl 55 rfl rfl hq13 dX11_dark_12 ?_
  refine lv_iload_n hx hb dX11_dark_15 rfl (lv_at hl 1 rfl) ?_
  refine lv_iconst (v := 0) hx hb dX11_dark_16 (by decide) ?_
  obtain ⟨r16, S_14, hq15, hm⟩ := hm
  refine pw_ci (va_runVN (As := [.int x1, .int 0]) (rest := []) ⟨hx, hb, hml, hown, hU⟩ (c_X1_firstDay l C X n S_6 hw.wf _ q13 x1 0 (Tq13) r16 S_14 hq15) ⟨va_cnB (host := "WickNights") 2 hU (pq_g1 tc_X1_firstDay) rfl rfl rfl (hw.nw 183 rfl) (hU _ tw4) cd_X1_firstDay.2 ⟨Nat.le_of_ble_eq_true rfl, Nat.le_of_ble_eq_true rfl⟩, hU _ tw1381, hU _ ts115⟩ (pw_preV hw Tq13 (by decide) rfl) rfl rfl hl.1 rfl (lv_room (Nat.le_of_ble_eq_true rfl)) dX11_dark_17 ⟨by show _ ≤ mc; omega, by show _ ≤ ms; omega⟩) hw (fun H locs hw hx17 => ?_)
  have Ta0 : TY S_14 a0 11 := ty_ext hx17 Ta0
  have hE : Ext S0 S_14 := Ext.tr hE hx17
  refine vx_ret ?_
  exact pw_wiret hx hb hr rfl hlk hw hE hm (by omega) (by omega) dX11_dark_20
