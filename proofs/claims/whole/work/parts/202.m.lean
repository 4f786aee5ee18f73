abbrev rm_X12_both : Room := { frames := 0, cells := 0, slots := 0, locals := 0 }
def b_X12_both_65 (n : Nat) (x1 : Int32) (x2 : Int32) (z0 : Int32) (z1 : Int32) (S : pq_S) : Option (Int32 × pq_S) := if z0 = z1 then some (x1, S) else some (x2, S)
set_option maxHeartbeats 4000000 in
set_option maxRecDepth 100000 in
theorem wb_X12_both_65 {p : Program} {l : Launch} {e : Env} {s : State} {m : MethodId} {args : Array Value} {below : List Frame} {meth : Method} {c : Code} (cx : Cx p s m args meth c cX12_both 3 RX12 (some .int)) (C : pq_C) (X : va_W) (S0 : pq_S) (n : Nat) (r : Int32) (S1 : pq_S) : ∀ (x1 : Int32) (x2 : Int32) (z0 : Int32) (z1 : Int32) (S : pq_S) (H : Heap) (locs : List Loc) (ls : Array Slot), PW C X S (pq_F C X S0 s.heap.size) H locs s → Ext S0 S → lv_has ls 3 [(1, .int x1), (2, .int x2)] → b_X12_both_65 n x1 x2 z0 z1 S = some (r, S1) → W p l e rm_X12_both s m args below meth c H locs 0 0 (MQ below (QcI C X S0 s.heap.size r S1) args s 0 0 (pq_F C X S0 s.heap.size)) (F0 m 65 ls [.int z1, .int z0]) := by
  obtain ⟨hx, hb, hml, hown, hU, hr, hlk⟩ := id cx
  intro x1 x2 z0 z1 S H locs ls hw hE hl hm
  rw [b_X12_both_65] at hm
  refine lv_icmp_ne (tgt := 72) hx hb dX12_both_65 (by decide) (fun h9 => ?_) (fun h9 => ?_)
  · rw [if_neg h9] at hm
    refine lv_iload_n hx hb dX12_both_72 rfl (lv_at hl 1 rfl) ?_
    cases hm
    exact pw_iret hx hb hr rfl hlk hw hE dX12_both_73
  · rw [if_pos h9] at hm
    refine lv_iload_n hx hb dX12_both_68 rfl (lv_at hl 0 rfl) ?_
    refine lv_goto (tgt := 73) hx hb dX12_both_69 (by decide) ?_
    cases hm
    exact pw_iret hx hb hr rfl hlk hw hE dX12_both_73
def b_X12_both_54 (n : Nat) (x0 : Int32) (x1 : Int32) (x2 : Int32) (z0 : Int32) (S : pq_S) : Option (Int32 × pq_S) := if x0 = 6 then b_X12_both_65 n x1 x2 z0 1 S else b_X12_both_65 n x1 x2 z0 0 S
set_option maxHeartbeats 4000000 in
set_option maxRecDepth 100000 in
theorem wb_X12_both_54 {p : Program} {l : Launch} {e : Env} {s : State} {m : MethodId} {args : Array Value} {below : List Frame} {meth : Method} {c : Code} (cx : Cx p s m args meth c cX12_both 3 RX12 (some .int)) (C : pq_C) (X : va_W) (S0 : pq_S) (n : Nat) (r : Int32) (S1 : pq_S) : ∀ (x0 : Int32) (x1 : Int32) (x2 : Int32) (z0 : Int32) (S : pq_S) (H : Heap) (locs : List Loc) (ls : Array Slot), PW C X S (pq_F C X S0 s.heap.size) H locs s → Ext S0 S → lv_has ls 3 [(0, .int x0), (1, .int x1), (2, .int x2)] → b_X12_both_54 n x0 x1 x2 z0 S = some (r, S1) → W p l e rm_X12_both s m args below meth c H locs 0 0 (MQ below (QcI C X S0 s.heap.size r S1) args s 0 0 (pq_F C X S0 s.heap.size)) (F0 m 54 ls [.int z0]) := by
  obtain ⟨hx, hb, hml, hown, hU, hr, hlk⟩ := id cx
  intro x0 x1 x2 z0 S H locs ls hw hE hl hm
  rw [b_X12_both_54] at hm
  refine lv_iload_n hx hb dX12_both_54 rfl (lv_at hl 0 rfl) ?_
  refine lv_bipush (v := 6) hx hb dX12_both_55 (by decide) ?_
  refine lv_icmp_ne (tgt := 64) hx hb dX12_both_57 (by decide) (fun h8 => ?_) (fun h8 => ?_)
  · rw [if_neg h8] at hm
    refine lv_iconst (v := 0) hx hb dX12_both_64 (by decide) ?_
    exact wb_X12_both_65 cx C X S0 n r S1 x1 x2 z0 0 S _ _ _ hw hE  (lv_sub hl [1, 2] rfl) hm
  · rw [if_pos h8] at hm
    refine lv_iconst (v := 1) hx hb dX12_both_60 (by decide) ?_
    refine lv_goto (tgt := 65) hx hb dX12_both_61 (by decide) ?_
    exact wb_X12_both_65 cx C X S0 n r S1 x1 x2 z0 1 S _ _ _ hw hE  (lv_sub hl [1, 2] rfl) hm
def m_X12_both (n : Nat) (x0 : Int32) (x1 : Int32) (x2 : Int32) (S0 : pq_S) : Option (Int32 × pq_S) := if x0 = 2 then some ((x1 + x2), S0) else if x0 = 3 then some ((x1 - x2), S0) else if x0 = 4 then some ((x1 * x2), S0) else if x0 = 5 then if x2 = 0 then some (0, S0) else ck (¬ x2 = 0) (dne _) (some ((x1 / x2), S0)) else if x2 ≤ x1 then b_X12_both_54 n x0 x1 x2 0 S0 else b_X12_both_54 n x0 x1 x2 1 S0
theorem tc_X12_both : Cond.code yX12_both cX12_both 3 (some .int) ∈ pq_U := tw1866
theorem cd_X12_both : yX12_both.cls = RX12 ∧ yX12_both.cls ≠ "java/lang/invoke/MethodHandle" ∧ yX12_both.cls ≠ "java/lang/invoke/VarHandle" ∧ (parseMethodDescriptor yX12_both.desc).map (fun d => d.parameters.length) = some 3 := by decide +kernel
set_option maxHeartbeats 4000000 in
set_option maxRecDepth 100000 in
theorem c_X12_both (l : Launch) (C : pq_C) (X : va_W) (n : Nat) (S0 : pq_S) (hF : WF S0) (sz : Nat) (x0 : Int32) (x1 : Int32) (x2 : Int32)  (r : Int32) (S1 : pq_S) (hm : m_X12_both n x0 x1 x2 S0 = some (r, S1)) : MI l yX12_both (.code yX12_both cX12_both 3 (some .int) :: pq_U) rm_X12_both C X S0 sz [.int x0, .int x1, .int x2] r S1 0 0 := by
  refine Met.ofW (cc := cX12_both) (maxL := 3) (ret := (some .int)) (by decide) rfl ?_
  intro p e s m args below meth c s₁ B hml hv
  obtain ⟨rfl, hv⟩ := hv
  have hsz := hv.1
  subst hsz
  have hw := pw_entry hF hv
  have hts := atoms_spec (ws := .code yX12_both cX12_both 3 (some .int) :: pq_U) B.pre
  have hU : ∀ w ∈ pq_U, w.before _ s = true := fun w h => hts w (List.mem_cons_of_mem _ h)
  have hx := B.exec
  have hb := B.bytes
  have hr := B.returns
  have hown : s.vm.findClass RX12 = some m.cls := findClass_of_methodNamed B.named
  have hlk := B.notSynchronized
  have hl := lv_entry ([.int x0, .int x1, .int x2]) (n := 3) (Nat.le_of_ble_eq_true rfl)
  rw [lg_entry_eq]
  generalize (lg_sl ([.int x0, .int x1, .int x2]) ++ List.replicate (3 - (lg_sl ([.int x0, .int x1, .int x2])).length) Slot.unset).toArray = ls at hl ⊢
  have hl : lv_has ls 3 [(0, .int x0), (1, .int x1), (2, .int x2)] := hl
  have hE : Ext S0 S0 := Ext.rf _
  have cx : Cx p s m _ meth c cX12_both 3 RX12 (some .int) := ⟨hx, hb, hml, hown, hU, hr, hlk⟩
  rw [m_X12_both] at hm
  refine lv_iload_n hx hb dX12_both_0 rfl (lv_at hl 0 rfl) ?_
  refine lv_iconst (v := 2) hx hb dX12_both_1 (by decide) ?_
  refine lv_icmp_ne (tgt := 9) hx hb dX12_both_2 (by decide) (fun h1 => ?_) (fun h1 => ?_)
  · rw [if_neg h1] at hm
    refine lv_iload_n hx hb dX12_both_9 rfl (lv_at hl 0 rfl) ?_
    refine lv_iconst (v := 3) hx hb dX12_both_10 (by decide) ?_
    refine lv_icmp_ne (tgt := 18) hx hb dX12_both_11 (by decide) (fun h2 => ?_) (fun h2 => ?_)
    · rw [if_neg h2] at hm
      refine lv_iload_n hx hb dX12_both_18 rfl (lv_at hl 0 rfl) ?_
      refine lv_iconst (v := 4) hx hb dX12_both_19 (by decide) ?_
      refine lv_icmp_ne (tgt := 27) hx hb dX12_both_20 (by decide) (fun h3 => ?_) (fun h3 => ?_)
      · rw [if_neg h3] at hm
        refine lv_iload_n hx hb dX12_both_27 rfl (lv_at hl 0 rfl) ?_
        refine lv_iconst (v := 5) hx hb dX12_both_28 (by decide) ?_
        refine lv_icmp_ne (tgt := 44) hx hb dX12_both_29 (by decide) (fun h4 => ?_) (fun h4 => ?_)
        · rw [if_neg h4] at hm
          refine lv_iload_n hx hb dX12_both_44 rfl (lv_at hl 1 rfl) ?_
          refine lv_iload_n hx hb dX12_both_45 rfl (lv_at hl 2 rfl) ?_
          refine lv_icmp_ge (tgt := 53) hx hb dX12_both_46 (by decide) (fun h5 => ?_) (fun h5 => ?_)
          · rw [if_pos h5] at hm
            refine lv_iconst (v := 0) hx hb dX12_both_53 (by decide) ?_
            exact wb_X12_both_54 cx C X S0 n r S1 x0 x1 x2 0 S0 _ _ _ hw hE  (lv_sub hl [0, 1, 2] rfl) hm
          · rw [if_neg h5] at hm
            refine lv_iconst (v := 1) hx hb dX12_both_49 (by decide) ?_
            refine lv_goto (tgt := 54) hx hb dX12_both_50 (by decide) ?_
            exact wb_X12_both_54 cx C X S0 n r S1 x0 x1 x2 1 S0 _ _ _ hw hE  (lv_sub hl [0, 1, 2] rfl) hm
        · rw [if_pos h4] at hm
          refine lv_iload_n hx hb dX12_both_32 rfl (lv_at hl 2 rfl) ?_
          refine lv_if_ne (tgt := 40) hx hb dX12_both_33 (by decide) (fun h6 => ?_) (fun h6 => ?_)
          · rw [if_neg h6] at hm
            refine lv_iload_n hx hb dX12_both_40 rfl (lv_at hl 1 rfl) ?_
            refine lv_iload_n hx hb dX12_both_41 rfl (lv_at hl 2 rfl) ?_
            obtain ⟨hn7, hm⟩ := ck_some hm
            refine lv_idiv hx hb dX12_both_42 hn7 ?_
            cases hm
            exact pw_iret hx hb hr rfl hlk hw hE dX12_both_43
          · rw [if_pos h6] at hm
            refine lv_iconst (v := 0) hx hb dX12_both_36 (by decide) ?_
            refine lv_goto (tgt := 43) hx hb dX12_both_37 (by decide) ?_
            cases hm
            exact pw_iret hx hb hr rfl hlk hw hE dX12_both_43
      · rw [if_pos h3] at hm
        refine lv_iload_n hx hb dX12_both_23 rfl (lv_at hl 1 rfl) ?_
        refine lv_iload_n hx hb dX12_both_24 rfl (lv_at hl 2 rfl) ?_
        refine lv_imul hx hb dX12_both_25 ?_
        cases hm
        exact pw_iret hx hb hr rfl hlk hw hE dX12_both_26
    · rw [if_pos h2] at hm
      refine lv_iload_n hx hb dX12_both_14 rfl (lv_at hl 1 rfl) ?_
      refine lv_iload_n hx hb dX12_both_15 rfl (lv_at hl 2 rfl) ?_
      refine lv_isub hx hb dX12_both_16 ?_
      cases hm
      exact pw_iret hx hb hr rfl hlk hw hE dX12_both_17
  · rw [if_pos h1] at hm
    refine lv_iload_n hx hb dX12_both_5 rfl (lv_at hl 1 rfl) ?_
    refine lv_iload_n hx hb dX12_both_6 rfl (lv_at hl 2 rfl) ?_
    refine lv_iadd hx hb dX12_both_7 ?_
    cases hm
    exact pw_iret hx hb hr rfl hlk hw hE dX12_both_8
abbrev rm_X12_clamp : Room := { frames := 0, cells := 0, slots := 0, locals := 0 }
def m_X12_clamp (n : Nat) (x0 : Int32) (x1 : Int32) (S0 : pq_S) : Option (Int32 × pq_S) := if 0 ≤ x0 then if x0 ≤ x1 then some (x0, S0) else some (x1, S0) else some (0, S0)
theorem tc_X12_clamp : Cond.code yX12_clamp cX12_clamp 2 (some .int) ∈ pq_U := tw1869
theorem cd_X12_clamp : yX12_clamp.cls = RX12 ∧ yX12_clamp.cls ≠ "java/lang/invoke/MethodHandle" ∧ yX12_clamp.cls ≠ "java/lang/invoke/VarHandle" ∧ (parseMethodDescriptor yX12_clamp.desc).map (fun d => d.parameters.length) = some 2 := by decide +kernel
set_option maxHeartbeats 4000000 in
set_option maxRecDepth 100000 in
theorem c_X12_clamp (l : Launch) (C : pq_C) (X : va_W) (n : Nat) (S0 : pq_S) (hF : WF S0) (sz : Nat) (x0 : Int32) (x1 : Int32)  (r : Int32) (S1 : pq_S) (hm : m_X12_clamp n x0 x1 S0 = some (r, S1)) : MI l yX12_clamp (.code yX12_clamp cX12_clamp 2 (some .int) :: pq_U) rm_X12_clamp C X S0 sz [.int x0, .int x1] r S1 0 0 := by
  refine Met.ofW (cc := cX12_clamp) (maxL := 2) (ret := (some .int)) (by decide) rfl ?_
  intro p e s m args below meth c s₁ B hml hv
  obtain ⟨rfl, hv⟩ := hv
  have hsz := hv.1
  subst hsz
  have hw := pw_entry hF hv
  have hts := atoms_spec (ws := .code yX12_clamp cX12_clamp 2 (some .int) :: pq_U) B.pre
  have hU : ∀ w ∈ pq_U, w.before _ s = true := fun w h => hts w (List.mem_cons_of_mem _ h)
  have hx := B.exec
  have hb := B.bytes
  have hr := B.returns
  have hown : s.vm.findClass RX12 = some m.cls := findClass_of_methodNamed B.named
  have hlk := B.notSynchronized
  have hl := lv_entry ([.int x0, .int x1]) (n := 2) (Nat.le_of_ble_eq_true rfl)
  rw [lg_entry_eq]
  generalize (lg_sl ([.int x0, .int x1]) ++ List.replicate (2 - (lg_sl ([.int x0, .int x1])).length) Slot.unset).toArray = ls at hl ⊢
  have hl : lv_has ls 2 [(0, .int x0), (1, .int x1)] := hl
  have hE : Ext S0 S0 := Ext.rf _
  have cx : Cx p s m _ meth c cX12_clamp 2 RX12 (some .int) := ⟨hx, hb, hml, hown, hU, hr, hlk⟩
  rw [m_X12_clamp] at hm
  refine lv_iload_n hx hb dX12_clamp_0 rfl (lv_at hl 0 rfl) ?_
  refine lv_if_ge (tgt := 8) hx hb dX12_clamp_1 (by decide) (fun h1 => ?_) (fun h1 => ?_)
  · rw [if_pos h1] at hm
    refine lv_iload_n hx hb dX12_clamp_8 rfl (lv_at hl 0 rfl) ?_
    refine lv_iload_n hx hb dX12_clamp_9 rfl (lv_at hl 1 rfl) ?_
    refine lv_icmp_le (tgt := 17) hx hb dX12_clamp_10 (by decide) (fun h2 => ?_) (fun h2 => ?_)
    · rw [if_pos h2] at hm
      refine lv_iload_n hx hb dX12_clamp_17 rfl (lv_at hl 0 rfl) ?_
      cases hm
      exact pw_iret hx hb hr rfl hlk hw hE dX12_clamp_18
    · rw [if_neg h2] at hm
      refine lv_iload_n hx hb dX12_clamp_13 rfl (lv_at hl 1 rfl) ?_
      refine lv_goto (tgt := 18) hx hb dX12_clamp_14 (by decide) ?_
      cases hm
      exact pw_iret hx hb hr rfl hlk hw hE dX12_clamp_18
  · rw [if_neg h1] at hm
    refine lv_iconst (v := 0) hx hb dX12_clamp_4 (by decide) ?_
    refine lv_goto (tgt := 18) hx hb dX12_clamp_5 (by decide) ?_
    cases hm
    exact pw_iret hx hb hr rfl hlk hw hE dX12_clamp_18
abbrev rm_X12_findFacts : Room := { frames := 0, cells := 0, slots := 0, locals := 0 }
def b_X12_findFacts_20 (n : Nat) (a0 : Nat) (S : pq_S) : Option pq_S := Option.bind (pR S 1237 a0) fun q4 => Option.bind (pR S 1247 a0) fun q5 => ck (ix 48 (pN S q5)) (dix _ _) (ck (ix 5 (pN S q4)) (dix _ _) (lt_ (sA S q4 (Int32.toNatClampNeg 5) ((pA S q5 (Int32.toNatClampNeg 48)) - (pA S q5 (Int32.toNatClampNeg 48)) / 12 * 12)) fun S_8 => Option.bind (pR S_8 1237 a0) fun q9 => Option.bind (pR S_8 1247 a0) fun q10 => ck (ix 48 (pN S_8 q10)) (dix _ _) (ck (ix 6 (pN S_8 q9)) (dix _ _) (lt_ (sA S_8 q9 (Int32.toNatClampNeg 6) ((pA S_8 q10 (Int32.toNatClampNeg 48)) / 12)) fun S_13 => some S_13))))
set_option maxHeartbeats 4000000 in
set_option maxRecDepth 100000 in
theorem wb_X12_findFacts_20 {p : Program} {l : Launch} {e : Env} {s : State} {m : MethodId} {args : Array Value} {below : List Frame} {meth : Method} {c : Code} (cx : Cx p s m args meth c cX12_findFacts 2 RX12 none) (C : pq_C) (X : va_W) (S0 : pq_S) (n : Nat) (S1 : pq_S) : ∀ (a0 : Nat) (S : pq_S) (H : Heap) (locs : List Loc) (ls : Array Slot), PW C X S (pq_F C X S0 s.heap.size) H locs s → Ext S0 S → TY S a0 12 → lv_has ls 2 [(0, .ref a0)] → b_X12_findFacts_20 n a0 S = some S1 → W p l e rm_X12_findFacts s m args below meth c H locs 0 0 (MQ below (QcV C X S0 s.heap.size S1) args s 0 0 (pq_F C X S0 s.heap.size)) (F0 m 20 ls []) := by
  obtain ⟨hx, hb, hml, hown, hU, hr, hlk⟩ := id cx
  intro a0 S H locs ls hw hE Ta0 hl hm
  rw [b_X12_findFacts_20] at hm
  refine lv_aload_n hx hb dX12_findFacts_20 rfl (lv_at hl 0 rfl) ?_
  obtain ⟨q4, hq4, hm⟩ := bd_some hm
  have Tq4 : TY S q4 14 := hw.wf.ref (k := 12) (j := 37) Ta0 (by decide) (by decide) hq4
  refine pg_rb (k := 12) (j := 37) (f := 1237) hx hb hown hU iu12 hw Ta0 (by decide) rfl (hU _ tw1508) rfl hq4 dX12_findFacts_21 ?_
  refine lv_iconst (v := 5) hx hb dX12_findFacts_24 (by decide) ?_
  refine lv_aload_n hx hb dX12_findFacts_25 rfl (lv_at hl 0 rfl) ?_
  obtain ⟨q5, hq5, hm⟩ := bd_some hm
  have Tq5 : TY S q5 14 := hw.wf.ref (k := 12) (j := 47) Ta0 (by decide) (by decide) hq5
  refine pg_rb (k := 12) (j := 47) (f := 1247) hx hb hown hU iu12 hw Ta0 (by decide) rfl (hU _ tw1518) rfl hq5 dX12_findFacts_26 ?_
  refine lv_bipush (v := 48) hx hb dX12_findFacts_29 (by decide) ?_
  obtain ⟨hi6, hm⟩ := ck_some hm
  refine pw_iald hx hb hw Tq5 hi6 dX12_findFacts_31 ?_
  refine lv_bipush (v := 12) hx hb dX12_findFacts_32 (by decide) ?_
  refine lv_irem hx hb dX12_findFacts_34 (by decide) ?_
  obtain ⟨hi7, hm⟩ := ck_some hm
  refine pw_iast hx hb hw Tq4 hi7 dX12_findFacts_35 (fun H locs hw => ?_)
  obtain ⟨S_8, eS_8, hm⟩ := lt_some hm
  rw [← eS_8] at hw
  have Ta0 : TY S_8 a0 12 := by rw [eS_8]; exact Ta0
  have hE : Ext S0 S_8 := by rw [eS_8]; exact hE
  refine lv_aload_n hx hb dX12_findFacts_36 rfl (lv_at hl 0 rfl) ?_
  obtain ⟨q9, hq9, hm⟩ := bd_some hm
  have Tq9 : TY S_8 q9 14 := hw.wf.ref (k := 12) (j := 37) Ta0 (by decide) (by decide) hq9
  refine pg_rb (k := 12) (j := 37) (f := 1237) hx hb hown hU iu12 hw Ta0 (by decide) rfl (hU _ tw1508) rfl hq9 dX12_findFacts_37 ?_
  refine lv_bipush (v := 6) hx hb dX12_findFacts_40 (by decide) ?_
  refine lv_aload_n hx hb dX12_findFacts_42 rfl (lv_at hl 0 rfl) ?_
  obtain ⟨q10, hq10, hm⟩ := bd_some hm
  have Tq10 : TY S_8 q10 14 := hw.wf.ref (k := 12) (j := 47) Ta0 (by decide) (by decide) hq10
  refine pg_rb (k := 12) (j := 47) (f := 1247) hx hb hown hU iu12 hw Ta0 (by decide) rfl (hU _ tw1518) rfl hq10 dX12_findFacts_43 ?_
  refine lv_bipush (v := 48) hx hb dX12_findFacts_46 (by decide) ?_
  obtain ⟨hi11, hm⟩ := ck_some hm
  refine pw_iald hx hb hw Tq10 hi11 dX12_findFacts_48 ?_
  refine lv_bipush (v := 12) hx hb dX12_findFacts_49 (by decide) ?_
  refine lv_idiv hx hb dX12_findFacts_51 (by decide) ?_
  obtain ⟨hi12, hm⟩ := ck_some hm
  refine pw_iast hx hb hw Tq9 hi12 dX12_findFacts_52 (fun H locs hw => ?_)
  obtain ⟨S_13, eS_13, hm⟩ := lt_some hm
  rw [← eS_13] at hw
  have Ta0 : TY S_13 a0 12 := by rw [eS_13]; exact Ta0
  have hE : Ext S0 S_13 := by rw [eS_13]; exact hE
  cases hm
  exact pw_vret hx hb hr hlk hw hE dX12_findFacts_53
def b_X12_findFacts_2 (n : Nat) : Nat → Nat → Int32 → pq_S → Option pq_S
  | 0, _, _, _ => none
  | f + 1, a0, x1, S => if 5 ≤ x1 then b_X12_findFacts_20 n a0 S else Option.bind (pR S 1237 a0) fun q2 => ck (ix x1 (pN S q2)) (dix _ _) (b_X12_findFacts_2 n f a0 (x1 + 1) (sA S q2 (Int32.toNatClampNeg x1) 0))
set_option maxHeartbeats 4000000 in
set_option maxRecDepth 100000 in
theorem wb_X12_findFacts_2 {p : Program} {l : Launch} {e : Env} {s : State} {m : MethodId} {args : Array Value} {below : List Frame} {meth : Method} {c : Code} (cx : Cx p s m args meth c cX12_findFacts 2 RX12 none) (C : pq_C) (X : va_W) (S0 : pq_S) (n : Nat) (S1 : pq_S) : ∀ (f : Nat) (a0 : Nat) (x1 : Int32) (S : pq_S) (H : Heap) (locs : List Loc) (ls : Array Slot), PW C X S (pq_F C X S0 s.heap.size) H locs s → Ext S0 S → TY S a0 12 → lv_has ls 2 [(0, .ref a0), (1, .int x1)] → b_X12_findFacts_2 n f a0 x1 S = some S1 → W p l e rm_X12_findFacts s m args below meth c H locs 0 0 (MQ below (QcV C X S0 s.heap.size S1) args s 0 0 (pq_F C X S0 s.heap.size)) (F0 m 2 ls []) := by
  obtain ⟨hx, hb, hml, hown, hU, hr, hlk⟩ := id cx
  intro f
  induction f with
  | zero =>
    intro a0 x1 S H locs ls hw hE Ta0 hl hm
    cases hm
  | succ f ih =>
    intro a0 x1 S H locs ls hw hE Ta0 hl hm
    rw [b_X12_findFacts_2] at hm
    refine lv_iload_n hx hb dX12_findFacts_2 rfl (lv_at hl 1 rfl) ?_
    refine lv_iconst (v := 5) hx hb dX12_findFacts_3 (by decide) ?_
    refine lv_icmp_ge (tgt := 20) hx hb dX12_findFacts_4 (by decide) (fun h1 => ?_) (fun h1 => ?_)
    · rw [if_pos h1] at hm
      exact wb_X12_findFacts_20 cx C X S0 n S1 a0 S _ _ _ hw hE Ta0 (lv_sub hl [0] rfl) hm
    · rw [if_neg h1] at hm
      refine lv_aload_n hx hb dX12_findFacts_7 rfl (lv_at hl 0 rfl) ?_
      obtain ⟨q2, hq2, hm⟩ := bd_some hm
      have Tq2 : TY S q2 14 := hw.wf.ref (k := 12) (j := 37) Ta0 (by decide) (by decide) hq2
      refine pg_rb (k := 12) (j := 37) (f := 1237) hx hb hown hU iu12 hw Ta0 (by decide) rfl (hU _ tw1508) rfl hq2 dX12_findFacts_8 ?_
      refine lv_iload_n hx hb dX12_findFacts_11 rfl (lv_at hl 1 rfl) ?_
      refine lv_iconst (v := 0) hx hb dX12_findFacts_12 (by decide) ?_
      obtain ⟨hi3, hm⟩ := ck_some hm
      refine pw_iast hx hb hw Tq2 hi3 dX12_findFacts_13 (fun H locs hw => ?_)
      refine lv_iinc (v := (x1 + 1)) (lv' := [(1, .int (x1 + 1)), (0, .ref a0)]) hx hb dX12_findFacts_14 hl (k := 1) rfl rfl (by decide) rfl (fun ls hl => ?_)
      refine lv_goto (tgt := 2) hx hb dX12_findFacts_17 (by decide) ?_
      exact ih a0 (x1 + 1) (sA S q2 (Int32.toNatClampNeg x1) 0) _ _ _ hw hE Ta0 (lv_sub hl [1, 0] rfl) hm
def m_X12_findFacts (n : Nat) (a0 : Nat) (S0 : pq_S) : Option pq_S := b_X12_findFacts_2 n n a0 0 S0
theorem tc_X12_findFacts : Cond.code yX12_findFacts cX12_findFacts 2 none ∈ pq_U := tw1856
theorem cd_X12_findFacts : yX12_findFacts.cls = RX12 ∧ yX12_findFacts.cls ≠ "java/lang/invoke/MethodHandle" ∧ yX12_findFacts.cls ≠ "java/lang/invoke/VarHandle" ∧ (parseMethodDescriptor yX12_findFacts.desc).map (fun d => d.parameters.length) = some 0 := by decide +kernel
set_option maxHeartbeats 4000000 in
set_option maxRecDepth 100000 in
theorem c_X12_findFacts (l : Launch) (C : pq_C) (X : va_W) (n : Nat) (S0 : pq_S) (hF : WF S0) (sz : Nat) (a0 : Nat) (Ta0 : TY S0 a0 12) (S1 : pq_S) (hm : m_X12_findFacts n a0 S0 = some S1) : MV l yX12_findFacts (.code yX12_findFacts cX12_findFacts 2 none :: pq_U) rm_X12_findFacts C X S0 sz [.ref a0] S1 0 0 := by
  refine Met.ofW (cc := cX12_findFacts) (maxL := 2) (ret := none) (by decide) rfl ?_
  intro p e s m args below meth c s₁ B hml hv
  obtain ⟨rfl, hv⟩ := hv
  have hsz := hv.1
  subst hsz
  have hw := pw_entry hF hv
  have hts := atoms_spec (ws := .code yX12_findFacts cX12_findFacts 2 none :: pq_U) B.pre
  have hU : ∀ w ∈ pq_U, w.before _ s = true := fun w h => hts w (List.mem_cons_of_mem _ h)
  have hx := B.exec
  have hb := B.bytes
  have hr := B.returns
  have hown : s.vm.findClass RX12 = some m.cls := findClass_of_methodNamed B.named
  have hlk := B.notSynchronized
  have hl := lv_entry ([.ref a0]) (n := 2) (Nat.le_of_ble_eq_true rfl)
  rw [lg_entry_eq]
  generalize (lg_sl ([.ref a0]) ++ List.replicate (2 - (lg_sl ([.ref a0])).length) Slot.unset).toArray = ls at hl ⊢
  have hl : lv_has ls 2 [(0, .ref a0)] := hl
  have hE : Ext S0 S0 := Ext.rf _
  have cx : Cx p s m _ meth c cX12_findFacts 2 RX12 none := ⟨hx, hb, hml, hown, hU, hr, hlk⟩
  rw [m_X12_findFacts] at hm
  refine lv_iconst (v := 0) hx hb dX12_findFacts_0 (by decide) ?_
  refine lv_istore_n (lv' := [(1, .int 0), (0, .ref a0)]) hx hb dX12_findFacts_1 rfl hl (by decide) rfl (fun ls hl => ?_)
  exact wb_X12_findFacts_2 cx C X S0 n S1 n a0 0 S0 _ _ _ hw hE Ta0 (lv_sub hl [1, 0] rfl) hm
abbrev rm_X12_apart : Room := { frames := 0, cells := 0, slots := 0, locals := 0 }
def m_X12_apart (n : Nat) (x0 : Int32) (x1 : Int32) (S0 : pq_S) : Option (Int32 × pq_S) := if x1 ≤ x0 then some ((x0 - x1), S0) else some ((x1 - x0), S0)
theorem tc_X12_apart : Cond.code yX12_apart cX12_apart 2 (some .int) ∈ pq_U := tw1859
theorem cd_X12_apart : yX12_apart.cls = RX12 ∧ yX12_apart.cls ≠ "java/lang/invoke/MethodHandle" ∧ yX12_apart.cls ≠ "java/lang/invoke/VarHandle" ∧ (parseMethodDescriptor yX12_apart.desc).map (fun d => d.parameters.length) = some 2 := by decide +kernel
set_option maxHeartbeats 4000000 in
set_option maxRecDepth 100000 in
theorem c_X12_apart (l : Launch) (C : pq_C) (X : va_W) (n : Nat) (S0 : pq_S) (hF : WF S0) (sz : Nat) (x0 : Int32) (x1 : Int32)  (r : Int32) (S1 : pq_S) (hm : m_X12_apart n x0 x1 S0 = some (r, S1)) : MI l yX12_apart (.code yX12_apart cX12_apart 2 (some .int) :: pq_U) rm_X12_apart C X S0 sz [.int x0, .int x1] r S1 0 0 := by
  refine Met.ofW (cc := cX12_apart) (maxL := 2) (ret := (some .int)) (by decide) rfl ?_
  intro p e s m args below meth c s₁ B hml hv
  obtain ⟨rfl, hv⟩ := hv
  have hsz := hv.1
  subst hsz
  have hw := pw_entry hF hv
  have hts := atoms_spec (ws := .code yX12_apart cX12_apart 2 (some .int) :: pq_U) B.pre
  have hU : ∀ w ∈ pq_U, w.before _ s = true := fun w h => hts w (List.mem_cons_of_mem _ h)
  have hx := B.exec
  have hb := B.bytes
  have hr := B.returns
  have hown : s.vm.findClass RX12 = some m.cls := findClass_of_methodNamed B.named
  have hlk := B.notSynchronized
  have hl := lv_entry ([.int x0, .int x1]) (n := 2) (Nat.le_of_ble_eq_true rfl)
  rw [lg_entry_eq]
  generalize (lg_sl ([.int x0, .int x1]) ++ List.replicate (2 - (lg_sl ([.int x0, .int x1])).length) Slot.unset).toArray = ls at hl ⊢
  have hl : lv_has ls 2 [(0, .int x0), (1, .int x1)] := hl
  have hE : Ext S0 S0 := Ext.rf _
  have cx : Cx p s m _ meth c cX12_apart 2 RX12 (some .int) := ⟨hx, hb, hml, hown, hU, hr, hlk⟩
  rw [m_X12_apart] at hm
  refine lv_iload_n hx hb dX12_apart_0 rfl (lv_at hl 0 rfl) ?_
  refine lv_iload_n hx hb dX12_apart_1 rfl (lv_at hl 1 rfl) ?_
  refine lv_icmp_ge (tgt := 11) hx hb dX12_apart_2 (by decide) (fun h1 => ?_) (fun h1 => ?_)
  · rw [if_pos h1] at hm
    refine lv_iload_n hx hb dX12_apart_11 rfl (lv_at hl 0 rfl) ?_
    refine lv_iload_n hx hb dX12_apart_12 rfl (lv_at hl 1 rfl) ?_
    refine lv_isub hx hb dX12_apart_13 ?_
    cases hm
    exact pw_iret hx hb hr rfl hlk hw hE dX12_apart_14
  · rw [if_neg h1] at hm
    refine lv_iload_n hx hb dX12_apart_5 rfl (lv_at hl 1 rfl) ?_
    refine lv_iload_n hx hb dX12_apart_6 rfl (lv_at hl 0 rfl) ?_
    refine lv_isub hx hb dX12_apart_7 ?_
    refine lv_goto (tgt := 14) hx hb dX12_apart_8 (by decide) ?_
    cases hm
    exact pw_iret hx hb hr rfl hlk hw hE dX12_apart_14
abbrev rm_X12_tellsStep : Room := { frames := 1, cells := 0, slots := 0, locals := 20 }
def m_X12_tellsStep (n : Nat) (a0 : Nat) (x1 : Int32) (x2 : Int32) (x3 : Int32) (x4 : Int32) (x5 : Int32) (S0 : pq_S) : Option pq_S := cb (m_X12_fine n a0 S0) fun r3 S_1 => if r3 = 0 then some S_1 else Option.bind (pR S_1 1238 a0) fun q7 => ck (ix (pI S_1 1240 a0) (pN S_1 q7)) (dix _ _) (Option.bind (pR (sA S_1 q7 (Int32.toNatClampNeg (pI S_1 1240 a0)) x1) 1238 a0) fun q9 => ck (ix ((pI (sA S_1 q7 (Int32.toNatClampNeg (pI S_1 1240 a0)) x1) 1240 a0) + (1 : Int32)) (pN (sA S_1 q7 (Int32.toNatClampNeg (pI S_1 1240 a0)) x1) q9)) (dix _ _) (lt_ (sA (sA S_1 q7 (Int32.toNatClampNeg (pI S_1 1240 a0)) x1) q9 (Int32.toNatClampNeg ((pI (sA S_1 q7 (Int32.toNatClampNeg (pI S_1 1240 a0)) x1) 1240 a0) + (1 : Int32))) x2) fun S_11 => Option.bind (pR S_11 1238 a0) fun q12 => ck (ix ((pI S_11 1240 a0) + (2 : Int32)) (pN S_11 q12)) (dix _ _) (lt_ (sA S_11 q12 (Int32.toNatClampNeg ((pI S_11 1240 a0) + (2 : Int32))) x3) fun S_14 => Option.bind (pR S_14 1238 a0) fun q15 => ck (ix ((pI S_14 1240 a0) + (3 : Int32)) (pN S_14 q15)) (dix _ _) (lt_ (sA S_14 q15 (Int32.toNatClampNeg ((pI S_14 1240 a0) + (3 : Int32))) x4) fun S_17 => Option.bind (pR S_17 1238 a0) fun q18 => ck (ix ((pI S_17 1240 a0) + (4 : Int32)) (pN S_17 q18)) (dix _ _) (lt_ (sA S_17 q18 (Int32.toNatClampNeg ((pI S_17 1240 a0) + (4 : Int32))) x5) fun S_20 => some (sI S_20 1240 a0 ((pI S_20 1240 a0) + (5 : Int32))))))))
theorem tc_X12_tellsStep : Cond.code yX12_tellsStep cX12_tellsStep 6 none ∈ pq_U := tw1832
theorem cd_X12_tellsStep : yX12_tellsStep.cls = RX12 ∧ yX12_tellsStep.cls ≠ "java/lang/invoke/MethodHandle" ∧ yX12_tellsStep.cls ≠ "java/lang/invoke/VarHandle" ∧ (parseMethodDescriptor yX12_tellsStep.desc).map (fun d => d.parameters.length) = some 5 := by decide +kernel
set_option maxHeartbeats 4000000 in
set_option maxRecDepth 100000 in
theorem c_X12_tellsStep (l : Launch) (C : pq_C) (X : va_W) (n : Nat) (S0 : pq_S) (hF : WF S0) (sz : Nat) (a0 : Nat) (x1 : Int32) (x2 : Int32) (x3 : Int32) (x4 : Int32) (x5 : Int32) (Ta0 : TY S0 a0 12) (S1 : pq_S) (hm : m_X12_tellsStep n a0 x1 x2 x3 x4 x5 S0 = some S1) : MV l yX12_tellsStep (.code yX12_tellsStep cX12_tellsStep 6 none :: pq_U) rm_X12_tellsStep C X S0 sz [.ref a0, .int x1, .int x2, .int x3, .int x4, .int x5] S1 0 0 := by
  refine Met.ofW (cc := cX12_tellsStep) (maxL := 6) (ret := none) (by decide) rfl ?_
  intro p e s m args below meth c s₁ B hml hv
  obtain ⟨rfl, hv⟩ := hv
  have hsz := hv.1
  subst hsz
  have hw := pw_entry hF hv
  have hts := atoms_spec (ws := .code yX12_tellsStep cX12_tellsStep 6 none :: pq_U) B.pre
  have hU : ∀ w ∈ pq_U, w.before _ s = true := fun w h => hts w (List.mem_cons_of_mem _ h)
  have hx := B.exec
  have hb := B.bytes
  have hr := B.returns
  have hown : s.vm.findClass RX12 = some m.cls := findClass_of_methodNamed B.named
  have hlk := B.notSynchronized
  have hl := lv_entry ([.ref a0, .int x1, .int x2, .int x3, .int x4, .int x5]) (n := 6) (Nat.le_of_ble_eq_true rfl)
  rw [lg_entry_eq]
  generalize (lg_sl ([.ref a0, .int x1, .int x2, .int x3, .int x4, .int x5]) ++ List.replicate (6 - (lg_sl ([.ref a0, .int x1, .int x2, .int x3, .int x4, .int x5])).length) Slot.unset).toArray = ls at hl ⊢
  have hl : lv_has ls 6 [(0, .ref a0), (1, .int x1), (2, .int x2), (3, .int x3), (4, .int x4), (5, .int x5)] := hl
  have hE : Ext S0 S0 := Ext.rf _
  have cx : Cx p s m _ meth c cX12_tellsStep 6 RX12 none := ⟨hx, hb, hml, hown, hU, hr, hlk⟩
  rw [m_X12_tellsStep] at hm
  refine lv_aload_n hx hb dX12_tellsStep_0 rfl (lv_at hl 0 rfl) ?_
  obtain ⟨r3, S_1, hq2, hm⟩ := cb_some hm
  refine pw_cz (va_runV (As := []) (rest := []) ⟨hx, hb, hml, hown, hU⟩ (c_X12_fine l C X n S0 hw.wf _ a0 (Ta0) r3 S_1 hq2) (cwV 0 hU (pq_gV tw1711 tw1713 ts125 tw14 tc_X12_fine) rfl rfl rfl cd_X12_fine ⟨Nat.le_of_ble_eq_true rfl, Nat.le_of_ble_eq_true rfl⟩) (pw_preV hw Ta0 (by decide) rfl) rfl rfl hl.1 rfl (lv_room (Nat.le_of_ble_eq_true rfl)) dX12_tellsStep_1 ⟨Nat.zero_le _, Nat.zero_le _⟩) hw (fun H locs hw hx4 hz5 => ?_)
  have Ta0 : TY S_1 a0 12 := ty_ext hx4 Ta0
  have hE : Ext S0 S_1 := Ext.tr hE hx4
  refine lv_if_ne (tgt := 8) hx hb dX12_tellsStep_4 (by decide) (fun h6 => ?_) (fun h6 => ?_)
  · rw [if_neg h6] at hm
    refine lv_aload_n hx hb dX12_tellsStep_8 rfl (lv_at hl 0 rfl) ?_
    obtain ⟨q7, hq7, hm⟩ := bd_some hm
    have Tq7 : TY S_1 q7 14 := hw.wf.ref (k := 12) (j := 38) Ta0 (by decide) (by decide) hq7
    refine pg_rb (k := 12) (j := 38) (f := 1238) hx hb hown hU iu12 hw Ta0 (by decide) rfl (hU _ tw1509) rfl hq7 dX12_tellsStep_9 ?_
    refine lv_aload_n hx hb dX12_tellsStep_12 rfl (lv_at hl 0 rfl) ?_
    refine pg_i (k := 12) (j := 40) (f := 1240) hx hb hown hU iu12 hw Ta0 (by decide) rfl (hU _ tw1511) rfl dX12_tellsStep_13 ?_
    refine lv_iload_n hx hb dX12_tellsStep_16 rfl (lv_at hl 1 rfl) ?_
    obtain ⟨hi8, hm⟩ := ck_some hm
    refine pw_iast hx hb hw Tq7 hi8 dX12_tellsStep_17 (fun H locs hw => ?_)
    refine lv_aload_n hx hb dX12_tellsStep_18 rfl (lv_at hl 0 rfl) ?_
    obtain ⟨q9, hq9, hm⟩ := bd_some hm
    have Tq9 : TY (sA S_1 q7 (Int32.toNatClampNeg (pI S_1 1240 a0)) x1) q9 14 := hw.wf.ref (k := 12) (j := 38) Ta0 (by decide) (by decide) hq9
    refine pg_rb (k := 12) (j := 38) (f := 1238) hx hb hown hU iu12 hw Ta0 (by decide) rfl (hU _ tw1509) rfl hq9 dX12_tellsStep_19 ?_
    refine lv_aload_n hx hb dX12_tellsStep_22 rfl (lv_at hl 0 rfl) ?_
    refine pg_i (k := 12) (j := 40) (f := 1240) hx hb hown hU iu12 hw Ta0 (by decide) rfl (hU _ tw1511) rfl dX12_tellsStep_23 ?_
    refine lv_iconst (v := 1) hx hb dX12_tellsStep_26 (by decide) ?_
    refine lv_iadd hx hb dX12_tellsStep_27 ?_
    refine lv_iload_n hx hb dX12_tellsStep_28 rfl (lv_at hl 2 rfl) ?_
    obtain ⟨hi10, hm⟩ := ck_some hm
    refine pw_iast hx hb hw Tq9 hi10 dX12_tellsStep_29 (fun H locs hw => ?_)
    obtain ⟨S_11, eS_11, hm⟩ := lt_some hm
    rw [← eS_11] at hw
    have Ta0 : TY S_11 a0 12 := by rw [eS_11]; exact Ta0
    have hE : Ext S0 S_11 := by rw [eS_11]; exact hE
    refine lv_aload_n hx hb dX12_tellsStep_30 rfl (lv_at hl 0 rfl) ?_
    obtain ⟨q12, hq12, hm⟩ := bd_some hm
    have Tq12 : TY S_11 q12 14 := hw.wf.ref (k := 12) (j := 38) Ta0 (by decide) (by decide) hq12
    refine pg_rb (k := 12) (j := 38) (f := 1238) hx hb hown hU iu12 hw Ta0 (by decide) rfl (hU _ tw1509) rfl hq12 dX12_tellsStep_31 ?_
    refine lv_aload_n hx hb dX12_tellsStep_34 rfl (lv_at hl 0 rfl) ?_
    refine pg_i (k := 12) (j := 40) (f := 1240) hx hb hown hU iu12 hw Ta0 (by decide) rfl (hU _ tw1511) rfl dX12_tellsStep_35 ?_
    refine lv_iconst (v := 2) hx hb dX12_tellsStep_38 (by decide) ?_
    refine lv_iadd hx hb dX12_tellsStep_39 ?_
    refine lv_iload_n hx hb dX12_tellsStep_40 rfl (lv_at hl 3 rfl) ?_
    obtain ⟨hi13, hm⟩ := ck_some hm
    refine pw_iast hx hb hw Tq12 hi13 dX12_tellsStep_41 (fun H locs hw => ?_)
    obtain ⟨S_14, eS_14, hm⟩ := lt_some hm
    rw [← eS_14] at hw
    have Ta0 : TY S_14 a0 12 := by rw [eS_14]; exact Ta0
    have hE : Ext S0 S_14 := by rw [eS_14]; exact hE
    refine lv_aload_n hx hb dX12_tellsStep_42 rfl (lv_at hl 0 rfl) ?_
    obtain ⟨q15, hq15, hm⟩ := bd_some hm
    have Tq15 : TY S_14 q15 14 := hw.wf.ref (k := 12) (j := 38) Ta0 (by decide) (by decide) hq15
    refine pg_rb (k := 12) (j := 38) (f := 1238) hx hb hown hU iu12 hw Ta0 (by decide) rfl (hU _ tw1509) rfl hq15 dX12_tellsStep_43 ?_
    refine lv_aload_n hx hb dX12_tellsStep_46 rfl (lv_at hl 0 rfl) ?_
    refine pg_i (k := 12) (j := 40) (f := 1240) hx hb hown hU iu12 hw Ta0 (by decide) rfl (hU _ tw1511) rfl dX12_tellsStep_47 ?_
    refine lv_iconst (v := 3) hx hb dX12_tellsStep_50 (by decide) ?_
    refine lv_iadd hx hb dX12_tellsStep_51 ?_
    refine lv_iload hx hb dX12_tellsStep_52 (lv_at hl 4 rfl) ?_
    obtain ⟨hi16, hm⟩ := ck_some hm
    refine pw_iast hx hb hw Tq15 hi16 dX12_tellsStep_54 (fun H locs hw => ?_)
    obtain ⟨S_17, eS_17, hm⟩ := lt_some hm
    rw [← eS_17] at hw
    have Ta0 : TY S_17 a0 12 := by rw [eS_17]; exact Ta0
    have hE : Ext S0 S_17 := by rw [eS_17]; exact hE
    refine lv_aload_n hx hb dX12_tellsStep_55 rfl (lv_at hl 0 rfl) ?_
    obtain ⟨q18, hq18, hm⟩ := bd_some hm
    have Tq18 : TY S_17 q18 14 := hw.wf.ref (k := 12) (j := 38) Ta0 (by decide) (by decide) hq18
    refine pg_rb (k := 12) (j := 38) (f := 1238) hx hb hown hU iu12 hw Ta0 (by decide) rfl (hU _ tw1509) rfl hq18 dX12_tellsStep_56 ?_
    refine lv_aload_n hx hb dX12_tellsStep_59 rfl (lv_at hl 0 rfl) ?_
    refine pg_i (k := 12) (j := 40) (f := 1240) hx hb hown hU iu12 hw Ta0 (by decide) rfl (hU _ tw1511) rfl dX12_tellsStep_60 ?_
    refine lv_iconst (v := 4) hx hb dX12_tellsStep_63 (by decide) ?_
    refine lv_iadd hx hb dX12_tellsStep_64 ?_
    refine lv_iload hx hb dX12_tellsStep_65 (lv_at hl 5 rfl) ?_
    obtain ⟨hi19, hm⟩ := ck_some hm
    refine pw_iast hx hb hw Tq18 hi19 dX12_tellsStep_67 (fun H locs hw => ?_)
    obtain ⟨S_20, eS_20, hm⟩ := lt_some hm
    rw [← eS_20] at hw
    have Ta0 : TY S_20 a0 12 := by rw [eS_20]; exact Ta0
    have hE : Ext S0 S_20 := by rw [eS_20]; exact hE
    refine lv_aload_n hx hb dX12_tellsStep_68 rfl (lv_at hl 0 rfl) ?_
    refine lv_dup hx hb dX12_tellsStep_69 rfl ?_
    refine pg_i (k := 12) (j := 40) (f := 1240) hx hb hown hU iu12 hw Ta0 (by decide) rfl (hU _ tw1511) rfl dX12_tellsStep_70 ?_
    refine lv_iconst (v := 5) hx hb dX12_tellsStep_73 (by decide) ?_
    refine lv_iadd hx hb dX12_tellsStep_74 ?_
    refine pp_i (k := 12) (j := 40) (f := 1240) hx hb hown hU iu12 tyX12_ok nmX12 hw Ta0 (by decide) rfl (hU _ tw1511) rfl rfl rfl dX12_tellsStep_75 (fun H locs hw => ?_)
    cases hm
    exact pw_vret hx hb hr hlk hw hE dX12_tellsStep_78
  · rw [if_pos h6] at hm
    cases hm
    exact pw_vret hx hb hr hlk hw hE dX12_tellsStep_7
abbrev rm_X12_readCarry : Room := { frames := 2, cells := 0, slots := 0, locals := 47 }
def b_X12_readCarry_52 (n : Nat) (a0 : Nat) (x1 : Int32) (x3 : Int32) (S : pq_S) : Option pq_S := cb (m_X12_readNumber n a0 1 99 S) fun r25 S_23 => cb (m_X12_readNumber n a0 0 1 S_23) fun r29 S_27 => Option.bind (m_X12_tellsStep n a0 0 x1 x3 r25 r29 S_27) fun S_31 => some S_31
set_option maxHeartbeats 4000000 in
set_option maxRecDepth 100000 in
theorem wb_X12_readCarry_52 {p : Program} {l : Launch} {e : Env} {s : State} {m : MethodId} {args : Array Value} {below : List Frame} {meth : Method} {c : Code} (cx : Cx p s m args meth c cX12_readCarry 5 RX12 none) (C : pq_C) (X : va_W) (S0 : pq_S) (n : Nat) (S1 : pq_S) : ∀ (a0 : Nat) (x1 : Int32) (x3 : Int32) (S : pq_S) (H : Heap) (locs : List Loc) (ls : Array Slot), PW C X S (pq_F C X S0 s.heap.size) H locs s → Ext S0 S → TY S a0 12 → lv_has ls 5 [(0, .ref a0), (1, .int x1), (3, .int x3)] → b_X12_readCarry_52 n a0 x1 x3 S = some S1 → W p l e rm_X12_readCarry s m args below meth c H locs 0 0 (MQ below (QcV C X S0 s.heap.size S1) args s 0 0 (pq_F C X S0 s.heap.size)) (F0 m 52 ls []) := by
  obtain ⟨hx, hb, hml, hown, hU, hr, hlk⟩ := id cx
  intro a0 x1 x3 S H locs ls hw hE Ta0 hl hm
  rw [b_X12_readCarry_52] at hm
  refine lv_aload_n hx hb dX12_readCarry_52 rfl (lv_at hl 0 rfl) ?_
  refine lv_iconst (v := 1) hx hb dX12_readCarry_53 (by decide) ?_
  refine lv_bipush (v := 99) hx hb dX12_readCarry_54 (by decide) ?_
  obtain ⟨r25, S_23, hq24, hm⟩ := cb_some hm
  refine pw_ci (va_runV (As := [.int 1, .int 99]) (rest := []) ⟨hx, hb, hml, hown, hU⟩ (c_X12_readNumber l C X n S hw.wf _ a0 1 99 (Ta0) r25 S_23 hq24) (cwV 2 hU (pq_gV tw1757 tw1759 ts133 tw14 tc_X12_readNumber) rfl rfl rfl cd_X12_readNumber ⟨Nat.le_of_ble_eq_true rfl, Nat.le_of_ble_eq_true rfl⟩) (pw_preV hw Ta0 (by decide) rfl) rfl rfl hl.1 rfl (lv_room (Nat.le_of_ble_eq_true rfl)) dX12_readCarry_56 ⟨Nat.zero_le _, Nat.zero_le _⟩) hw (fun H locs hw hx26 => ?_)
  have Ta0 : TY S_23 a0 12 := ty_ext hx26 Ta0
  have hE : Ext S0 S_23 := Ext.tr hE hx26
  refine lv_istore (lv' := [(4, .int r25), (0, .ref a0), (1, .int x1), (3, .int x3)]) hx hb dX12_readCarry_59 hl (by decide) rfl (fun ls hl => ?_)
  refine lv_aload_n hx hb dX12_readCarry_61 rfl (lv_at hl 1 rfl) ?_
  refine lv_iconst (v := 0) hx hb dX12_readCarry_62 (by decide) ?_
  refine lv_iload_n hx hb dX12_readCarry_63 rfl (lv_at hl 2 rfl) ?_
  refine lv_iload_n hx hb dX12_readCarry_64 rfl (lv_at hl 3 rfl) ?_
  refine lv_iload hx hb dX12_readCarry_65 (lv_at hl 0 rfl) ?_
  refine lv_aload_n hx hb dX12_readCarry_67 rfl (lv_at hl 1 rfl) ?_
  refine lv_iconst (v := 0) hx hb dX12_readCarry_68 (by decide) ?_
  refine lv_iconst (v := 1) hx hb dX12_readCarry_69 (by decide) ?_
  obtain ⟨r29, S_27, hq28, hm⟩ := cb_some hm
  refine pw_ci (va_runV (As := [.int 0, .int 1]) (rest := [.int r25, .int x3, .int x1, .int 0, .ref a0]) ⟨hx, hb, hml, hown, hU⟩ (c_X12_readNumber l C X n S_23 hw.wf _ a0 0 1 (Ta0) r29 S_27 hq28) (cwV 2 hU (pq_gV tw1757 tw1759 ts133 tw14 tc_X12_readNumber) rfl rfl rfl cd_X12_readNumber ⟨Nat.le_of_ble_eq_true rfl, Nat.le_of_ble_eq_true rfl⟩) (pw_preV hw Ta0 (by decide) rfl) rfl rfl hl.1 rfl (lv_room (Nat.le_of_ble_eq_true rfl)) dX12_readCarry_70 ⟨Nat.zero_le _, Nat.zero_le _⟩) hw (fun H locs hw hx30 => ?_)
  have Ta0 : TY S_27 a0 12 := ty_ext hx30 Ta0
  have hE : Ext S0 S_27 := Ext.tr hE hx30
  obtain ⟨S_31, hq32, hm⟩ := bd_some hm
  refine pw_cv (va_runV (As := [.int 0, .int x1, .int x3, .int r25, .int r29]) (rest := []) ⟨hx, hb, hml, hown, hU⟩ (c_X12_tellsStep l C X n S_27 hw.wf _ a0 0 x1 x3 r25 r29 (Ta0) S_31 hq32) (cwV 5 hU (pq_gV tw1829 tw1831 ts145 tw14 tc_X12_tellsStep) rfl rfl rfl cd_X12_tellsStep ⟨Nat.le_of_ble_eq_true rfl, Nat.le_of_ble_eq_true rfl⟩) (pw_preV hw Ta0 (by decide) rfl) rfl rfl hl.1 rfl (lv_room (Nat.le_of_ble_eq_true rfl)) dX12_readCarry_73 ⟨Nat.zero_le _, Nat.zero_le _⟩) hw (fun H locs hw hx33 => ?_)
  have Ta0 : TY S_31 a0 12 := ty_ext hx33 Ta0
  have hE : Ext S0 S_31 := Ext.tr hE hx33
  cases hm
  exact pw_vret hx hb hr hlk hw hE dX12_readCarry_76
def m_X12_readCarry (n : Nat) (a0 : Nat) (S0 : pq_S) : Option pq_S := cb (m_X12_readNumber n a0 0 ((pI S0 1224 a0) - (1 : Int32)) S0) fun r3 S_1 => cb (m_X12_here n a0 S_1) fun r7 S_5 => cb (m_X12_readNumber n a0 0 ((pI S_5 1224 a0) - (1 : Int32)) S_5) fun r11 S_9 => cb (m_X12_fine n a0 S_9) fun r15 S_13 => if r15 = 0 then b_X12_readCarry_52 n a0 r3 r11 S_13 else if r3 = r11 then Option.bind (m_X12_wrong n a0 2 (pI S_5 1204 a0) S_13) fun S_20 => b_X12_readCarry_52 n a0 r3 r11 S_20 else b_X12_readCarry_52 n a0 r3 r11 S_13
theorem tc_X12_readCarry : Cond.code yX12_readCarry cX12_readCarry 5 none ∈ pq_U := tw1828
theorem cd_X12_readCarry : yX12_readCarry.cls = RX12 ∧ yX12_readCarry.cls ≠ "java/lang/invoke/MethodHandle" ∧ yX12_readCarry.cls ≠ "java/lang/invoke/VarHandle" ∧ (parseMethodDescriptor yX12_readCarry.desc).map (fun d => d.parameters.length) = some 0 := by decide +kernel
set_option maxHeartbeats 4000000 in
set_option maxRecDepth 100000 in
theorem c_X12_readCarry (l : Launch) (C : pq_C) (X : va_W) (n : Nat) (S0 : pq_S) (hF : WF S0) (sz : Nat) (a0 : Nat) (Ta0 : TY S0 a0 12) (S1 : pq_S) (hm : m_X12_readCarry n a0 S0 = some S1) : MV l yX12_readCarry (.code yX12_readCarry cX12_readCarry 5 none :: pq_U) rm_X12_readCarry C X S0 sz [.ref a0] S1 0 0 := by
  refine Met.ofW (cc := cX12_readCarry) (maxL := 5) (ret := none) (by decide) rfl ?_
  intro p e s m args below meth c s₁ B hml hv
  obtain ⟨rfl, hv⟩ := hv
  have hsz := hv.1
  subst hsz
  have hw := pw_entry hF hv
  have hts := atoms_spec (ws := .code yX12_readCarry cX12_readCarry 5 none :: pq_U) B.pre
  have hU : ∀ w ∈ pq_U, w.before _ s = true := fun w h => hts w (List.mem_cons_of_mem _ h)
  have hx := B.exec
  have hb := B.bytes
  have hr := B.returns
  have hown : s.vm.findClass RX12 = some m.cls := findClass_of_methodNamed B.named
  have hlk := B.notSynchronized
  have hl := lv_entry ([.ref a0]) (n := 5) (Nat.le_of_ble_eq_true rfl)
  rw [lg_entry_eq]
  generalize (lg_sl ([.ref a0]) ++ List.replicate (5 - (lg_sl ([.ref a0])).length) Slot.unset).toArray = ls at hl ⊢
  have hl : lv_has ls 5 [(0, .ref a0)] := hl
  have hE : Ext S0 S0 := Ext.rf _
  have cx : Cx p s m _ meth c cX12_readCarry 5 RX12 none := ⟨hx, hb, hml, hown, hU, hr, hlk⟩
  rw [m_X12_readCarry] at hm
  refine lv_aload_n hx hb dX12_readCarry_0 rfl (lv_at hl 0 rfl) ?_
  refine lv_iconst (v := 0) hx hb dX12_readCarry_1 (by decide) ?_
  refine lv_aload_n hx hb dX12_readCarry_2 rfl (lv_at hl 0 rfl) ?_
  refine pg_i (k := 12) (j := 24) (f := 1224) hx hb hown hU iu12 hw Ta0 (by decide) rfl (hU _ tw1495) rfl dX12_readCarry_3 ?_
  refine lv_iconst (v := 1) hx hb dX12_readCarry_6 (by decide) ?_
  refine lv_isub hx hb dX12_readCarry_7 ?_
  obtain ⟨r3, S_1, hq2, hm⟩ := cb_some hm
  refine pw_ci (va_runV (As := [.int 0, .int ((pI S0 1224 a0) - (1 : Int32))]) (rest := []) ⟨hx, hb, hml, hown, hU⟩ (c_X12_readNumber l C X n S0 hw.wf _ a0 0 ((pI S0 1224 a0) - (1 : Int32)) (Ta0) r3 S_1 hq2) (cwV 2 hU (pq_gV tw1757 tw1759 ts133 tw14 tc_X12_readNumber) rfl rfl rfl cd_X12_readNumber ⟨Nat.le_of_ble_eq_true rfl, Nat.le_of_ble_eq_true rfl⟩) (pw_preV hw Ta0 (by decide) rfl) rfl rfl hl.1 rfl (lv_room (Nat.le_of_ble_eq_true rfl)) dX12_readCarry_8 ⟨Nat.zero_le _, Nat.zero_le _⟩) hw (fun H locs hw hx4 => ?_)
  have Ta0 : TY S_1 a0 12 := ty_ext hx4 Ta0
  have hE : Ext S0 S_1 := Ext.tr hE hx4
  refine lv_istore_n (lv' := [(1, .int r3), (0, .ref a0)]) hx hb dX12_readCarry_11 rfl hl (by decide) rfl (fun ls hl => ?_)
  refine lv_aload_n hx hb dX12_readCarry_12 rfl (lv_at hl 1 rfl) ?_
  obtain ⟨r7, S_5, hq6, hm⟩ := cb_some hm
  refine pw_ci (va_runV (As := []) (rest := []) ⟨hx, hb, hml, hown, hU⟩ (c_X12_here l C X n S_1 hw.wf _ a0 (Ta0) r7 S_5 hq6) (cwV 0 hU (pq_gV tw1719 tw1721 ts127 tw14 tc_X12_here) rfl rfl rfl cd_X12_here ⟨Nat.le_of_ble_eq_true rfl, Nat.le_of_ble_eq_true rfl⟩) (pw_preV hw Ta0 (by decide) rfl) rfl rfl hl.1 rfl (lv_room (Nat.le_of_ble_eq_true rfl)) dX12_readCarry_13 ⟨Nat.zero_le _, Nat.zero_le _⟩) hw (fun H locs hw hx8 => ?_)
  have Ta0 : TY S_5 a0 12 := ty_ext hx8 Ta0
  have hE : Ext S0 S_5 := Ext.tr hE hx8
  refine lv_pop hx hb dX12_readCarry_16 rfl ?_
  refine lv_aload_n hx hb dX12_readCarry_17 rfl (lv_at hl 1 rfl) ?_
  refine pg_i (k := 12) (j := 4) (f := 1204) hx hb hown hU iu12 hw Ta0 (by decide) rfl (hU _ tw1475) rfl dX12_readCarry_18 ?_
  refine lv_istore_n (lv' := [(2, .int (pI S_5 1204 a0)), (1, .int r3), (0, .ref a0)]) hx hb dX12_readCarry_21 rfl hl (by decide) rfl (fun ls hl => ?_)
  refine lv_aload_n hx hb dX12_readCarry_22 rfl (lv_at hl 2 rfl) ?_
  refine lv_iconst (v := 0) hx hb dX12_readCarry_23 (by decide) ?_
  refine lv_aload_n hx hb dX12_readCarry_24 rfl (lv_at hl 2 rfl) ?_
  refine pg_i (k := 12) (j := 24) (f := 1224) hx hb hown hU iu12 hw Ta0 (by decide) rfl (hU _ tw1495) rfl dX12_readCarry_25 ?_
  refine lv_iconst (v := 1) hx hb dX12_readCarry_28 (by decide) ?_
  refine lv_isub hx hb dX12_readCarry_29 ?_
  obtain ⟨r11, S_9, hq10, hm⟩ := cb_some hm
  refine pw_ci (va_runV (As := [.int 0, .int ((pI S_5 1224 a0) - (1 : Int32))]) (rest := []) ⟨hx, hb, hml, hown, hU⟩ (c_X12_readNumber l C X n S_5 hw.wf _ a0 0 ((pI S_5 1224 a0) - (1 : Int32)) (Ta0) r11 S_9 hq10) (cwV 2 hU (pq_gV tw1757 tw1759 ts133 tw14 tc_X12_readNumber) rfl rfl rfl cd_X12_readNumber ⟨Nat.le_of_ble_eq_true rfl, Nat.le_of_ble_eq_true rfl⟩) (pw_preV hw Ta0 (by decide) rfl) rfl rfl hl.1 rfl (lv_room (Nat.le_of_ble_eq_true rfl)) dX12_readCarry_30 ⟨Nat.zero_le _, Nat.zero_le _⟩) hw (fun H locs hw hx12 => ?_)
  have Ta0 : TY S_9 a0 12 := ty_ext hx12 Ta0
  have hE : Ext S0 S_9 := Ext.tr hE hx12
  refine lv_istore_n (lv' := [(3, .int r11), (2, .int (pI S_5 1204 a0)), (1, .int r3), (0, .ref a0)]) hx hb dX12_readCarry_33 rfl hl (by decide) rfl (fun ls hl => ?_)
  refine lv_aload_n hx hb dX12_readCarry_34 rfl (lv_at hl 3 rfl) ?_
  obtain ⟨r15, S_13, hq14, hm⟩ := cb_some hm
  refine pw_cz (va_runV (As := []) (rest := []) ⟨hx, hb, hml, hown, hU⟩ (c_X12_fine l C X n S_9 hw.wf _ a0 (Ta0) r15 S_13 hq14) (cwV 0 hU (pq_gV tw1711 tw1713 ts125 tw14 tc_X12_fine) rfl rfl rfl cd_X12_fine ⟨Nat.le_of_ble_eq_true rfl, Nat.le_of_ble_eq_true rfl⟩) (pw_preV hw Ta0 (by decide) rfl) rfl rfl hl.1 rfl (lv_room (Nat.le_of_ble_eq_true rfl)) dX12_readCarry_35 ⟨Nat.zero_le _, Nat.zero_le _⟩) hw (fun H locs hw hx16 hz17 => ?_)
  have Ta0 : TY S_13 a0 12 := ty_ext hx16 Ta0
  have hE : Ext S0 S_13 := Ext.tr hE hx16
  refine lv_if_eq (tgt := 52) hx hb dX12_readCarry_38 (by decide) (fun h18 => ?_) (fun h18 => ?_)
  · rw [if_pos h18] at hm
    exact wb_X12_readCarry_52 cx C X S0 n S1 a0 r3 r11 S_13 _ _ _ hw hE Ta0 (lv_sub hl [3, 2, 0] rfl) hm
  · rw [if_neg h18] at hm
    refine lv_iload_n hx hb dX12_readCarry_41 rfl (lv_at hl 2 rfl) ?_
    refine lv_iload_n hx hb dX12_readCarry_42 rfl (lv_at hl 0 rfl) ?_
    refine lv_icmp_ne (tgt := 52) hx hb dX12_readCarry_43 (by decide) (fun h19 => ?_) (fun h19 => ?_)
    · rw [if_neg h19] at hm
      exact wb_X12_readCarry_52 cx C X S0 n S1 a0 r3 r11 S_13 _ _ _ hw hE Ta0 (lv_sub hl [3, 2, 0] rfl) hm
    · rw [if_pos h19] at hm
      refine lv_aload_n hx hb dX12_readCarry_46 rfl (lv_at hl 3 rfl) ?_
      refine lv_iconst (v := 2) hx hb dX12_readCarry_47 (by decide) ?_
      refine lv_iload_n hx hb dX12_readCarry_48 rfl (lv_at hl 1 rfl) ?_
      obtain ⟨S_20, hq21, hm⟩ := bd_some hm
      refine pw_cv (va_runV (As := [.int 2, .int (pI S_5 1204 a0)]) (rest := []) ⟨hx, hb, hml, hown, hU⟩ (c_X12_wrong l C X n S_13 hw.wf _ a0 2 (pI S_5 1204 a0) (Ta0) S_20 hq21) (cwV 2 hU (pq_gV tw1741 tw1743 ts129 tw14 tc_X12_wrong) rfl rfl rfl cd_X12_wrong ⟨Nat.le_of_ble_eq_true rfl, Nat.le_of_ble_eq_true rfl⟩) (pw_preV hw Ta0 (by decide) rfl) rfl rfl hl.1 rfl (lv_room (Nat.le_of_ble_eq_true rfl)) dX12_readCarry_49 ⟨Nat.zero_le _, Nat.zero_le _⟩) hw (fun H locs hw hx22 => ?_)
      have Ta0 : TY S_20 a0 12 := ty_ext hx22 Ta0
      have hE : Ext S0 S_20 := Ext.tr hE hx22
      exact wb_X12_readCarry_52 cx C X S0 n S1 a0 r3 r11 S_20 _ _ _ hw hE Ta0 (lv_sub hl [3, 2, 0] rfl) hm
abbrev rm_X12_adds : Room := { frames := 0, cells := 0, slots := 0, locals := 0 }
def m_X12_adds (n : Nat) (a0 : Nat) (x1 : Int32) (x2 : Int32) (S0 : pq_S) : Option pq_S := Option.bind (pR S0 1247 a0) fun q1 => Option.bind (pR S0 1247 a0) fun q2 => ck (ix x1 (pN S0 q2)) (dix _ _) (if ((pA S0 q2 (Int32.toNatClampNeg x1)) + x2) ≤ 999 then Option.bind (pR S0 1247 a0) fun q5 => ck (ix x1 (pN S0 q5)) (dix _ _) (ck (ix x1 (pN S0 q1)) (dix _ _) (lt_ (sA S0 q1 (Int32.toNatClampNeg x1) ((pA S0 q5 (Int32.toNatClampNeg x1)) + x2)) fun S_8 => some S_8)) else ck (ix x1 (pN S0 q1)) (dix _ _) (some (sA S0 q1 (Int32.toNatClampNeg x1) 999)))
theorem tc_X12_adds : Cond.code yX12_adds cX12_adds 3 none ∈ pq_U := tw1873
theorem cd_X12_adds : yX12_adds.cls = RX12 ∧ yX12_adds.cls ≠ "java/lang/invoke/MethodHandle" ∧ yX12_adds.cls ≠ "java/lang/invoke/VarHandle" ∧ (parseMethodDescriptor yX12_adds.desc).map (fun d => d.parameters.length) = some 2 := by decide +kernel
set_option maxHeartbeats 4000000 in
set_option maxRecDepth 100000 in
theorem c_X12_adds (l : Launch) (C : pq_C) (X : va_W) (n : Nat) (S0 : pq_S) (hF : WF S0) (sz : Nat) (a0 : Nat) (x1 : Int32) (x2 : Int32) (Ta0 : TY S0 a0 12) (S1 : pq_S) (hm : m_X12_adds n a0 x1 x2 S0 = some S1) : MV l yX12_adds (.code yX12_adds cX12_adds 3 none :: pq_U) rm_X12_adds C X S0 sz [.ref a0, .int x1, .int x2] S1 0 0 := by
  refine Met.ofW (cc := cX12_adds) (maxL := 3) (ret := none) (by decide) rfl ?_
  intro p e s m args below meth c s₁ B hml hv
  obtain ⟨rfl, hv⟩ := hv
  have hsz := hv.1
  subst hsz
  have hw := pw_entry hF hv
  have hts := atoms_spec (ws := .code yX12_adds cX12_adds 3 none :: pq_U) B.pre
  have hU : ∀ w ∈ pq_U, w.before _ s = true := fun w h => hts w (List.mem_cons_of_mem _ h)
  have hx := B.exec
  have hb := B.bytes
  have hr := B.returns
  have hown : s.vm.findClass RX12 = some m.cls := findClass_of_methodNamed B.named
  have hlk := B.notSynchronized
  have hl := lv_entry ([.ref a0, .int x1, .int x2]) (n := 3) (Nat.le_of_ble_eq_true rfl)
  rw [lg_entry_eq]
  generalize (lg_sl ([.ref a0, .int x1, .int x2]) ++ List.replicate (3 - (lg_sl ([.ref a0, .int x1, .int x2])).length) Slot.unset).toArray = ls at hl ⊢
  have hl : lv_has ls 3 [(0, .ref a0), (1, .int x1), (2, .int x2)] := hl
  have hE : Ext S0 S0 := Ext.rf _
  have cx : Cx p s m _ meth c cX12_adds 3 RX12 none := ⟨hx, hb, hml, hown, hU, hr, hlk⟩
  rw [m_X12_adds] at hm
  refine lv_aload_n hx hb dX12_adds_0 rfl (lv_at hl 0 rfl) ?_
  obtain ⟨q1, hq1, hm⟩ := bd_some hm
  have Tq1 : TY S0 q1 14 := hw.wf.ref (k := 12) (j := 47) Ta0 (by decide) (by decide) hq1
  refine pg_rb (k := 12) (j := 47) (f := 1247) hx hb hown hU iu12 hw Ta0 (by decide) rfl (hU _ tw1518) rfl hq1 dX12_adds_1 ?_
  refine lv_iload_n hx hb dX12_adds_4 rfl (lv_at hl 1 rfl) ?_
  refine lv_aload_n hx hb dX12_adds_5 rfl (lv_at hl 0 rfl) ?_
  obtain ⟨q2, hq2, hm⟩ := bd_some hm
  have Tq2 : TY S0 q2 14 := hw.wf.ref (k := 12) (j := 47) Ta0 (by decide) (by decide) hq2
  refine pg_rb (k := 12) (j := 47) (f := 1247) hx hb hown hU iu12 hw Ta0 (by decide) rfl (hU _ tw1518) rfl hq2 dX12_adds_6 ?_
  refine lv_iload_n hx hb dX12_adds_9 rfl (lv_at hl 1 rfl) ?_
  obtain ⟨hi3, hm⟩ := ck_some hm
  refine pw_iald hx hb hw Tq2 hi3 dX12_adds_10 ?_
  refine lv_iload_n hx hb dX12_adds_11 rfl (lv_at hl 2 rfl) ?_
  refine lv_iadd hx hb dX12_adds_12 ?_
  refine lv_sipush (v := 999) hx hb dX12_adds_13 (by decide) ?_
  refine lv_icmp_le (tgt := 25) hx hb dX12_adds_16 (by decide) (fun h4 => ?_) (fun h4 => ?_)
  · rw [if_pos h4] at hm
    refine lv_aload_n hx hb dX12_adds_25 rfl (lv_at hl 0 rfl) ?_
    obtain ⟨q5, hq5, hm⟩ := bd_some hm
    have Tq5 : TY S0 q5 14 := hw.wf.ref (k := 12) (j := 47) Ta0 (by decide) (by decide) hq5
    refine pg_rb (k := 12) (j := 47) (f := 1247) hx hb hown hU iu12 hw Ta0 (by decide) rfl (hU _ tw1518) rfl hq5 dX12_adds_26 ?_
    refine lv_iload_n hx hb dX12_adds_29 rfl (lv_at hl 1 rfl) ?_
    obtain ⟨hi6, hm⟩ := ck_some hm
    refine pw_iald hx hb hw Tq5 hi6 dX12_adds_30 ?_
    refine lv_iload_n hx hb dX12_adds_31 rfl (lv_at hl 2 rfl) ?_
    refine lv_iadd hx hb dX12_adds_32 ?_
    obtain ⟨hi7, hm⟩ := ck_some hm
    refine pw_iast hx hb hw Tq1 hi7 dX12_adds_33 (fun H locs hw => ?_)
    obtain ⟨S_8, eS_8, hm⟩ := lt_some hm
    rw [← eS_8] at hw
    have Ta0 : TY S_8 a0 12 := by rw [eS_8]; exact Ta0
    have hE : Ext S0 S_8 := by rw [eS_8]; exact hE
    cases hm
    exact pw_vret hx hb hr hlk hw hE dX12_adds_34
  · rw [if_neg h4] at hm
    refine lv_sipush (v := 999) hx hb dX12_adds_19 (by decide) ?_
    refine lv_goto (tgt := 33) hx hb dX12_adds_22 (by decide) ?_
    obtain ⟨hi9, hm⟩ := ck_some hm
    refine pw_iast hx hb hw Tq1 hi9 dX12_adds_33 (fun H locs hw => ?_)
    cases hm
    exact pw_vret hx hb hr hlk hw hE dX12_adds_34
abbrev rm_X12_isOpenMine : Room := { frames := 0, cells := 0, slots := 0, locals := 0 }
def m_X12_isOpenMine (n : Nat) (a0 : Nat) (x1 : Int32) (S0 : pq_S) : Option (Int32 × pq_S) := Option.bind (pR S0 1247 a0) fun q1 => ck (ix 48 (pN S0 q1)) (dix _ _) (Option.bind (pR S0 1216 a0) fun q3 => ck (ix (((3 : Int32) * x1) + (2 : Int32)) (pN S0 q3)) (dix _ _) (if ((pA S0 q1 (Int32.toNatClampNeg 48)) - (pA S0 q1 (Int32.toNatClampNeg 48)) / 12 * 12) < (pA S0 q3 (Int32.toNatClampNeg (((3 : Int32) * x1) + (2 : Int32)))) then some (0, S0) else some (1, S0)))
theorem tc_X12_isOpenMine : Cond.code yX12_isOpenMine cX12_isOpenMine 2 (some .boolean) ∈ pq_U := tw1889
theorem cd_X12_isOpenMine : yX12_isOpenMine.cls = RX12 ∧ yX12_isOpenMine.cls ≠ "java/lang/invoke/MethodHandle" ∧ yX12_isOpenMine.cls ≠ "java/lang/invoke/VarHandle" ∧ (parseMethodDescriptor yX12_isOpenMine.desc).map (fun d => d.parameters.length) = some 1 := by decide +kernel
set_option maxHeartbeats 4000000 in
set_option maxRecDepth 100000 in
theorem c_X12_isOpenMine (l : Launch) (C : pq_C) (X : va_W) (n : Nat) (S0 : pq_S) (hF : WF S0) (sz : Nat) (a0 : Nat) (x1 : Int32) (Ta0 : TY S0 a0 12) (r : Int32) (S1 : pq_S) (hm : m_X12_isOpenMine n a0 x1 S0 = some (r, S1)) : MZ l yX12_isOpenMine (.code yX12_isOpenMine cX12_isOpenMine 2 (some .boolean) :: pq_U) rm_X12_isOpenMine C X S0 sz [.ref a0, .int x1] r S1 0 0 := by
  refine Met.ofW (cc := cX12_isOpenMine) (maxL := 2) (ret := (some .boolean)) (by decide) rfl ?_
  intro p e s m args below meth c s₁ B hml hv
  obtain ⟨rfl, hv⟩ := hv
  have hsz := hv.1
  subst hsz
  have hw := pw_entry hF hv
  have hts := atoms_spec (ws := .code yX12_isOpenMine cX12_isOpenMine 2 (some .boolean) :: pq_U) B.pre
  have hU : ∀ w ∈ pq_U, w.before _ s = true := fun w h => hts w (List.mem_cons_of_mem _ h)
  have hx := B.exec
  have hb := B.bytes
  have hr := B.returns
  have hown : s.vm.findClass RX12 = some m.cls := findClass_of_methodNamed B.named
  have hlk := B.notSynchronized
  have hl := lv_entry ([.ref a0, .int x1]) (n := 2) (Nat.le_of_ble_eq_true rfl)
  rw [lg_entry_eq]
  generalize (lg_sl ([.ref a0, .int x1]) ++ List.replicate (2 - (lg_sl ([.ref a0, .int x1])).length) Slot.unset).toArray = ls at hl ⊢
  have hl : lv_has ls 2 [(0, .ref a0), (1, .int x1)] := hl
  have hE : Ext S0 S0 := Ext.rf _
  have cx : Cx p s m _ meth c cX12_isOpenMine 2 RX12 (some .boolean) := ⟨hx, hb, hml, hown, hU, hr, hlk⟩
  rw [m_X12_isOpenMine] at hm
  refine lv_aload_n hx hb dX12_isOpenMine_0 rfl (lv_at hl 0 rfl) ?_
  obtain ⟨q1, hq1, hm⟩ := bd_some hm
  have Tq1 : TY S0 q1 14 := hw.wf.ref (k := 12) (j := 47) Ta0 (by decide) (by decide) hq1
  refine pg_rb (k := 12) (j := 47) (f := 1247) hx hb hown hU iu12 hw Ta0 (by decide) rfl (hU _ tw1518) rfl hq1 dX12_isOpenMine_1 ?_
  refine lv_bipush (v := 48) hx hb dX12_isOpenMine_4 (by decide) ?_
  obtain ⟨hi2, hm⟩ := ck_some hm
  refine pw_iald hx hb hw Tq1 hi2 dX12_isOpenMine_6 ?_
  refine lv_bipush (v := 12) hx hb dX12_isOpenMine_7 (by decide) ?_
  refine lv_irem hx hb dX12_isOpenMine_9 (by decide) ?_
  refine lv_aload_n hx hb dX12_isOpenMine_10 rfl (lv_at hl 0 rfl) ?_
  obtain ⟨q3, hq3, hm⟩ := bd_some hm
  have Tq3 : TY S0 q3 14 := hw.wf.ref (k := 12) (j := 16) Ta0 (by decide) (by decide) hq3
  refine pg_rb (k := 12) (j := 16) (f := 1216) hx hb hown hU iu12 hw Ta0 (by decide) rfl (hU _ tw1487) rfl hq3 dX12_isOpenMine_11 ?_
  refine lv_iconst (v := 3) hx hb dX12_isOpenMine_14 (by decide) ?_
  refine lv_iload_n hx hb dX12_isOpenMine_15 rfl (lv_at hl 1 rfl) ?_
  refine lv_imul hx hb dX12_isOpenMine_16 ?_
  refine lv_iconst (v := 2) hx hb dX12_isOpenMine_17 (by decide) ?_
  refine lv_iadd hx hb dX12_isOpenMine_18 ?_
  obtain ⟨hi4, hm⟩ := ck_some hm
  refine pw_iald hx hb hw Tq3 hi4 dX12_isOpenMine_19 ?_
  refine lv_icmp_lt (tgt := 27) hx hb dX12_isOpenMine_20 (by decide) (fun h5 => ?_) (fun h5 => ?_)
  · rw [if_pos h5] at hm
    refine lv_iconst (v := 0) hx hb dX12_isOpenMine_27 (by decide) ?_
    cases hm
    exact pw_zret hx hb hr bz_0 hlk hw hE dX12_isOpenMine_28
  · rw [if_neg h5] at hm
    refine lv_iconst (v := 1) hx hb dX12_isOpenMine_23 (by decide) ?_
    refine lv_goto (tgt := 28) hx hb dX12_isOpenMine_24 (by decide) ?_
    cases hm
    exact pw_zret hx hb hr bz_1 hlk hw hE dX12_isOpenMine_28
abbrev rm_X12_canSell : Room := { frames := 0, cells := 0, slots := 0, locals := 0 }
def b_X12_canSell_58 (n : Nat) (a0 : Nat) (x1 : Int32) (z0 : Int32) (z1 : Int32) (S : pq_S) : Option (Int32 × pq_S) := Option.bind (pR S 1215 a0) fun q14 => ck (ix (((4 : Int32) * x1) + (1 : Int32)) (pN S q14)) (dix _ _) (if (z0 + z1) < (pA S q14 (Int32.toNatClampNeg (((4 : Int32) * x1) + (1 : Int32)))) then some (0, S) else some (1, S))
set_option maxHeartbeats 4000000 in
set_option maxRecDepth 100000 in
theorem wb_X12_canSell_58 {p : Program} {l : Launch} {e : Env} {s : State} {m : MethodId} {args : Array Value} {below : List Frame} {meth : Method} {c : Code} (cx : Cx p s m args meth c cX12_canSell 3 RX12 (some .boolean)) (C : pq_C) (X : va_W) (S0 : pq_S) (n : Nat) (r : Int32) (S1 : pq_S) : ∀ (a0 : Nat) (x1 : Int32) (z0 : Int32) (z1 : Int32) (S : pq_S) (H : Heap) (locs : List Loc) (ls : Array Slot), PW C X S (pq_F C X S0 s.heap.size) H locs s → Ext S0 S → TY S a0 12 → lv_has ls 3 [(0, .ref a0), (1, .int x1)] → b_X12_canSell_58 n a0 x1 z0 z1 S = some (r, S1) → W p l e rm_X12_canSell s m args below meth c H locs 0 0 (MQ below (QcZ C X S0 s.heap.size r S1) args s 0 0 (pq_F C X S0 s.heap.size)) (F0 m 58 ls [.int z1, .int z0]) := by
  obtain ⟨hx, hb, hml, hown, hU, hr, hlk⟩ := id cx
  intro a0 x1 z0 z1 S H locs ls hw hE Ta0 hl hm
  rw [b_X12_canSell_58] at hm
  refine lv_iadd hx hb dX12_canSell_58 ?_
  refine lv_aload_n hx hb dX12_canSell_59 rfl (lv_at hl 0 rfl) ?_
  obtain ⟨q14, hq14, hm⟩ := bd_some hm
  have Tq14 : TY S q14 14 := hw.wf.ref (k := 12) (j := 15) Ta0 (by decide) (by decide) hq14
  refine pg_rb (k := 12) (j := 15) (f := 1215) hx hb hown hU iu12 hw Ta0 (by decide) rfl (hU _ tw1486) rfl hq14 dX12_canSell_60 ?_
  refine lv_iconst (v := 4) hx hb dX12_canSell_63 (by decide) ?_
  refine lv_iload_n hx hb dX12_canSell_64 rfl (lv_at hl 1 rfl) ?_
  refine lv_imul hx hb dX12_canSell_65 ?_
  refine lv_iconst (v := 1) hx hb dX12_canSell_66 (by decide) ?_
  refine lv_iadd hx hb dX12_canSell_67 ?_
  obtain ⟨hi15, hm⟩ := ck_some hm
  refine pw_iald hx hb hw Tq14 hi15 dX12_canSell_68 ?_
  refine lv_icmp_lt (tgt := 76) hx hb dX12_canSell_69 (by decide) (fun h16 => ?_) (fun h16 => ?_)
  · rw [if_pos h16] at hm
    refine lv_iconst (v := 0) hx hb dX12_canSell_76 (by decide) ?_
    cases hm
    exact pw_zret hx hb hr bz_0 hlk hw hE dX12_canSell_77
  · rw [if_neg h16] at hm
    refine lv_iconst (v := 1) hx hb dX12_canSell_72 (by decide) ?_
    refine lv_goto (tgt := 77) hx hb dX12_canSell_73 (by decide) ?_
    cases hm
    exact pw_zret hx hb hr bz_1 hlk hw hE dX12_canSell_77
def m_X12_canSell (n : Nat) (a0 : Nat) (x1 : Int32) (S0 : pq_S) : Option (Int32 × pq_S) := Option.bind (pR S0 1247 a0) fun q1 => ck (ix ((18 : Int32) + x1) (pN S0 q1)) (dix _ _) (if (pA S0 q1 (Int32.toNatClampNeg ((18 : Int32) + x1))) = 0 then some (0, S0) else Option.bind (pR S0 1215 a0) fun q4 => ck (ix ((4 : Int32) * x1) (pN S0 q4)) (dix _ _) (lt_ (pA S0 q4 (Int32.toNatClampNeg ((4 : Int32) * x1))) fun v6 => Option.bind (pR S0 1247 a0) fun q7 => ck (ix ((0 : Int32) + v6) (pN S0 q7)) (dix _ _) (Option.bind (pR S0 1215 a0) fun q9 => ck (ix (((4 : Int32) * x1) + (2 : Int32)) (pN S0 q9)) (dix _ _) (if (pA S0 q9 (Int32.toNatClampNeg (((4 : Int32) * x1) + (2 : Int32)))) = 1 then b_X12_canSell_58 n a0 x1 (pA S0 q7 (Int32.toNatClampNeg ((0 : Int32) + v6))) 0 S0 else Option.bind (pR S0 1247 a0) fun q12 => ck (ix ((6 : Int32) + v6) (pN S0 q12)) (dix _ _) (b_X12_canSell_58 n a0 x1 (pA S0 q7 (Int32.toNatClampNeg ((0 : Int32) + v6))) (pA S0 q12 (Int32.toNatClampNeg ((6 : Int32) + v6))) S0)))))
theorem tc_X12_canSell : Cond.code yX12_canSell cX12_canSell 3 (some .boolean) ∈ pq_U := tw1881
theorem cd_X12_canSell : yX12_canSell.cls = RX12 ∧ yX12_canSell.cls ≠ "java/lang/invoke/MethodHandle" ∧ yX12_canSell.cls ≠ "java/lang/invoke/VarHandle" ∧ (parseMethodDescriptor yX12_canSell.desc).map (fun d => d.parameters.length) = some 1 := by decide +kernel
set_option maxHeartbeats 4000000 in
set_option maxRecDepth 100000 in
theorem c_X12_canSell (l : Launch) (C : pq_C) (X : va_W) (n : Nat) (S0 : pq_S) (hF : WF S0) (sz : Nat) (a0 : Nat) (x1 : Int32) (Ta0 : TY S0 a0 12) (r : Int32) (S1 : pq_S) (hm : m_X12_canSell n a0 x1 S0 = some (r, S1)) : MZ l yX12_canSell (.code yX12_canSell cX12_canSell 3 (some .boolean) :: pq_U) rm_X12_canSell C X S0 sz [.ref a0, .int x1] r S1 0 0 := by
  refine Met.ofW (cc := cX12_canSell) (maxL := 3) (ret := (some .boolean)) (by decide) rfl ?_
  intro p e s m args below meth c s₁ B hml hv
  obtain ⟨rfl, hv⟩ := hv
  have hsz := hv.1
  subst hsz
  have hw := pw_entry hF hv
  have hts := atoms_spec (ws := .code yX12_canSell cX12_canSell 3 (some .boolean) :: pq_U) B.pre
  have hU : ∀ w ∈ pq_U, w.before _ s = true := fun w h => hts w (List.mem_cons_of_mem _ h)
  have hx := B.exec
  have hb := B.bytes
  have hr := B.returns
  have hown : s.vm.findClass RX12 = some m.cls := findClass_of_methodNamed B.named
  have hlk := B.notSynchronized
  have hl := lv_entry ([.ref a0, .int x1]) (n := 3) (Nat.le_of_ble_eq_true rfl)
  rw [lg_entry_eq]
  generalize (lg_sl ([.ref a0, .int x1]) ++ List.replicate (3 - (lg_sl ([.ref a0, .int x1])).length) Slot.unset).toArray = ls at hl ⊢
  have hl : lv_has ls 3 [(0, .ref a0), (1, .int x1)] := hl
  have hE : Ext S0 S0 := Ext.rf _
  have cx : Cx p s m _ meth c cX12_canSell 3 RX12 (some .boolean) := ⟨hx, hb, hml, hown, hU, hr, hlk⟩
  rw [m_X12_canSell] at hm
  refine lv_aload_n hx hb dX12_canSell_0 rfl (lv_at hl 0 rfl) ?_
  obtain ⟨q1, hq1, hm⟩ := bd_some hm
  have Tq1 : TY S0 q1 14 := hw.wf.ref (k := 12) (j := 47) Ta0 (by decide) (by decide) hq1
  refine pg_rb (k := 12) (j := 47) (f := 1247) hx hb hown hU iu12 hw Ta0 (by decide) rfl (hU _ tw1518) rfl hq1 dX12_canSell_1 ?_
  refine lv_bipush (v := 18) hx hb dX12_canSell_4 (by decide) ?_
  refine lv_iload_n hx hb dX12_canSell_6 rfl (lv_at hl 1 rfl) ?_
  refine lv_iadd hx hb dX12_canSell_7 ?_
  obtain ⟨hi2, hm⟩ := ck_some hm
  refine pw_iald hx hb hw Tq1 hi2 dX12_canSell_8 ?_
  refine lv_if_ne (tgt := 14) hx hb dX12_canSell_9 (by decide) (fun h3 => ?_) (fun h3 => ?_)
  · rw [if_neg h3] at hm
    refine lv_aload_n hx hb dX12_canSell_14 rfl (lv_at hl 0 rfl) ?_
    obtain ⟨q4, hq4, hm⟩ := bd_some hm
    have Tq4 : TY S0 q4 14 := hw.wf.ref (k := 12) (j := 15) Ta0 (by decide) (by decide) hq4
    refine pg_rb (k := 12) (j := 15) (f := 1215) hx hb hown hU iu12 hw Ta0 (by decide) rfl (hU _ tw1486) rfl hq4 dX12_canSell_15 ?_
    refine lv_iconst (v := 4) hx hb dX12_canSell_18 (by decide) ?_
    refine lv_iload_n hx hb dX12_canSell_19 rfl (lv_at hl 1 rfl) ?_
    refine lv_imul hx hb dX12_canSell_20 ?_
    obtain ⟨hi5, hm⟩ := ck_some hm
    refine pw_iald hx hb hw Tq4 hi5 dX12_canSell_21 ?_
    obtain ⟨v6, ev6, hm⟩ := lt_some hm
    refine lv_nmI ev6 ?_
    refine lv_istore_n (lv' := [(2, .int v6), (0, .ref a0), (1, .int x1)]) hx hb dX12_canSell_22 rfl hl (by decide) rfl (fun ls hl => ?_)
    refine lv_aload_n hx hb dX12_canSell_23 rfl (lv_at hl 1 rfl) ?_
    obtain ⟨q7, hq7, hm⟩ := bd_some hm
    have Tq7 : TY S0 q7 14 := hw.wf.ref (k := 12) (j := 47) Ta0 (by decide) (by decide) hq7
    refine pg_rb (k := 12) (j := 47) (f := 1247) hx hb hown hU iu12 hw Ta0 (by decide) rfl (hU _ tw1518) rfl hq7 dX12_canSell_24 ?_
    refine lv_iconst (v := 0) hx hb dX12_canSell_27 (by decide) ?_
    refine lv_iload_n hx hb dX12_canSell_28 rfl (lv_at hl 0 rfl) ?_
    refine lv_iadd hx hb dX12_canSell_29 ?_
    obtain ⟨hi8, hm⟩ := ck_some hm
    refine pw_iald hx hb hw Tq7 hi8 dX12_canSell_30 ?_
    refine lv_aload_n hx hb dX12_canSell_31 rfl (lv_at hl 1 rfl) ?_
    obtain ⟨q9, hq9, hm⟩ := bd_some hm
    have Tq9 : TY S0 q9 14 := hw.wf.ref (k := 12) (j := 15) Ta0 (by decide) (by decide) hq9
    refine pg_rb (k := 12) (j := 15) (f := 1215) hx hb hown hU iu12 hw Ta0 (by decide) rfl (hU _ tw1486) rfl hq9 dX12_canSell_32 ?_
    refine lv_iconst (v := 4) hx hb dX12_canSell_35 (by decide) ?_
    refine lv_iload_n hx hb dX12_canSell_36 rfl (lv_at hl 2 rfl) ?_
    refine lv_imul hx hb dX12_canSell_37 ?_
    refine lv_iconst (v := 2) hx hb dX12_canSell_38 (by decide) ?_
    refine lv_iadd hx hb dX12_canSell_39 ?_
    obtain ⟨hi10, hm⟩ := ck_some hm
    refine pw_iald hx hb hw Tq9 hi10 dX12_canSell_40 ?_
    refine lv_iconst (v := 1) hx hb dX12_canSell_41 (by decide) ?_
    refine lv_icmp_ne (tgt := 49) hx hb dX12_canSell_42 (by decide) (fun h11 => ?_) (fun h11 => ?_)
    · rw [if_neg h11] at hm
      refine lv_aload_n hx hb dX12_canSell_49 rfl (lv_at hl 1 rfl) ?_
      obtain ⟨q12, hq12, hm⟩ := bd_some hm
      have Tq12 : TY S0 q12 14 := hw.wf.ref (k := 12) (j := 47) Ta0 (by decide) (by decide) hq12
      refine pg_rb (k := 12) (j := 47) (f := 1247) hx hb hown hU iu12 hw Ta0 (by decide) rfl (hU _ tw1518) rfl hq12 dX12_canSell_50 ?_
      refine lv_bipush (v := 6) hx hb dX12_canSell_53 (by decide) ?_
      refine lv_iload_n hx hb dX12_canSell_55 rfl (lv_at hl 0 rfl) ?_
      refine lv_iadd hx hb dX12_canSell_56 ?_
      obtain ⟨hi13, hm⟩ := ck_some hm
      refine pw_iald hx hb hw Tq12 hi13 dX12_canSell_57 ?_
      exact wb_X12_canSell_58 cx C X S0 n r S1 a0 x1 (pA S0 q7 (Int32.toNatClampNeg ((0 : Int32) + v6))) (pA S0 q12 (Int32.toNatClampNeg ((6 : Int32) + v6))) S0 _ _ _ hw hE Ta0 (lv_sub hl [1, 2] rfl) hm
    · rw [if_pos h11] at hm
      refine lv_iconst (v := 0) hx hb dX12_canSell_45 (by decide) ?_
      refine lv_goto (tgt := 58) hx hb dX12_canSell_46 (by decide) ?_
      exact wb_X12_canSell_58 cx C X S0 n r S1 a0 x1 (pA S0 q7 (Int32.toNatClampNeg ((0 : Int32) + v6))) 0 S0 _ _ _ hw hE Ta0 (lv_sub hl [1, 2] rfl) hm
  · rw [if_pos h3] at hm
    refine lv_iconst (v := 0) hx hb dX12_canSell_12 (by decide) ?_
    cases hm
    exact pw_zret hx hb hr bz_0 hlk hw hE dX12_canSell_13
abbrev rm_X12_sells : Room := { frames := 1, cells := 0, slots := 0, locals := 22 }
def b_X12_sells_74 (n : Nat) (a0 : Nat) (x1 : Int32) (x2 : Int32) (x3 : Int32) (z0 : Int32) (S : pq_S) : Option (Int32 × pq_S) := Option.bind (pR S 1247 a0) fun q21 => ck (ix ((6 : Int32) + x2) (pN S q21)) (dix _ _) (ck (ix ((6 : Int32) + x2) (pN S q21)) (dix _ _) (lt_ (sA S q21 (Int32.toNatClampNeg ((6 : Int32) + x2)) ((pA S q21 (Int32.toNatClampNeg ((6 : Int32) + x2))) - z0)) fun S_24 => Option.bind (pR S_24 1247 a0) fun q25 => ck (ix ((0 : Int32) + x2) (pN S_24 q25)) (dix _ _) (ck (ix ((0 : Int32) + x2) (pN S_24 q25)) (dix _ _) (lt_ (sA S_24 q25 (Int32.toNatClampNeg ((0 : Int32) + x2)) ((pA S_24 q25 (Int32.toNatClampNeg ((0 : Int32) + x2))) - (x3 - z0))) fun S_28 => Option.bind (pR S_28 1247 a0) fun q29 => ck (ix 49 (pN S_28 q29)) (dix _ _) (Option.bind (pR S_28 1215 a0) fun q31 => ck (ix (((4 : Int32) * x1) + (3 : Int32)) (pN S_28 q31)) (dix _ _) (ck (ix 49 (pN S_28 q29)) (dix _ _) (lt_ (sA S_28 q29 (Int32.toNatClampNeg 49) ((pA S_28 q29 (Int32.toNatClampNeg 49)) + (pA S_28 q31 (Int32.toNatClampNeg (((4 : Int32) * x1) + (3 : Int32)))))) fun S_34 => Option.bind (pR S_34 1247 a0) fun q35 => ck (ix ((18 : Int32) + x1) (pN S_34 q35)) (dix _ _) (Option.bind (pR (sA S_34 q35 (Int32.toNatClampNeg ((18 : Int32) + x1)) 0) 1247 a0) fun q37 => ck (ix ((30 : Int32) + x1) (pN (sA S_34 q35 (Int32.toNatClampNeg ((18 : Int32) + x1)) 0) q37)) (dix _ _) (ck (ix ((30 : Int32) + x1) (pN (sA S_34 q35 (Int32.toNatClampNeg ((18 : Int32) + x1)) 0) q37)) (dix _ _) (lt_ (sA (sA S_34 q35 (Int32.toNatClampNeg ((18 : Int32) + x1)) 0) q37 (Int32.toNatClampNeg ((30 : Int32) + x1)) ((pA (sA S_34 q35 (Int32.toNatClampNeg ((18 : Int32) + x1)) 0) q37 (Int32.toNatClampNeg ((30 : Int32) + x1))) + (1 : Int32))) fun S_40 => some (1, S_40)))))))))))
set_option maxHeartbeats 4000000 in
set_option maxRecDepth 100000 in
theorem wb_X12_sells_74 {p : Program} {l : Launch} {e : Env} {s : State} {m : MethodId} {args : Array Value} {below : List Frame} {meth : Method} {c : Code} (cx : Cx p s m args meth c cX12_sells 5 RX12 (some .boolean)) (C : pq_C) (X : va_W) (S0 : pq_S) (n : Nat) (r : Int32) (S1 : pq_S) : ∀ (a0 : Nat) (x1 : Int32) (x2 : Int32) (x3 : Int32) (z0 : Int32) (S : pq_S) (H : Heap) (locs : List Loc) (ls : Array Slot), PW C X S (pq_F C X S0 s.heap.size) H locs s → Ext S0 S → TY S a0 12 → lv_has ls 5 [(0, .ref a0), (1, .int x1), (2, .int x2), (3, .int x3)] → b_X12_sells_74 n a0 x1 x2 x3 z0 S = some (r, S1) → W p l e rm_X12_sells s m args below meth c H locs 0 0 (MQ below (QcZ C X S0 s.heap.size r S1) args s 0 0 (pq_F C X S0 s.heap.size)) (F0 m 74 ls [.int z0]) := by
  obtain ⟨hx, hb, hml, hown, hU, hr, hlk⟩ := id cx
  intro a0 x1 x2 x3 z0 S H locs ls hw hE Ta0 hl hm
  rw [b_X12_sells_74] at hm
  refine lv_istore (lv' := [(4, .int z0), (0, .ref a0), (1, .int x1), (2, .int x2), (3, .int x3)]) hx hb dX12_sells_74 hl (by decide) rfl (fun ls hl => ?_)
  refine lv_aload_n hx hb dX12_sells_76 rfl (lv_at hl 1 rfl) ?_
  obtain ⟨q21, hq21, hm⟩ := bd_some hm
  have Tq21 : TY S q21 14 := hw.wf.ref (k := 12) (j := 47) Ta0 (by decide) (by decide) hq21
  refine pg_rb (k := 12) (j := 47) (f := 1247) hx hb hown hU iu12 hw Ta0 (by decide) rfl (hU _ tw1518) rfl hq21 dX12_sells_77 ?_
  refine lv_bipush (v := 6) hx hb dX12_sells_80 (by decide) ?_
  refine lv_iload_n hx hb dX12_sells_82 rfl (lv_at hl 3 rfl) ?_
  refine lv_iadd hx hb dX12_sells_83 ?_
  refine lv_dup2_11 hx hb dX12_sells_84 rfl rfl ?_
  obtain ⟨hi22, hm⟩ := ck_some hm
  refine pw_iald hx hb hw Tq21 hi22 dX12_sells_85 ?_
  refine lv_iload hx hb dX12_sells_86 (lv_at hl 0 rfl) ?_
  refine lv_isub hx hb dX12_sells_88 ?_
  obtain ⟨hi23, hm⟩ := ck_some hm
  refine pw_iast hx hb hw Tq21 hi23 dX12_sells_89 (fun H locs hw => ?_)
  obtain ⟨S_24, eS_24, hm⟩ := lt_some hm
  rw [← eS_24] at hw
  have Ta0 : TY S_24 a0 12 := by rw [eS_24]; exact Ta0
  have hE : Ext S0 S_24 := by rw [eS_24]; exact hE
  refine lv_aload_n hx hb dX12_sells_90 rfl (lv_at hl 1 rfl) ?_
  obtain ⟨q25, hq25, hm⟩ := bd_some hm
  have Tq25 : TY S_24 q25 14 := hw.wf.ref (k := 12) (j := 47) Ta0 (by decide) (by decide) hq25
  refine pg_rb (k := 12) (j := 47) (f := 1247) hx hb hown hU iu12 hw Ta0 (by decide) rfl (hU _ tw1518) rfl hq25 dX12_sells_91 ?_
  refine lv_iconst (v := 0) hx hb dX12_sells_94 (by decide) ?_
  refine lv_iload_n hx hb dX12_sells_95 rfl (lv_at hl 3 rfl) ?_
  refine lv_iadd hx hb dX12_sells_96 ?_
  refine lv_dup2_11 hx hb dX12_sells_97 rfl rfl ?_
  obtain ⟨hi26, hm⟩ := ck_some hm
  refine pw_iald hx hb hw Tq25 hi26 dX12_sells_98 ?_
  refine lv_iload_n hx hb dX12_sells_99 rfl (lv_at hl 4 rfl) ?_
  refine lv_iload hx hb dX12_sells_100 (lv_at hl 0 rfl) ?_
  refine lv_isub hx hb dX12_sells_102 ?_
  refine lv_isub hx hb dX12_sells_103 ?_
  obtain ⟨hi27, hm⟩ := ck_some hm
  refine pw_iast hx hb hw Tq25 hi27 dX12_sells_104 (fun H locs hw => ?_)
  obtain ⟨S_28, eS_28, hm⟩ := lt_some hm
  rw [← eS_28] at hw
  have Ta0 : TY S_28 a0 12 := by rw [eS_28]; exact Ta0
  have hE : Ext S0 S_28 := by rw [eS_28]; exact hE
  refine lv_aload_n hx hb dX12_sells_105 rfl (lv_at hl 1 rfl) ?_
  obtain ⟨q29, hq29, hm⟩ := bd_some hm
  have Tq29 : TY S_28 q29 14 := hw.wf.ref (k := 12) (j := 47) Ta0 (by decide) (by decide) hq29
  refine pg_rb (k := 12) (j := 47) (f := 1247) hx hb hown hU iu12 hw Ta0 (by decide) rfl (hU _ tw1518) rfl hq29 dX12_sells_106 ?_
  refine lv_bipush (v := 49) hx hb dX12_sells_109 (by decide) ?_
  refine lv_dup2_11 hx hb dX12_sells_111 rfl rfl ?_
  obtain ⟨hi30, hm⟩ := ck_some hm
  refine pw_iald hx hb hw Tq29 hi30 dX12_sells_112 ?_
  refine lv_aload_n hx hb dX12_sells_113 rfl (lv_at hl 1 rfl) ?_
  obtain ⟨q31, hq31, hm⟩ := bd_some hm
  have Tq31 : TY S_28 q31 14 := hw.wf.ref (k := 12) (j := 15) Ta0 (by decide) (by decide) hq31
  refine pg_rb (k := 12) (j := 15) (f := 1215) hx hb hown hU iu12 hw Ta0 (by decide) rfl (hU _ tw1486) rfl hq31 dX12_sells_114 ?_
  refine lv_iconst (v := 4) hx hb dX12_sells_117 (by decide) ?_
  refine lv_iload_n hx hb dX12_sells_118 rfl (lv_at hl 2 rfl) ?_
  refine lv_imul hx hb dX12_sells_119 ?_
  refine lv_iconst (v := 3) hx hb dX12_sells_120 (by decide) ?_
  refine lv_iadd hx hb dX12_sells_121 ?_
  obtain ⟨hi32, hm⟩ := ck_some hm
  refine pw_iald hx hb hw Tq31 hi32 dX12_sells_122 ?_
  refine lv_iadd hx hb dX12_sells_123 ?_
  obtain ⟨hi33, hm⟩ := ck_some hm
  refine pw_iast hx hb hw Tq29 hi33 dX12_sells_124 (fun H locs hw => ?_)
  obtain ⟨S_34, eS_34, hm⟩ := lt_some hm
  rw [← eS_34] at hw
  have Ta0 : TY S_34 a0 12 := by rw [eS_34]; exact Ta0
  have hE : Ext S0 S_34 := by rw [eS_34]; exact hE
  refine lv_aload_n hx hb dX12_sells_125 rfl (lv_at hl 1 rfl) ?_
  obtain ⟨q35, hq35, hm⟩ := bd_some hm
  have Tq35 : TY S_34 q35 14 := hw.wf.ref (k := 12) (j := 47) Ta0 (by decide) (by decide) hq35
  refine pg_rb (k := 12) (j := 47) (f := 1247) hx hb hown hU iu12 hw Ta0 (by decide) rfl (hU _ tw1518) rfl hq35 dX12_sells_126 ?_
  refine lv_bipush (v := 18) hx hb dX12_sells_129 (by decide) ?_
  refine lv_iload_n hx hb dX12_sells_131 rfl (lv_at hl 2 rfl) ?_
  refine lv_iadd hx hb dX12_sells_132 ?_
  refine lv_iconst (v := 0) hx hb dX12_sells_133 (by decide) ?_
  obtain ⟨hi36, hm⟩ := ck_some hm
  refine pw_iast hx hb hw Tq35 hi36 dX12_sells_134 (fun H locs hw => ?_)
  refine lv_aload_n hx hb dX12_sells_135 rfl (lv_at hl 1 rfl) ?_
  obtain ⟨q37, hq37, hm⟩ := bd_some hm
  have Tq37 : TY (sA S_34 q35 (Int32.toNatClampNeg ((18 : Int32) + x1)) 0) q37 14 := hw.wf.ref (k := 12) (j := 47) Ta0 (by decide) (by decide) hq37
  refine pg_rb (k := 12) (j := 47) (f := 1247) hx hb hown hU iu12 hw Ta0 (by decide) rfl (hU _ tw1518) rfl hq37 dX12_sells_136 ?_
  refine lv_bipush (v := 30) hx hb dX12_sells_139 (by decide) ?_
  refine lv_iload_n hx hb dX12_sells_141 rfl (lv_at hl 2 rfl) ?_
  refine lv_iadd hx hb dX12_sells_142 ?_
  refine lv_dup2_11 hx hb dX12_sells_143 rfl rfl ?_
  obtain ⟨hi38, hm⟩ := ck_some hm
  refine pw_iald hx hb hw Tq37 hi38 dX12_sells_144 ?_
  refine lv_iconst (v := 1) hx hb dX12_sells_145 (by decide) ?_
  refine lv_iadd hx hb dX12_sells_146 ?_
  obtain ⟨hi39, hm⟩ := ck_some hm
  refine pw_iast hx hb hw Tq37 hi39 dX12_sells_147 (fun H locs hw => ?_)
  obtain ⟨S_40, eS_40, hm⟩ := lt_some hm
  rw [← eS_40] at hw
  have Ta0 : TY S_40 a0 12 := by rw [eS_40]; exact Ta0
  have hE : Ext S0 S_40 := by rw [eS_40]; exact hE
  refine lv_iconst (v := 1) hx hb dX12_sells_148 (by decide) ?_
  cases hm
  exact pw_zret hx hb hr bz_1 hlk hw hE dX12_sells_149
def m_X12_sells (n : Nat) (a0 : Nat) (x1 : Int32) (S0 : pq_S) : Option (Int32 × pq_S) := cb (m_X12_canSell n a0 x1 S0) fun r3 S_1 => if r3 = 0 then some (0, S_1) else Option.bind (pR S_1 1215 a0) fun q7 => ck (ix ((4 : Int32) * x1) (pN S_1 q7)) (dix _ _) (lt_ (pA S_1 q7 (Int32.toNatClampNeg ((4 : Int32) * x1))) fun v9 => Option.bind (pR S_1 1215 a0) fun q10 => ck (ix (((4 : Int32) * x1) + (1 : Int32)) (pN S_1 q10)) (dix _ _) (lt_ (pA S_1 q10 (Int32.toNatClampNeg (((4 : Int32) * x1) + (1 : Int32)))) fun v12 => Option.bind (pR S_1 1215 a0) fun q13 => ck (ix (((4 : Int32) * x1) + (2 : Int32)) (pN S_1 q13)) (dix _ _) (if (pA S_1 q13 (Int32.toNatClampNeg (((4 : Int32) * x1) + (2 : Int32)))) = 1 then b_X12_sells_74 n a0 x1 v9 v12 0 S_1 else Option.bind (pR S_1 1247 a0) fun q16 => ck (ix ((6 : Int32) + v9) (pN S_1 q16)) (dix _ _) (if (pA S_1 q16 (Int32.toNatClampNeg ((6 : Int32) + v9))) ≤ v12 then Option.bind (pR S_1 1247 a0) fun q19 => ck (ix ((6 : Int32) + v9) (pN S_1 q19)) (dix _ _) (b_X12_sells_74 n a0 x1 v9 v12 (pA S_1 q19 (Int32.toNatClampNeg ((6 : Int32) + v9))) S_1) else b_X12_sells_74 n a0 x1 v9 v12 v12 S_1))))
theorem tc_X12_sells : Cond.code yX12_sells cX12_sells 5 (some .boolean) ∈ pq_U := tw1877
theorem cd_X12_sells : yX12_sells.cls = RX12 ∧ yX12_sells.cls ≠ "java/lang/invoke/MethodHandle" ∧ yX12_sells.cls ≠ "java/lang/invoke/VarHandle" ∧ (parseMethodDescriptor yX12_sells.desc).map (fun d => d.parameters.length) = some 1 := by decide +kernel
set_option maxHeartbeats 4000000 in
set_option maxRecDepth 100000 in
theorem c_X12_sells (l : Launch) (C : pq_C) (X : va_W) (n : Nat) (S0 : pq_S) (hF : WF S0) (sz : Nat) (a0 : Nat) (x1 : Int32) (Ta0 : TY S0 a0 12) (r : Int32) (S1 : pq_S) (hm : m_X12_sells n a0 x1 S0 = some (r, S1)) : MZ l yX12_sells (.code yX12_sells cX12_sells 5 (some .boolean) :: pq_U) rm_X12_sells C X S0 sz [.ref a0, .int x1] r S1 0 0 := by
  refine Met.ofW (cc := cX12_sells) (maxL := 5) (ret := (some .boolean)) (by decide) rfl ?_
  intro p e s m args below meth c s₁ B hml hv
  obtain ⟨rfl, hv⟩ := hv
  have hsz := hv.1
  subst hsz
  have hw := pw_entry hF hv
  have hts := atoms_spec (ws := .code yX12_sells cX12_sells 5 (some .boolean) :: pq_U) B.pre
  have hU : ∀ w ∈ pq_U, w.before _ s = true := fun w h => hts w (List.mem_cons_of_mem _ h)
  have hx := B.exec
  have hb := B.bytes
  have hr := B.returns
  have hown : s.vm.findClass RX12 = some m.cls := findClass_of_methodNamed B.named
  have hlk := B.notSynchronized
  have hl := lv_entry ([.ref a0, .int x1]) (n := 5) (Nat.le_of_ble_eq_true rfl)
  rw [lg_entry_eq]
  generalize (lg_sl ([.ref a0, .int x1]) ++ List.replicate (5 - (lg_sl ([.ref a0, .int x1])).length) Slot.unset).toArray = ls at hl ⊢
  have hl : lv_has ls 5 [(0, .ref a0), (1, .int x1)] := hl
  have hE : Ext S0 S0 := Ext.rf _
  have cx : Cx p s m _ meth c cX12_sells 5 RX12 (some .boolean) := ⟨hx, hb, hml, hown, hU, hr, hlk⟩
  rw [m_X12_sells] at hm
  refine lv_aload_n hx hb dX12_sells_0 rfl (lv_at hl 0 rfl) ?_
  refine lv_iload_n hx hb dX12_sells_1 rfl (lv_at hl 1 rfl) ?_
  obtain ⟨r3, S_1, hq2, hm⟩ := cb_some hm
  refine pw_cz (va_runV (As := [.int x1]) (rest := []) ⟨hx, hb, hml, hown, hU⟩ (c_X12_canSell l C X n S0 hw.wf _ a0 x1 (Ta0) r3 S_1 hq2) (cwV 1 hU (pq_gV tw1878 tw1880 ts154 tw14 tc_X12_canSell) rfl rfl rfl cd_X12_canSell ⟨Nat.le_of_ble_eq_true rfl, Nat.le_of_ble_eq_true rfl⟩) (pw_preV hw Ta0 (by decide) rfl) rfl rfl hl.1 rfl (lv_room (Nat.le_of_ble_eq_true rfl)) dX12_sells_2 ⟨Nat.zero_le _, Nat.zero_le _⟩) hw (fun H locs hw hx4 hz5 => ?_)
  have Ta0 : TY S_1 a0 12 := ty_ext hx4 Ta0
  have hE : Ext S0 S_1 := Ext.tr hE hx4
  refine lv_if_ne (tgt := 10) hx hb dX12_sells_5 (by decide) (fun h6 => ?_) (fun h6 => ?_)
  · rw [if_neg h6] at hm
    refine lv_aload_n hx hb dX12_sells_10 rfl (lv_at hl 0 rfl) ?_
    obtain ⟨q7, hq7, hm⟩ := bd_some hm
    have Tq7 : TY S_1 q7 14 := hw.wf.ref (k := 12) (j := 15) Ta0 (by decide) (by decide) hq7
    refine pg_rb (k := 12) (j := 15) (f := 1215) hx hb hown hU iu12 hw Ta0 (by decide) rfl (hU _ tw1486) rfl hq7 dX12_sells_11 ?_
    refine lv_iconst (v := 4) hx hb dX12_sells_14 (by decide) ?_
    refine lv_iload_n hx hb dX12_sells_15 rfl (lv_at hl 1 rfl) ?_
    refine lv_imul hx hb dX12_sells_16 ?_
    obtain ⟨hi8, hm⟩ := ck_some hm
    refine pw_iald hx hb hw Tq7 hi8 dX12_sells_17 ?_
    obtain ⟨v9, ev9, hm⟩ := lt_some hm
    refine lv_nmI ev9 ?_
    refine lv_istore_n (lv' := [(2, .int v9), (0, .ref a0), (1, .int x1)]) hx hb dX12_sells_18 rfl hl (by decide) rfl (fun ls hl => ?_)
    refine lv_aload_n hx hb dX12_sells_19 rfl (lv_at hl 1 rfl) ?_
    obtain ⟨q10, hq10, hm⟩ := bd_some hm
    have Tq10 : TY S_1 q10 14 := hw.wf.ref (k := 12) (j := 15) Ta0 (by decide) (by decide) hq10
    refine pg_rb (k := 12) (j := 15) (f := 1215) hx hb hown hU iu12 hw Ta0 (by decide) rfl (hU _ tw1486) rfl hq10 dX12_sells_20 ?_
    refine lv_iconst (v := 4) hx hb dX12_sells_23 (by decide) ?_
    refine lv_iload_n hx hb dX12_sells_24 rfl (lv_at hl 2 rfl) ?_
    refine lv_imul hx hb dX12_sells_25 ?_
    refine lv_iconst (v := 1) hx hb dX12_sells_26 (by decide) ?_
    refine lv_iadd hx hb dX12_sells_27 ?_
    obtain ⟨hi11, hm⟩ := ck_some hm
    refine pw_iald hx hb hw Tq10 hi11 dX12_sells_28 ?_
    obtain ⟨v12, ev12, hm⟩ := lt_some hm
    refine lv_nmI ev12 ?_
    refine lv_istore_n (lv' := [(3, .int v12), (2, .int v9), (0, .ref a0), (1, .int x1)]) hx hb dX12_sells_29 rfl hl (by decide) rfl (fun ls hl => ?_)
    refine lv_aload_n hx hb dX12_sells_30 rfl (lv_at hl 2 rfl) ?_
    obtain ⟨q13, hq13, hm⟩ := bd_some hm
    have Tq13 : TY S_1 q13 14 := hw.wf.ref (k := 12) (j := 15) Ta0 (by decide) (by decide) hq13
    refine pg_rb (k := 12) (j := 15) (f := 1215) hx hb hown hU iu12 hw Ta0 (by decide) rfl (hU _ tw1486) rfl hq13 dX12_sells_31 ?_
    refine lv_iconst (v := 4) hx hb dX12_sells_34 (by decide) ?_
    refine lv_iload_n hx hb dX12_sells_35 rfl (lv_at hl 3 rfl) ?_
    refine lv_imul hx hb dX12_sells_36 ?_
    refine lv_iconst (v := 2) hx hb dX12_sells_37 (by decide) ?_
    refine lv_iadd hx hb dX12_sells_38 ?_
    obtain ⟨hi14, hm⟩ := ck_some hm
    refine pw_iald hx hb hw Tq13 hi14 dX12_sells_39 ?_
    refine lv_iconst (v := 1) hx hb dX12_sells_40 (by decide) ?_
    refine lv_icmp_ne (tgt := 48) hx hb dX12_sells_41 (by decide) (fun h15 => ?_) (fun h15 => ?_)
    · rw [if_neg h15] at hm
      refine lv_iload_n hx hb dX12_sells_48 rfl (lv_at hl 0 rfl) ?_
      refine lv_aload_n hx hb dX12_sells_49 rfl (lv_at hl 2 rfl) ?_
      obtain ⟨q16, hq16, hm⟩ := bd_some hm
      have Tq16 : TY S_1 q16 14 := hw.wf.ref (k := 12) (j := 47) Ta0 (by decide) (by decide) hq16
      refine pg_rb (k := 12) (j := 47) (f := 1247) hx hb hown hU iu12 hw Ta0 (by decide) rfl (hU _ tw1518) rfl hq16 dX12_sells_50 ?_
      refine lv_bipush (v := 6) hx hb dX12_sells_53 (by decide) ?_
      refine lv_iload_n hx hb dX12_sells_55 rfl (lv_at hl 1 rfl) ?_
      refine lv_iadd hx hb dX12_sells_56 ?_
      obtain ⟨hi17, hm⟩ := ck_some hm
      refine pw_iald hx hb hw Tq16 hi17 dX12_sells_57 ?_
      refine lv_icmp_ge (tgt := 65) hx hb dX12_sells_58 (by decide) (fun h18 => ?_) (fun h18 => ?_)
      · rw [if_pos h18] at hm
        refine lv_aload_n hx hb dX12_sells_65 rfl (lv_at hl 2 rfl) ?_
        obtain ⟨q19, hq19, hm⟩ := bd_some hm
        have Tq19 : TY S_1 q19 14 := hw.wf.ref (k := 12) (j := 47) Ta0 (by decide) (by decide) hq19
        refine pg_rb (k := 12) (j := 47) (f := 1247) hx hb hown hU iu12 hw Ta0 (by decide) rfl (hU _ tw1518) rfl hq19 dX12_sells_66 ?_
        refine lv_bipush (v := 6) hx hb dX12_sells_69 (by decide) ?_
        refine lv_iload_n hx hb dX12_sells_71 rfl (lv_at hl 1 rfl) ?_
        refine lv_iadd hx hb dX12_sells_72 ?_
        obtain ⟨hi20, hm⟩ := ck_some hm
        refine pw_iald hx hb hw Tq19 hi20 dX12_sells_73 ?_
        exact wb_X12_sells_74 cx C X S0 n r S1 a0 x1 v9 v12 (pA S_1 q19 (Int32.toNatClampNeg ((6 : Int32) + v9))) S_1 _ _ _ hw hE Ta0 (lv_sub hl [2, 3, 1, 0] rfl) hm
      · rw [if_neg h18] at hm
        refine lv_iload_n hx hb dX12_sells_61 rfl (lv_at hl 0 rfl) ?_
        refine lv_goto (tgt := 74) hx hb dX12_sells_62 (by decide) ?_
        exact wb_X12_sells_74 cx C X S0 n r S1 a0 x1 v9 v12 v12 S_1 _ _ _ hw hE Ta0 (lv_sub hl [2, 3, 1, 0] rfl) hm
    · rw [if_pos h15] at hm
      refine lv_iconst (v := 0) hx hb dX12_sells_44 (by decide) ?_
      refine lv_goto (tgt := 74) hx hb dX12_sells_45 (by decide) ?_
      exact wb_X12_sells_74 cx C X S0 n r S1 a0 x1 v9 v12 0 S_1 _ _ _ hw hE Ta0 (lv_sub hl [2, 3, 1, 0] rfl) hm
  · rw [if_pos h6] at hm
    refine lv_iconst (v := 0) hx hb dX12_sells_8 (by decide) ?_
    cases hm
    exact pw_zret hx hb hr bz_0 hlk hw hE dX12_sells_9
abbrev rm_X12_month : Room := { frames := 1, cells := 0, slots := 0, locals := 22 }
def b_X12_month_134 (n : Nat) (a0 : Nat) (S : pq_S) : Option pq_S := Option.bind (pR S 1247 a0) fun q28 => ck (ix 48 (pN S q28)) (dix _ _) (ck (ix 48 (pN S q28)) (dix _ _) (lt_ (sA S q28 (Int32.toNatClampNeg 48) ((pA S q28 (Int32.toNatClampNeg 48)) + (1 : Int32))) fun S_31 => some S_31))
set_option maxHeartbeats 4000000 in
set_option maxRecDepth 100000 in
theorem wb_X12_month_134 {p : Program} {l : Launch} {e : Env} {s : State} {m : MethodId} {args : Array Value} {below : List Frame} {meth : Method} {c : Code} (cx : Cx p s m args meth c cX12_month 4 RX12 none) (C : pq_C) (X : va_W) (S0 : pq_S) (n : Nat) (S1 : pq_S) : ∀ (a0 : Nat) (S : pq_S) (H : Heap) (locs : List Loc) (ls : Array Slot), PW C X S (pq_F C X S0 s.heap.size) H locs s → Ext S0 S → TY S a0 12 → lv_has ls 4 [(0, .ref a0)] → b_X12_month_134 n a0 S = some S1 → W p l e rm_X12_month s m args below meth c H locs 0 0 (MQ below (QcV C X S0 s.heap.size S1) args s 0 0 (pq_F C X S0 s.heap.size)) (F0 m 134 ls []) := by
  obtain ⟨hx, hb, hml, hown, hU, hr, hlk⟩ := id cx
  intro a0 S H locs ls hw hE Ta0 hl hm
  rw [b_X12_month_134] at hm
  refine lv_aload_n hx hb dX12_month_134 rfl (lv_at hl 0 rfl) ?_
  obtain ⟨q28, hq28, hm⟩ := bd_some hm
  have Tq28 : TY S q28 14 := hw.wf.ref (k := 12) (j := 47) Ta0 (by decide) (by decide) hq28
  refine pg_rb (k := 12) (j := 47) (f := 1247) hx hb hown hU iu12 hw Ta0 (by decide) rfl (hU _ tw1518) rfl hq28 dX12_month_135 ?_
  refine lv_bipush (v := 48) hx hb dX12_month_138 (by decide) ?_
  refine lv_dup2_11 hx hb dX12_month_140 rfl rfl ?_
  obtain ⟨hi29, hm⟩ := ck_some hm
  refine pw_iald hx hb hw Tq28 hi29 dX12_month_141 ?_
  refine lv_iconst (v := 1) hx hb dX12_month_142 (by decide) ?_
  refine lv_iadd hx hb dX12_month_143 ?_
  obtain ⟨hi30, hm⟩ := ck_some hm
  refine pw_iast hx hb hw Tq28 hi30 dX12_month_144 (fun H locs hw => ?_)
  obtain ⟨S_31, eS_31, hm⟩ := lt_some hm
  rw [← eS_31] at hw
  have Ta0 : TY S_31 a0 12 := by rw [eS_31]; exact Ta0
  have hE : Ext S0 S_31 := by rw [eS_31]; exact hE
  cases hm
  exact pw_vret hx hb hr hlk hw hE dX12_month_145
def b_X12_month_110 (n : Nat) : Nat → Nat → Int32 → pq_S → Option pq_S
  | 0, _, _, _ => none
  | f + 1, a0, x1, S => if (pI S 1225 a0) ≤ x1 then b_X12_month_134 n a0 S else Option.bind (pR S 1247 a0) fun q26 => ck (ix ((18 : Int32) + x1) (pN S q26)) (dix _ _) (b_X12_month_110 n f a0 (x1 + 1) (sA S q26 (Int32.toNatClampNeg ((18 : Int32) + x1)) 1))
set_option maxHeartbeats 4000000 in
set_option maxRecDepth 100000 in
theorem wb_X12_month_110 {p : Program} {l : Launch} {e : Env} {s : State} {m : MethodId} {args : Array Value} {below : List Frame} {meth : Method} {c : Code} (cx : Cx p s m args meth c cX12_month 4 RX12 none) (C : pq_C) (X : va_W) (S0 : pq_S) (n : Nat) (S1 : pq_S) : ∀ (f : Nat) (a0 : Nat) (x1 : Int32) (S : pq_S) (H : Heap) (locs : List Loc) (ls : Array Slot), PW C X S (pq_F C X S0 s.heap.size) H locs s → Ext S0 S → TY S a0 12 → lv_has ls 4 [(0, .ref a0), (1, .int x1)] → b_X12_month_110 n f a0 x1 S = some S1 → W p l e rm_X12_month s m args below meth c H locs 0 0 (MQ below (QcV C X S0 s.heap.size S1) args s 0 0 (pq_F C X S0 s.heap.size)) (F0 m 110 ls []) := by
  obtain ⟨hx, hb, hml, hown, hU, hr, hlk⟩ := id cx
  intro f
  induction f with
  | zero =>
    intro a0 x1 S H locs ls hw hE Ta0 hl hm
    cases hm
  | succ f ih =>
    intro a0 x1 S H locs ls hw hE Ta0 hl hm
    rw [b_X12_month_110] at hm
    refine lv_iload_n hx hb dX12_month_110 rfl (lv_at hl 1 rfl) ?_
    refine lv_aload_n hx hb dX12_month_111 rfl (lv_at hl 0 rfl) ?_
    refine pg_i (k := 12) (j := 25) (f := 1225) hx hb hown hU iu12 hw Ta0 (by decide) rfl (hU _ tw1496) rfl dX12_month_112 ?_
    refine lv_icmp_ge (tgt := 134) hx hb dX12_month_115 (by decide) (fun h25 => ?_) (fun h25 => ?_)
    · rw [if_pos h25] at hm
      exact wb_X12_month_134 cx C X S0 n S1 a0 S _ _ _ hw hE Ta0 (lv_sub hl [0] rfl) hm
    · rw [if_neg h25] at hm
      refine lv_aload_n hx hb dX12_month_118 rfl (lv_at hl 0 rfl) ?_
      obtain ⟨q26, hq26, hm⟩ := bd_some hm
      have Tq26 : TY S q26 14 := hw.wf.ref (k := 12) (j := 47) Ta0 (by decide) (by decide) hq26
      refine pg_rb (k := 12) (j := 47) (f := 1247) hx hb hown hU iu12 hw Ta0 (by decide) rfl (hU _ tw1518) rfl hq26 dX12_month_119 ?_
      refine lv_bipush (v := 18) hx hb dX12_month_122 (by decide) ?_
      refine lv_iload_n hx hb dX12_month_124 rfl (lv_at hl 1 rfl) ?_
      refine lv_iadd hx hb dX12_month_125 ?_
      refine lv_iconst (v := 1) hx hb dX12_month_126 (by decide) ?_
      obtain ⟨hi27, hm⟩ := ck_some hm
      refine pw_iast hx hb hw Tq26 hi27 dX12_month_127 (fun H locs hw => ?_)
      refine lv_iinc (v := (x1 + 1)) (lv' := [(1, .int (x1 + 1)), (0, .ref a0)]) hx hb dX12_month_128 hl (k := 1) rfl rfl (by decide) rfl (fun ls hl => ?_)
      refine lv_goto (tgt := 110) hx hb dX12_month_131 (by decide) ?_
      exact ih a0 (x1 + 1) (sA S q26 (Int32.toNatClampNeg ((18 : Int32) + x1)) 1) _ _ _ hw hE Ta0 (lv_sub hl [1, 0] rfl) hm
def b_X12_month_108 (n : Nat) (a0 : Nat) (S : pq_S) : Option pq_S := b_X12_month_110 n n a0 0 S
set_option maxHeartbeats 4000000 in
set_option maxRecDepth 100000 in
theorem wb_X12_month_108 {p : Program} {l : Launch} {e : Env} {s : State} {m : MethodId} {args : Array Value} {below : List Frame} {meth : Method} {c : Code} (cx : Cx p s m args meth c cX12_month 4 RX12 none) (C : pq_C) (X : va_W) (S0 : pq_S) (n : Nat) (S1 : pq_S) : ∀ (a0 : Nat) (S : pq_S) (H : Heap) (locs : List Loc) (ls : Array Slot), PW C X S (pq_F C X S0 s.heap.size) H locs s → Ext S0 S → TY S a0 12 → lv_has ls 4 [(0, .ref a0)] → b_X12_month_108 n a0 S = some S1 → W p l e rm_X12_month s m args below meth c H locs 0 0 (MQ below (QcV C X S0 s.heap.size S1) args s 0 0 (pq_F C X S0 s.heap.size)) (F0 m 108 ls []) := by
  obtain ⟨hx, hb, hml, hown, hU, hr, hlk⟩ := id cx
  intro a0 S H locs ls hw hE Ta0 hl hm
  rw [b_X12_month_108] at hm
  refine lv_iconst (v := 0) hx hb dX12_month_108 (by decide) ?_
  refine lv_istore_n (lv' := [(1, .int 0), (0, .ref a0)]) hx hb dX12_month_109 rfl hl (by decide) rfl (fun ls hl => ?_)
  exact wb_X12_month_110 cx C X S0 n S1 n a0 0 S _ _ _ hw hE Ta0 (lv_sub hl [1, 0] rfl) hm
def b_X12_month_2 (n : Nat) : Nat → Nat → Int32 → pq_S → Option pq_S
  | 0, _, _, _ => none
  | f + 1, a0, x1, S => if (pI S 1224 a0) ≤ x1 then b_X12_month_108 n a0 S else Option.bind (pR S 1247 a0) fun q2 => ck (ix ((0 : Int32) + x1) (pN S q2)) (dix _ _) (lt_ (((pA S q2 (Int32.toNatClampNeg ((0 : Int32) + x1))) * (pI S 1228 a0)) / 8) fun v4 => Option.bind (pR S 1247 a0) fun q5 => ck (ix ((6 : Int32) + x1) (pN S q5)) (dix _ _) (lt_ (((pA S q5 (Int32.toNatClampNeg ((6 : Int32) + x1))) * (pI S 1228 a0)) / 8) fun v7 => Option.bind (pR S 1247 a0) fun q8 => ck (ix ((0 : Int32) + x1) (pN S q8)) (dix _ _) (ck (ix ((0 : Int32) + x1) (pN S q8)) (dix _ _) (lt_ (sA S q8 (Int32.toNatClampNeg ((0 : Int32) + x1)) ((pA S q8 (Int32.toNatClampNeg ((0 : Int32) + x1))) - v4)) fun S_11 => Option.bind (pR S_11 1247 a0) fun q12 => ck (ix ((6 : Int32) + x1) (pN S_11 q12)) (dix _ _) (ck (ix ((6 : Int32) + x1) (pN S_11 q12)) (dix _ _) (lt_ (sA S_11 q12 (Int32.toNatClampNeg ((6 : Int32) + x1)) ((pA S_11 q12 (Int32.toNatClampNeg ((6 : Int32) + x1))) - v7)) fun S_15 => Option.bind (pR S_15 1247 a0) fun q16 => ck (ix ((12 : Int32) + x1) (pN S_15 q16)) (dix _ _) (ck (ix ((12 : Int32) + x1) (pN S_15 q16)) (dix _ _) (lt_ (sA S_15 q16 (Int32.toNatClampNeg ((12 : Int32) + x1)) ((pA S_15 q16 (Int32.toNatClampNeg ((12 : Int32) + x1))) + (v4 + v7))) fun S_19 => Option.bind (pR S_19 1214 a0) fun q20 => ck (ix (((4 : Int32) * x1) + (3 : Int32)) (pN S_19 q20)) (dix _ _) (Option.bind (m_X12_adds n a0 ((0 : Int32) + x1) (pA S_19 q20 (Int32.toNatClampNeg (((4 : Int32) * x1) + (3 : Int32)))) S_19) fun S_22 => b_X12_month_2 n f a0 (x1 + 1) S_22)))))))))
set_option maxHeartbeats 4000000 in
set_option maxRecDepth 100000 in
theorem wb_X12_month_2 {p : Program} {l : Launch} {e : Env} {s : State} {m : MethodId} {args : Array Value} {below : List Frame} {meth : Method} {c : Code} (cx : Cx p s m args meth c cX12_month 4 RX12 none) (C : pq_C) (X : va_W) (S0 : pq_S) (n : Nat) (S1 : pq_S) : ∀ (f : Nat) (a0 : Nat) (x1 : Int32) (S : pq_S) (H : Heap) (locs : List Loc) (ls : Array Slot), PW C X S (pq_F C X S0 s.heap.size) H locs s → Ext S0 S → TY S a0 12 → lv_has ls 4 [(0, .ref a0), (1, .int x1)] → b_X12_month_2 n f a0 x1 S = some S1 → W p l e rm_X12_month s m args below meth c H locs 0 0 (MQ below (QcV C X S0 s.heap.size S1) args s 0 0 (pq_F C X S0 s.heap.size)) (F0 m 2 ls []) := by
  obtain ⟨hx, hb, hml, hown, hU, hr, hlk⟩ := id cx
  intro f
  induction f with
  | zero =>
    intro a0 x1 S H locs ls hw hE Ta0 hl hm
    cases hm
  | succ f ih =>
    intro a0 x1 S H locs ls hw hE Ta0 hl hm
    rw [b_X12_month_2] at hm
    refine lv_iload_n hx hb dX12_month_2 rfl (lv_at hl 1 rfl) ?_
    refine lv_aload_n hx hb dX12_month_3 rfl (lv_at hl 0 rfl) ?_
    refine pg_i (k := 12) (j := 24) (f := 1224) hx hb hown hU iu12 hw Ta0 (by decide) rfl (hU _ tw1495) rfl dX12_month_4 ?_
    refine lv_icmp_ge (tgt := 108) hx hb dX12_month_7 (by decide) (fun h1 => ?_) (fun h1 => ?_)
    · rw [if_pos h1] at hm
      exact wb_X12_month_108 cx C X S0 n S1 a0 S _ _ _ hw hE Ta0 (lv_sub hl [0] rfl) hm
    · rw [if_neg h1] at hm
      refine lv_aload_n hx hb dX12_month_10 rfl (lv_at hl 0 rfl) ?_
      obtain ⟨q2, hq2, hm⟩ := bd_some hm
      have Tq2 : TY S q2 14 := hw.wf.ref (k := 12) (j := 47) Ta0 (by decide) (by decide) hq2
      refine pg_rb (k := 12) (j := 47) (f := 1247) hx hb hown hU iu12 hw Ta0 (by decide) rfl (hU _ tw1518) rfl hq2 dX12_month_11 ?_
      refine lv_iconst (v := 0) hx hb dX12_month_14 (by decide) ?_
      refine lv_iload_n hx hb dX12_month_15 rfl (lv_at hl 1 rfl) ?_
      refine lv_iadd hx hb dX12_month_16 ?_
      obtain ⟨hi3, hm⟩ := ck_some hm
      refine pw_iald hx hb hw Tq2 hi3 dX12_month_17 ?_
      refine lv_aload_n hx hb dX12_month_18 rfl (lv_at hl 0 rfl) ?_
      refine pg_i (k := 12) (j := 28) (f := 1228) hx hb hown hU iu12 hw Ta0 (by decide) rfl (hU _ tw1499) rfl dX12_month_19 ?_
      refine lv_imul hx hb dX12_month_22 ?_
      refine lv_bipush (v := 8) hx hb dX12_month_23 (by decide) ?_
      refine lv_idiv hx hb dX12_month_25 (by decide) ?_
      obtain ⟨v4, ev4, hm⟩ := lt_some hm
      refine lv_nmI ev4 ?_
      refine lv_istore_n (lv' := [(2, .int v4), (0, .ref a0), (1, .int x1)]) hx hb dX12_month_26 rfl hl (by decide) rfl (fun ls hl => ?_)
      refine lv_aload_n hx hb dX12_month_27 rfl (lv_at hl 1 rfl) ?_
      obtain ⟨q5, hq5, hm⟩ := bd_some hm
      have Tq5 : TY S q5 14 := hw.wf.ref (k := 12) (j := 47) Ta0 (by decide) (by decide) hq5
      refine pg_rb (k := 12) (j := 47) (f := 1247) hx hb hown hU iu12 hw Ta0 (by decide) rfl (hU _ tw1518) rfl hq5 dX12_month_28 ?_
      refine lv_bipush (v := 6) hx hb dX12_month_31 (by decide) ?_
      refine lv_iload_n hx hb dX12_month_33 rfl (lv_at hl 2 rfl) ?_
      refine lv_iadd hx hb dX12_month_34 ?_
      obtain ⟨hi6, hm⟩ := ck_some hm
      refine pw_iald hx hb hw Tq5 hi6 dX12_month_35 ?_
      refine lv_aload_n hx hb dX12_month_36 rfl (lv_at hl 1 rfl) ?_
      refine pg_i (k := 12) (j := 28) (f := 1228) hx hb hown hU iu12 hw Ta0 (by decide) rfl (hU _ tw1499) rfl dX12_month_37 ?_
      refine lv_imul hx hb dX12_month_40 ?_
      refine lv_bipush (v := 8) hx hb dX12_month_41 (by decide) ?_
      refine lv_idiv hx hb dX12_month_43 (by decide) ?_
      obtain ⟨v7, ev7, hm⟩ := lt_some hm
      refine lv_nmI ev7 ?_
      refine lv_istore_n (lv' := [(3, .int v7), (2, .int v4), (0, .ref a0), (1, .int x1)]) hx hb dX12_month_44 rfl hl (by decide) rfl (fun ls hl => ?_)
      refine lv_aload_n hx hb dX12_month_45 rfl (lv_at hl 2 rfl) ?_
      obtain ⟨q8, hq8, hm⟩ := bd_some hm
      have Tq8 : TY S q8 14 := hw.wf.ref (k := 12) (j := 47) Ta0 (by decide) (by decide) hq8
      refine pg_rb (k := 12) (j := 47) (f := 1247) hx hb hown hU iu12 hw Ta0 (by decide) rfl (hU _ tw1518) rfl hq8 dX12_month_46 ?_
      refine lv_iconst (v := 0) hx hb dX12_month_49 (by decide) ?_
      refine lv_iload_n hx hb dX12_month_50 rfl (lv_at hl 3 rfl) ?_
      refine lv_iadd hx hb dX12_month_51 ?_
      refine lv_dup2_11 hx hb dX12_month_52 rfl rfl ?_
      obtain ⟨hi9, hm⟩ := ck_some hm
      refine pw_iald hx hb hw Tq8 hi9 dX12_month_53 ?_
      refine lv_iload_n hx hb dX12_month_54 rfl (lv_at hl 1 rfl) ?_
      refine lv_isub hx hb dX12_month_55 ?_
      obtain ⟨hi10, hm⟩ := ck_some hm
      refine pw_iast hx hb hw Tq8 hi10 dX12_month_56 (fun H locs hw => ?_)
      obtain ⟨S_11, eS_11, hm⟩ := lt_some hm
      rw [← eS_11] at hw
      have Ta0 : TY S_11 a0 12 := by rw [eS_11]; exact Ta0
      have hE : Ext S0 S_11 := by rw [eS_11]; exact hE
      refine lv_aload_n hx hb dX12_month_57 rfl (lv_at hl 2 rfl) ?_
      obtain ⟨q12, hq12, hm⟩ := bd_some hm
      have Tq12 : TY S_11 q12 14 := hw.wf.ref (k := 12) (j := 47) Ta0 (by decide) (by decide) hq12
      refine pg_rb (k := 12) (j := 47) (f := 1247) hx hb hown hU iu12 hw Ta0 (by decide) rfl (hU _ tw1518) rfl hq12 dX12_month_58 ?_
      refine lv_bipush (v := 6) hx hb dX12_month_61 (by decide) ?_
      refine lv_iload_n hx hb dX12_month_63 rfl (lv_at hl 3 rfl) ?_
      refine lv_iadd hx hb dX12_month_64 ?_
      refine lv_dup2_11 hx hb dX12_month_65 rfl rfl ?_
      obtain ⟨hi13, hm⟩ := ck_some hm
      refine pw_iald hx hb hw Tq12 hi13 dX12_month_66 ?_
      refine lv_iload_n hx hb dX12_month_67 rfl (lv_at hl 0 rfl) ?_
      refine lv_isub hx hb dX12_month_68 ?_
      obtain ⟨hi14, hm⟩ := ck_some hm
      refine pw_iast hx hb hw Tq12 hi14 dX12_month_69 (fun H locs hw => ?_)
      obtain ⟨S_15, eS_15, hm⟩ := lt_some hm
      rw [← eS_15] at hw
      have Ta0 : TY S_15 a0 12 := by rw [eS_15]; exact Ta0
      have hE : Ext S0 S_15 := by rw [eS_15]; exact hE
      refine lv_aload_n hx hb dX12_month_70 rfl (lv_at hl 2 rfl) ?_
      obtain ⟨q16, hq16, hm⟩ := bd_some hm
      have Tq16 : TY S_15 q16 14 := hw.wf.ref (k := 12) (j := 47) Ta0 (by decide) (by decide) hq16
      refine pg_rb (k := 12) (j := 47) (f := 1247) hx hb hown hU iu12 hw Ta0 (by decide) rfl (hU _ tw1518) rfl hq16 dX12_month_71 ?_
      refine lv_bipush (v := 12) hx hb dX12_month_74 (by decide) ?_
      refine lv_iload_n hx hb dX12_month_76 rfl (lv_at hl 3 rfl) ?_
      refine lv_iadd hx hb dX12_month_77 ?_
      refine lv_dup2_11 hx hb dX12_month_78 rfl rfl ?_
      obtain ⟨hi17, hm⟩ := ck_some hm
      refine pw_iald hx hb hw Tq16 hi17 dX12_month_79 ?_
      refine lv_iload_n hx hb dX12_month_80 rfl (lv_at hl 1 rfl) ?_
      refine lv_iload_n hx hb dX12_month_81 rfl (lv_at hl 0 rfl) ?_
      refine lv_iadd hx hb dX12_month_82 ?_
      refine lv_iadd hx hb dX12_month_83 ?_
      obtain ⟨hi18, hm⟩ := ck_some hm
      refine pw_iast hx hb hw Tq16 hi18 dX12_month_84 (fun H locs hw => ?_)
      obtain ⟨S_19, eS_19, hm⟩ := lt_some hm
      rw [← eS_19] at hw
      have Ta0 : TY S_19 a0 12 := by rw [eS_19]; exact Ta0
      have hE : Ext S0 S_19 := by rw [eS_19]; exact hE
      refine lv_aload_n hx hb dX12_month_85 rfl (lv_at hl 2 rfl) ?_
      refine lv_iconst (v := 0) hx hb dX12_month_86 (by decide) ?_
      refine lv_iload_n hx hb dX12_month_87 rfl (lv_at hl 3 rfl) ?_
      refine lv_iadd hx hb dX12_month_88 ?_
      refine lv_aload_n hx hb dX12_month_89 rfl (lv_at hl 2 rfl) ?_
      obtain ⟨q20, hq20, hm⟩ := bd_some hm
      have Tq20 : TY S_19 q20 14 := hw.wf.ref (k := 12) (j := 14) Ta0 (by decide) (by decide) hq20
      refine pg_rb (k := 12) (j := 14) (f := 1214) hx hb hown hU iu12 hw Ta0 (by decide) rfl (hU _ tw1485) rfl hq20 dX12_month_90 ?_
      refine lv_iconst (v := 4) hx hb dX12_month_93 (by decide) ?_
      refine lv_iload_n hx hb dX12_month_94 rfl (lv_at hl 3 rfl) ?_
      refine lv_imul hx hb dX12_month_95 ?_
      refine lv_iconst (v := 3) hx hb dX12_month_96 (by decide) ?_
      refine lv_iadd hx hb dX12_month_97 ?_
      obtain ⟨hi21, hm⟩ := ck_some hm
      refine pw_iald hx hb hw Tq20 hi21 dX12_month_98 ?_
      obtain ⟨S_22, hq23, hm⟩ := bd_some hm
      refine pw_cv (va_runV (As := [.int ((0 : Int32) + x1), .int (pA S_19 q20 (Int32.toNatClampNeg (((4 : Int32) * x1) + (3 : Int32))))]) (rest := []) ⟨hx, hb, hml, hown, hU⟩ (c_X12_adds l C X n S_19 hw.wf _ a0 ((0 : Int32) + x1) (pA S_19 q20 (Int32.toNatClampNeg (((4 : Int32) * x1) + (3 : Int32)))) (Ta0) S_22 hq23) (cwV 2 hU (pq_gV tw1870 tw1872 ts152 tw14 tc_X12_adds) rfl rfl rfl cd_X12_adds ⟨Nat.le_of_ble_eq_true rfl, Nat.le_of_ble_eq_true rfl⟩) (pw_preV hw Ta0 (by decide) rfl) rfl rfl hl.1 rfl (lv_room (Nat.le_of_ble_eq_true rfl)) dX12_month_99 ⟨Nat.zero_le _, Nat.zero_le _⟩) hw (fun H locs hw hx24 => ?_)
      have Ta0 : TY S_22 a0 12 := ty_ext hx24 Ta0
      have hE : Ext S0 S_22 := Ext.tr hE hx24
      refine lv_iinc (v := (x1 + 1)) (lv' := [(1, .int (x1 + 1)), (3, .int v7), (2, .int v4), (0, .ref a0)]) hx hb dX12_month_102 hl (k := 3) rfl rfl (by decide) rfl (fun ls hl => ?_)
      refine lv_goto (tgt := 2) hx hb dX12_month_105 (by decide) ?_
      exact ih a0 (x1 + 1) S_22 _ _ _ hw hE Ta0 (lv_sub hl [3, 0] rfl) hm
def m_X12_month (n : Nat) (a0 : Nat) (S0 : pq_S) : Option pq_S := b_X12_month_2 n n a0 0 S0
theorem tc_X12_month : Cond.code yX12_month cX12_month 4 none ∈ pq_U := tw1897
theorem cd_X12_month : yX12_month.cls = RX12 ∧ yX12_month.cls ≠ "java/lang/invoke/MethodHandle" ∧ yX12_month.cls ≠ "java/lang/invoke/VarHandle" ∧ (parseMethodDescriptor yX12_month.desc).map (fun d => d.parameters.length) = some 0 := by decide +kernel
set_option maxHeartbeats 4000000 in
set_option maxRecDepth 100000 in
theorem c_X12_month (l : Launch) (C : pq_C) (X : va_W) (n : Nat) (S0 : pq_S) (hF : WF S0) (sz : Nat) (a0 : Nat) (Ta0 : TY S0 a0 12) (S1 : pq_S) (hm : m_X12_month n a0 S0 = some S1) : MV l yX12_month (.code yX12_month cX12_month 4 none :: pq_U) rm_X12_month C X S0 sz [.ref a0] S1 0 0 := by
  refine Met.ofW (cc := cX12_month) (maxL := 4) (ret := none) (by decide) rfl ?_
  intro p e s m args below meth c s₁ B hml hv
  obtain ⟨rfl, hv⟩ := hv
  have hsz := hv.1
  subst hsz
  have hw := pw_entry hF hv
  have hts := atoms_spec (ws := .code yX12_month cX12_month 4 none :: pq_U) B.pre
  have hU : ∀ w ∈ pq_U, w.before _ s = true := fun w h => hts w (List.mem_cons_of_mem _ h)
  have hx := B.exec
  have hb := B.bytes
  have hr := B.returns
  have hown : s.vm.findClass RX12 = some m.cls := findClass_of_methodNamed B.named
  have hlk := B.notSynchronized
  have hl := lv_entry ([.ref a0]) (n := 4) (Nat.le_of_ble_eq_true rfl)
  rw [lg_entry_eq]
  generalize (lg_sl ([.ref a0]) ++ List.replicate (4 - (lg_sl ([.ref a0])).length) Slot.unset).toArray = ls at hl ⊢
  have hl : lv_has ls 4 [(0, .ref a0)] := hl
  have hE : Ext S0 S0 := Ext.rf _
  have cx : Cx p s m _ meth c cX12_month 4 RX12 none := ⟨hx, hb, hml, hown, hU, hr, hlk⟩
  rw [m_X12_month] at hm
  refine lv_iconst (v := 0) hx hb dX12_month_0 (by decide) ?_
  refine lv_istore_n (lv' := [(1, .int 0), (0, .ref a0)]) hx hb dX12_month_1 rfl hl (by decide) rfl (fun ls hl => ?_)
  exact wb_X12_month_2 cx C X S0 n S1 n a0 0 S0 _ _ _ hw hE Ta0 (lv_sub hl [1, 0] rfl) hm
abbrev rm_X12_take : Room := { frames := 1, cells := 0, slots := 0, locals := 24 }
def m_X12_take (n : Nat) (a0 : Nat) (S0 : pq_S) : Option pq_S := Option.bind (pR S0 1246 a0) fun q1 => Option.bind (pR S0 1247 a0) fun q2 => Option.bind (m_X12_copies n a0 q1 q2 50 S0) fun S_3 => some S_3
theorem tc_X12_take : Cond.code yX12_take cX12_take 1 none ∈ pq_U := tw1925
theorem cd_X12_take : yX12_take.cls = RX12 ∧ yX12_take.cls ≠ "java/lang/invoke/MethodHandle" ∧ yX12_take.cls ≠ "java/lang/invoke/VarHandle" ∧ (parseMethodDescriptor yX12_take.desc).map (fun d => d.parameters.length) = some 0 := by decide +kernel
set_option maxHeartbeats 4000000 in
set_option maxRecDepth 100000 in
theorem c_X12_take (l : Launch) (C : pq_C) (X : va_W) (n : Nat) (S0 : pq_S) (hF : WF S0) (sz : Nat) (a0 : Nat) (Ta0 : TY S0 a0 12) (S1 : pq_S) (hm : m_X12_take n a0 S0 = some S1) : MV l yX12_take (.code yX12_take cX12_take 1 none :: pq_U) rm_X12_take C X S0 sz [.ref a0] S1 0 0 := by
  refine Met.ofW (cc := cX12_take) (maxL := 1) (ret := none) (by decide) rfl ?_
  intro p e s m args below meth c s₁ B hml hv
  obtain ⟨rfl, hv⟩ := hv
  have hsz := hv.1
  subst hsz
  have hw := pw_entry hF hv
  have hts := atoms_spec (ws := .code yX12_take cX12_take 1 none :: pq_U) B.pre
  have hU : ∀ w ∈ pq_U, w.before _ s = true := fun w h => hts w (List.mem_cons_of_mem _ h)
  have hx := B.exec
  have hb := B.bytes
  have hr := B.returns
  have hown : s.vm.findClass RX12 = some m.cls := findClass_of_methodNamed B.named
  have hlk := B.notSynchronized
  have hl := lv_entry ([.ref a0]) (n := 1) (Nat.le_of_ble_eq_true rfl)
  rw [lg_entry_eq]
  generalize (lg_sl ([.ref a0]) ++ List.replicate (1 - (lg_sl ([.ref a0])).length) Slot.unset).toArray = ls at hl ⊢
  have hl : lv_has ls 1 [(0, .ref a0)] := hl
  have hE : Ext S0 S0 := Ext.rf _
  have cx : Cx p s m _ meth c cX12_take 1 RX12 none := ⟨hx, hb, hml, hown, hU, hr, hlk⟩
  rw [m_X12_take] at hm
  refine lv_aload_n hx hb dX12_take_0 rfl (lv_at hl 0 rfl) ?_
  refine lv_aload_n hx hb dX12_take_1 rfl (lv_at hl 0 rfl) ?_
  obtain ⟨q1, hq1, hm⟩ := bd_some hm
  have Tq1 : TY S0 q1 14 := hw.wf.ref (k := 12) (j := 46) Ta0 (by decide) (by decide) hq1
  refine pg_rb (k := 12) (j := 46) (f := 1246) hx hb hown hU iu12 hw Ta0 (by decide) rfl (hU _ tw1517) rfl hq1 dX12_take_2 ?_
  refine lv_aload_n hx hb dX12_take_5 rfl (lv_at hl 0 rfl) ?_
  obtain ⟨q2, hq2, hm⟩ := bd_some hm
  have Tq2 : TY S0 q2 14 := hw.wf.ref (k := 12) (j := 47) Ta0 (by decide) (by decide) hq2
  refine pg_rb (k := 12) (j := 47) (f := 1247) hx hb hown hU iu12 hw Ta0 (by decide) rfl (hU _ tw1518) rfl hq2 dX12_take_6 ?_
  refine lv_bipush (v := 50) hx hb dX12_take_9 (by decide) ?_
  obtain ⟨S_3, hq4, hm⟩ := bd_some hm
  refine pw_cv (va_runV (As := [.ref q1, .ref q2, .int 50]) (rest := []) ⟨hx, hb, hml, hown, hU⟩ (c_X12_copies l C X n S0 hw.wf _ a0 q1 q2 50 (Ta0) (Tq1) (Tq2) S_3 hq4) (cwV 3 hU (pq_gV tw1467 tw1469 ts122 tw14 tc_X12_copies) rfl rfl rfl cd_X12_copies ⟨Nat.le_of_ble_eq_true rfl, Nat.le_of_ble_eq_true rfl⟩) (pw_preV hw Ta0 (by decide) rfl) rfl rfl hl.1 rfl (lv_room (Nat.le_of_ble_eq_true rfl)) dX12_take_11 ⟨Nat.zero_le _, Nat.zero_le _⟩) hw (fun H locs hw hx5 => ?_)
  have Ta0 : TY S_3 a0 12 := ty_ext hx5 Ta0
  have hE : Ext S0 S_3 := Ext.tr hE hx5
  cases hm
  exact pw_vret hx hb hr hlk hw hE dX12_take_14
abbrev rm_X12_book : Room := { frames := 2, cells := 0, slots := 0, locals := 47 }
def b_X12_book_185 (n : Nat) (a0 : Nat) (x2 : Int32) (S : pq_S) : Option (Int32 × pq_S) := cb (m_X12_result n a0 x2 S) fun r70 S_68 => if (pI S_68 1205 a0) = (-1) then Option.bind (pR (sI S_68 1251 a0 x2) 1249 a0) fun q73 => Option.bind (pR (sI S_68 1251 a0 x2) 1250 a0) fun q74 => Option.bind (m_X12_copies n a0 q73 q74 ((2 : Int32) * x2) (sI S_68 1251 a0 x2)) fun S_75 => some (r70, S_75) else some (r70, S_68)
set_option maxHeartbeats 4000000 in
set_option maxRecDepth 100000 in
theorem wb_X12_book_185 {p : Program} {l : Launch} {e : Env} {s : State} {m : MethodId} {args : Array Value} {below : List Frame} {meth : Method} {c : Code} (cx : Cx p s m args meth c cX12_book 7 RX12 (some .int)) (C : pq_C) (X : va_W) (S0 : pq_S) (n : Nat) (r : Int32) (S1 : pq_S) : ∀ (a0 : Nat) (x2 : Int32) (S : pq_S) (H : Heap) (locs : List Loc) (ls : Array Slot), PW C X S (pq_F C X S0 s.heap.size) H locs s → Ext S0 S → TY S a0 12 → lv_has ls 7 [(0, .ref a0), (2, .int x2)] → b_X12_book_185 n a0 x2 S = some (r, S1) → W p l e rm_X12_book s m args below meth c H locs 0 0 (MQ below (QcI C X S0 s.heap.size r S1) args s 0 0 (pq_F C X S0 s.heap.size)) (F0 m 185 ls []) := by
  obtain ⟨hx, hb, hml, hown, hU, hr, hlk⟩ := id cx
  intro a0 x2 S H locs ls hw hE Ta0 hl hm
  rw [b_X12_book_185] at hm
  refine lv_aload_n hx hb dX12_book_185 rfl (lv_at hl 0 rfl) ?_
  refine lv_iload_n hx hb dX12_book_186 rfl (lv_at hl 1 rfl) ?_
  obtain ⟨r70, S_68, hq69, hm⟩ := cb_some hm
  refine pw_ci (va_runV (As := [.int x2]) (rest := []) ⟨hx, hb, hml, hown, hU⟩ (c_X12_result l C X n S hw.wf _ a0 x2 (Ta0) r70 S_68 hq69) (cwV 1 hU (pq_gV tw1768 tw1770 ts135 tw14 tc_X12_result) rfl rfl rfl cd_X12_result ⟨Nat.le_of_ble_eq_true rfl, Nat.le_of_ble_eq_true rfl⟩) (pw_preV hw Ta0 (by decide) rfl) rfl rfl hl.1 rfl (lv_room (Nat.le_of_ble_eq_true rfl)) dX12_book_187 ⟨Nat.zero_le _, Nat.zero_le _⟩) hw (fun H locs hw hx71 => ?_)
  have Ta0 : TY S_68 a0 12 := ty_ext hx71 Ta0
  have hE : Ext S0 S_68 := Ext.tr hE hx71
  refine lv_istore (lv' := [(4, .int r70), (0, .ref a0), (2, .int x2)]) hx hb dX12_book_190 hl (by decide) rfl (fun ls hl => ?_)
  refine lv_aload_n hx hb dX12_book_192 rfl (lv_at hl 1 rfl) ?_
  refine pg_i (k := 12) (j := 5) (f := 1205) hx hb hown hU iu12 hw Ta0 (by decide) rfl (hU _ tw1476) rfl dX12_book_193 ?_
  refine lv_iconst (v := (-1)) hx hb dX12_book_196 (by decide) ?_
  refine lv_icmp_eq (tgt := 203) hx hb dX12_book_197 (by decide) (fun h72 => ?_) (fun h72 => ?_)
  · rw [if_pos h72] at hm
    refine lv_aload_n hx hb dX12_book_203 rfl (lv_at hl 1 rfl) ?_
    refine lv_iload_n hx hb dX12_book_204 rfl (lv_at hl 2 rfl) ?_
    refine pp_i (k := 12) (j := 51) (f := 1251) hx hb hown hU iu12 tyX12_ok nmX12 hw Ta0 (by decide) rfl (hU _ tw1522) rfl rfl rfl dX12_book_205 (fun H locs hw => ?_)
    refine lv_aload_n hx hb dX12_book_208 rfl (lv_at hl 1 rfl) ?_
    refine lv_aload_n hx hb dX12_book_209 rfl (lv_at hl 1 rfl) ?_
    obtain ⟨q73, hq73, hm⟩ := bd_some hm
    have Tq73 : TY (sI S_68 1251 a0 x2) q73 14 := hw.wf.ref (k := 12) (j := 49) Ta0 (by decide) (by decide) hq73
    refine pg_rb (k := 12) (j := 49) (f := 1249) hx hb hown hU iu12 hw Ta0 (by decide) rfl (hU _ tw1520) rfl hq73 dX12_book_210 ?_
    refine lv_aload_n hx hb dX12_book_213 rfl (lv_at hl 1 rfl) ?_
    obtain ⟨q74, hq74, hm⟩ := bd_some hm
    have Tq74 : TY (sI S_68 1251 a0 x2) q74 14 := hw.wf.ref (k := 12) (j := 50) Ta0 (by decide) (by decide) hq74
    refine pg_rb (k := 12) (j := 50) (f := 1250) hx hb hown hU iu12 hw Ta0 (by decide) rfl (hU _ tw1521) rfl hq74 dX12_book_214 ?_
    refine lv_iconst (v := 2) hx hb dX12_book_217 (by decide) ?_
    refine lv_iload_n hx hb dX12_book_218 rfl (lv_at hl 2 rfl) ?_
    refine lv_imul hx hb dX12_book_219 ?_
    obtain ⟨S_75, hq76, hm⟩ := bd_some hm
    refine pw_cv (va_runV (As := [.ref q73, .ref q74, .int ((2 : Int32) * x2)]) (rest := []) ⟨hx, hb, hml, hown, hU⟩ (c_X12_copies l C X n (sI S_68 1251 a0 x2) hw.wf _ a0 q73 q74 ((2 : Int32) * x2) (Ta0) (Tq73) (Tq74) S_75 hq76) (cwV 3 hU (pq_gV tw1467 tw1469 ts122 tw14 tc_X12_copies) rfl rfl rfl cd_X12_copies ⟨Nat.le_of_ble_eq_true rfl, Nat.le_of_ble_eq_true rfl⟩) (pw_preV hw Ta0 (by decide) rfl) rfl rfl hl.1 rfl (lv_room (Nat.le_of_ble_eq_true rfl)) dX12_book_220 ⟨Nat.zero_le _, Nat.zero_le _⟩) hw (fun H locs hw hx77 => ?_)
    have Ta0 : TY S_75 a0 12 := ty_ext hx77 Ta0
    have hE : Ext S0 S_75 := Ext.tr hE hx77
    refine lv_iload hx hb dX12_book_223 (lv_at hl 0 rfl) ?_
    cases hm
    exact pw_iret hx hb hr rfl hlk hw hE dX12_book_225
  · rw [if_neg h72] at hm
    refine lv_iload hx hb dX12_book_200 (lv_at hl 0 rfl) ?_
    cases hm
    exact pw_iret hx hb hr rfl hlk hw hE dX12_book_202
def b_X12_book_147 (n : Nat) (a0 : Nat) (x2 : Int32) (S : pq_S) : Option (Int32 × pq_S) := b_X12_book_185 n a0 x2 S
set_option maxHeartbeats 4000000 in
set_option maxRecDepth 100000 in
theorem wb_X12_book_147 {p : Program} {l : Launch} {e : Env} {s : State} {m : MethodId} {args : Array Value} {below : List Frame} {meth : Method} {c : Code} (cx : Cx p s m args meth c cX12_book 7 RX12 (some .int)) (C : pq_C) (X : va_W) (S0 : pq_S) (n : Nat) (r : Int32) (S1 : pq_S) : ∀ (a0 : Nat) (x2 : Int32) (S : pq_S) (H : Heap) (locs : List Loc) (ls : Array Slot), PW C X S (pq_F C X S0 s.heap.size) H locs s → Ext S0 S → TY S a0 12 → lv_has ls 7 [(0, .ref a0), (2, .int x2)] → b_X12_book_147 n a0 x2 S = some (r, S1) → W p l e rm_X12_book s m args below meth c H locs 0 0 (MQ below (QcI C X S0 s.heap.size r S1) args s 0 0 (pq_F C X S0 s.heap.size)) (F0 m 147 ls []) := by
  obtain ⟨hx, hb, hml, hown, hU, hr, hlk⟩ := id cx
  intro a0 x2 S H locs ls hw hE Ta0 hl hm
  rw [b_X12_book_147] at hm
  refine lv_goto (tgt := 185) hx hb dX12_book_147 (by decide) ?_
  exact wb_X12_book_185 cx C X S0 n r S1 a0 x2 S _ _ _ hw hE Ta0 (lv_sub hl [0, 1] rfl) hm
def b_X12_book_125 (n : Nat) (k29 : Nat → Int32 → Int32 → pq_S → Option (Int32 × pq_S)) (a0 : Nat) (x2 : Int32) (x3 : Int32) (x5 : Int32) (S : pq_S) : Option (Int32 × pq_S) := cb (m_X12_readNumber n a0 0 99 S) fun r51 S_49 => Option.bind (m_X12_sign n a0 59 S_49) fun S_53 => cb (m_X12_fine n a0 S_53) fun r58 S_56 => if r58 = 0 then b_X12_book_147 n a0 x2 S_56 else lt_ (x3 ||| ((1 : Int32) <<< (x5 &&& (31 : Int32)))) fun v62 => Option.bind (pR S_56 1249 a0) fun q63 => ck (ix ((2 : Int32) * x2) (pN S_56 q63)) (dix _ _) (Option.bind (pR (sA S_56 q63 (Int32.toNatClampNeg ((2 : Int32) * x2)) x5) 1249 a0) fun q65 => ck (ix (((2 : Int32) * x2) + (1 : Int32)) (pN (sA S_56 q63 (Int32.toNatClampNeg ((2 : Int32) * x2)) x5) q65)) (dix _ _) (lt_ (sA (sA S_56 q63 (Int32.toNatClampNeg ((2 : Int32) * x2)) x5) q65 (Int32.toNatClampNeg (((2 : Int32) * x2) + (1 : Int32))) r51) fun S_67 => k29 a0 (x2 + 1) v62 S_67))
set_option maxHeartbeats 4000000 in
set_option maxRecDepth 100000 in
theorem wb_X12_book_125 {p : Program} {l : Launch} {e : Env} {s : State} {m : MethodId} {args : Array Value} {below : List Frame} {meth : Method} {c : Code} (cx : Cx p s m args meth c cX12_book 7 RX12 (some .int)) (C : pq_C) (X : va_W) (S0 : pq_S) (n : Nat) (r : Int32) (S1 : pq_S) (k29 : Nat → Int32 → Int32 → pq_S → Option (Int32 × pq_S)) (hk29 : ∀ (a0 : Nat) (x2 : Int32) (x3 : Int32) (S : pq_S) (H : Heap) (locs : List Loc) (ls : Array Slot), PW C X S (pq_F C X S0 s.heap.size) H locs s → Ext S0 S → TY S a0 12 → lv_has ls 7 [(0, .ref a0), (2, .int x2), (3, .int x3)] → k29 a0 x2 x3 S = some (r, S1) → W p l e rm_X12_book s m args below meth c H locs 0 0 (MQ below (QcI C X S0 s.heap.size r S1) args s 0 0 (pq_F C X S0 s.heap.size)) (F0 m 48 ls [])) : ∀ (a0 : Nat) (x2 : Int32) (x3 : Int32) (x5 : Int32) (S : pq_S) (H : Heap) (locs : List Loc) (ls : Array Slot), PW C X S (pq_F C X S0 s.heap.size) H locs s → Ext S0 S → TY S a0 12 → lv_has ls 7 [(0, .ref a0), (2, .int x2), (3, .int x3), (5, .int x5)] → b_X12_book_125 n k29 a0 x2 x3 x5 S = some (r, S1) → W p l e rm_X12_book s m args below meth c H locs 0 0 (MQ below (QcI C X S0 s.heap.size r S1) args s 0 0 (pq_F C X S0 s.heap.size)) (F0 m 125 ls []) := by
  obtain ⟨hx, hb, hml, hown, hU, hr, hlk⟩ := id cx
  intro a0 x2 x3 x5 S H locs ls hw hE Ta0 hl hm
  rw [b_X12_book_125] at hm
  refine lv_aload_n hx hb dX12_book_125 rfl (lv_at hl 0 rfl) ?_
  refine lv_iconst (v := 0) hx hb dX12_book_126 (by decide) ?_
  refine lv_bipush (v := 99) hx hb dX12_book_127 (by decide) ?_
  obtain ⟨r51, S_49, hq50, hm⟩ := cb_some hm
  refine pw_ci (va_runV (As := [.int 0, .int 99]) (rest := []) ⟨hx, hb, hml, hown, hU⟩ (c_X12_readNumber l C X n S hw.wf _ a0 0 99 (Ta0) r51 S_49 hq50) (cwV 2 hU (pq_gV tw1757 tw1759 ts133 tw14 tc_X12_readNumber) rfl rfl rfl cd_X12_readNumber ⟨Nat.le_of_ble_eq_true rfl, Nat.le_of_ble_eq_true rfl⟩) (pw_preV hw Ta0 (by decide) rfl) rfl rfl hl.1 rfl (lv_room (Nat.le_of_ble_eq_true rfl)) dX12_book_129 ⟨Nat.zero_le _, Nat.zero_le _⟩) hw (fun H locs hw hx52 => ?_)
  have Ta0 : TY S_49 a0 12 := ty_ext hx52 Ta0
  have hE : Ext S0 S_49 := Ext.tr hE hx52
  refine lv_istore (lv' := [(6, .int r51), (0, .ref a0), (2, .int x2), (3, .int x3), (5, .int x5)]) hx hb dX12_book_132 hl (by decide) rfl (fun ls hl => ?_)
  refine lv_aload_n hx hb dX12_book_134 rfl (lv_at hl 1 rfl) ?_
  refine lv_bipush (v := 59) hx hb dX12_book_135 (by decide) ?_
  obtain ⟨S_53, hq54, hm⟩ := bd_some hm
  refine pw_cv (va_runV (As := [.int 59]) (rest := []) ⟨hx, hb, hml, hown, hU⟩ (c_X12_sign l C X n S_49 hw.wf _ a0 59 (Ta0) S_53 hq54) (cwV 1 hU (pq_gV tw1764 tw1766 ts134 tw14 tc_X12_sign) rfl rfl rfl cd_X12_sign ⟨Nat.le_of_ble_eq_true rfl, Nat.le_of_ble_eq_true rfl⟩) (pw_preV hw Ta0 (by decide) rfl) rfl rfl hl.1 rfl (lv_room (Nat.le_of_ble_eq_true rfl)) dX12_book_137 ⟨Nat.zero_le _, Nat.zero_le _⟩) hw (fun H locs hw hx55 => ?_)
  have Ta0 : TY S_53 a0 12 := ty_ext hx55 Ta0
  have hE : Ext S0 S_53 := Ext.tr hE hx55
  refine lv_aload_n hx hb dX12_book_140 rfl (lv_at hl 1 rfl) ?_
  obtain ⟨r58, S_56, hq57, hm⟩ := cb_some hm
  refine pw_cz (va_runV (As := []) (rest := []) ⟨hx, hb, hml, hown, hU⟩ (c_X12_fine l C X n S_53 hw.wf _ a0 (Ta0) r58 S_56 hq57) (cwV 0 hU (pq_gV tw1711 tw1713 ts125 tw14 tc_X12_fine) rfl rfl rfl cd_X12_fine ⟨Nat.le_of_ble_eq_true rfl, Nat.le_of_ble_eq_true rfl⟩) (pw_preV hw Ta0 (by decide) rfl) rfl rfl hl.1 rfl (lv_room (Nat.le_of_ble_eq_true rfl)) dX12_book_141 ⟨Nat.zero_le _, Nat.zero_le _⟩) hw (fun H locs hw hx59 hz60 => ?_)
  have Ta0 : TY S_56 a0 12 := ty_ext hx59 Ta0
  have hE : Ext S0 S_56 := Ext.tr hE hx59
  refine lv_if_ne (tgt := 150) hx hb dX12_book_144 (by decide) (fun h61 => ?_) (fun h61 => ?_)
  · rw [if_neg h61] at hm
    refine lv_iload_n hx hb dX12_book_150 rfl (lv_at hl 3 rfl) ?_
    refine lv_iconst (v := 1) hx hb dX12_book_151 (by decide) ?_
    refine lv_iload hx hb dX12_book_152 (lv_at hl 4 rfl) ?_
    refine lv_ishl hx hb dX12_book_154 ?_
    refine lv_ior hx hb dX12_book_155 ?_
    obtain ⟨v62, ev62, hm⟩ := lt_some hm
    refine lv_nmI ev62 ?_
    refine lv_istore_n (lv' := [(3, .int v62), (6, .int r51), (0, .ref a0), (2, .int x2), (5, .int x5)]) hx hb dX12_book_156 rfl hl (by decide) rfl (fun ls hl => ?_)
    refine lv_aload_n hx hb dX12_book_157 rfl (lv_at hl 2 rfl) ?_
    obtain ⟨q63, hq63, hm⟩ := bd_some hm
    have Tq63 : TY S_56 q63 14 := hw.wf.ref (k := 12) (j := 49) Ta0 (by decide) (by decide) hq63
    refine pg_rb (k := 12) (j := 49) (f := 1249) hx hb hown hU iu12 hw Ta0 (by decide) rfl (hU _ tw1520) rfl hq63 dX12_book_158 ?_
    refine lv_iconst (v := 2) hx hb dX12_book_161 (by decide) ?_
    refine lv_iload_n hx hb dX12_book_162 rfl (lv_at hl 3 rfl) ?_
    refine lv_imul hx hb dX12_book_163 ?_
    refine lv_iload hx hb dX12_book_164 (lv_at hl 4 rfl) ?_
    obtain ⟨hi64, hm⟩ := ck_some hm
    refine pw_iast hx hb hw Tq63 hi64 dX12_book_166 (fun H locs hw => ?_)
    refine lv_aload_n hx hb dX12_book_167 rfl (lv_at hl 2 rfl) ?_
    obtain ⟨q65, hq65, hm⟩ := bd_some hm
    have Tq65 : TY (sA S_56 q63 (Int32.toNatClampNeg ((2 : Int32) * x2)) x5) q65 14 := hw.wf.ref (k := 12) (j := 49) Ta0 (by decide) (by decide) hq65
    refine pg_rb (k := 12) (j := 49) (f := 1249) hx hb hown hU iu12 hw Ta0 (by decide) rfl (hU _ tw1520) rfl hq65 dX12_book_168 ?_
    refine lv_iconst (v := 2) hx hb dX12_book_171 (by decide) ?_
    refine lv_iload_n hx hb dX12_book_172 rfl (lv_at hl 3 rfl) ?_
    refine lv_imul hx hb dX12_book_173 ?_
    refine lv_iconst (v := 1) hx hb dX12_book_174 (by decide) ?_
    refine lv_iadd hx hb dX12_book_175 ?_
    refine lv_iload hx hb dX12_book_176 (lv_at hl 1 rfl) ?_
    obtain ⟨hi66, hm⟩ := ck_some hm
    refine pw_iast hx hb hw Tq65 hi66 dX12_book_178 (fun H locs hw => ?_)
    obtain ⟨S_67, eS_67, hm⟩ := lt_some hm
    rw [← eS_67] at hw
    have Ta0 : TY S_67 a0 12 := by rw [eS_67]; exact Ta0
    have hE : Ext S0 S_67 := by rw [eS_67]; exact hE
    refine lv_iinc (v := (x2 + 1)) (lv' := [(2, .int (x2 + 1)), (3, .int v62), (6, .int r51), (0, .ref a0), (5, .int x5)]) hx hb dX12_book_179 hl (k := 3) rfl rfl (by decide) rfl (fun ls hl => ?_)
    refine lv_goto (tgt := 48) hx hb dX12_book_182 (by decide) ?_
    exact hk29 a0 (x2 + 1) v62 S_67 _ _ _ hw hE Ta0 (lv_sub hl [3, 0, 1] rfl) hm
  · rw [if_pos h61] at hm
    exact wb_X12_book_147 cx C X S0 n r S1 a0 x2 S_56 _ _ _ hw hE Ta0 (lv_sub hl [1, 2] rfl) hm
def b_X12_book_105 (n : Nat) (k29 : Nat → Int32 → Int32 → pq_S → Option (Int32 × pq_S)) (a0 : Nat) (x2 : Int32) (x3 : Int32) (x4 : Int32) (x5 : Int32) (S : pq_S) : Option (Int32 × pq_S) := cb (m_X12_fine n a0 S) fun r41 S_39 => if r41 = 0 then b_X12_book_125 n k29 a0 x2 x3 x5 S_39 else if x2 = 6 then Option.bind (m_X12_wrong n a0 3 x4 S_39) fun S_46 => b_X12_book_125 n k29 a0 x2 x3 x5 S_46 else b_X12_book_125 n k29 a0 x2 x3 x5 S_39
set_option maxHeartbeats 4000000 in
set_option maxRecDepth 100000 in
theorem wb_X12_book_105 {p : Program} {l : Launch} {e : Env} {s : State} {m : MethodId} {args : Array Value} {below : List Frame} {meth : Method} {c : Code} (cx : Cx p s m args meth c cX12_book 7 RX12 (some .int)) (C : pq_C) (X : va_W) (S0 : pq_S) (n : Nat) (r : Int32) (S1 : pq_S) (k29 : Nat → Int32 → Int32 → pq_S → Option (Int32 × pq_S)) (hk29 : ∀ (a0 : Nat) (x2 : Int32) (x3 : Int32) (S : pq_S) (H : Heap) (locs : List Loc) (ls : Array Slot), PW C X S (pq_F C X S0 s.heap.size) H locs s → Ext S0 S → TY S a0 12 → lv_has ls 7 [(0, .ref a0), (2, .int x2), (3, .int x3)] → k29 a0 x2 x3 S = some (r, S1) → W p l e rm_X12_book s m args below meth c H locs 0 0 (MQ below (QcI C X S0 s.heap.size r S1) args s 0 0 (pq_F C X S0 s.heap.size)) (F0 m 48 ls [])) : ∀ (a0 : Nat) (x2 : Int32) (x3 : Int32) (x4 : Int32) (x5 : Int32) (S : pq_S) (H : Heap) (locs : List Loc) (ls : Array Slot), PW C X S (pq_F C X S0 s.heap.size) H locs s → Ext S0 S → TY S a0 12 → lv_has ls 7 [(0, .ref a0), (2, .int x2), (3, .int x3), (4, .int x4), (5, .int x5)] → b_X12_book_105 n k29 a0 x2 x3 x4 x5 S = some (r, S1) → W p l e rm_X12_book s m args below meth c H locs 0 0 (MQ below (QcI C X S0 s.heap.size r S1) args s 0 0 (pq_F C X S0 s.heap.size)) (F0 m 105 ls []) := by
  obtain ⟨hx, hb, hml, hown, hU, hr, hlk⟩ := id cx
  intro a0 x2 x3 x4 x5 S H locs ls hw hE Ta0 hl hm
  rw [b_X12_book_105] at hm
  refine lv_aload_n hx hb dX12_book_105 rfl (lv_at hl 0 rfl) ?_
  obtain ⟨r41, S_39, hq40, hm⟩ := cb_some hm
  refine pw_cz (va_runV (As := []) (rest := []) ⟨hx, hb, hml, hown, hU⟩ (c_X12_fine l C X n S hw.wf _ a0 (Ta0) r41 S_39 hq40) (cwV 0 hU (pq_gV tw1711 tw1713 ts125 tw14 tc_X12_fine) rfl rfl rfl cd_X12_fine ⟨Nat.le_of_ble_eq_true rfl, Nat.le_of_ble_eq_true rfl⟩) (pw_preV hw Ta0 (by decide) rfl) rfl rfl hl.1 rfl (lv_room (Nat.le_of_ble_eq_true rfl)) dX12_book_106 ⟨Nat.zero_le _, Nat.zero_le _⟩) hw (fun H locs hw hx42 hz43 => ?_)
  have Ta0 : TY S_39 a0 12 := ty_ext hx42 Ta0
  have hE : Ext S0 S_39 := Ext.tr hE hx42
  refine lv_if_eq (tgt := 125) hx hb dX12_book_109 (by decide) (fun h44 => ?_) (fun h44 => ?_)
  · rw [if_pos h44] at hm
    exact wb_X12_book_125 cx C X S0 n r S1 _ hk29 a0 x2 x3 x5 S_39 _ _ _ hw hE Ta0 (lv_sub hl [0, 1, 2, 4] rfl) hm
  · rw [if_neg h44] at hm
    refine lv_iload_n hx hb dX12_book_112 rfl (lv_at hl 1 rfl) ?_
    refine lv_bipush (v := 6) hx hb dX12_book_113 (by decide) ?_
    refine lv_icmp_ne (tgt := 125) hx hb dX12_book_115 (by decide) (fun h45 => ?_) (fun h45 => ?_)
    · rw [if_neg h45] at hm
      exact wb_X12_book_125 cx C X S0 n r S1 _ hk29 a0 x2 x3 x5 S_39 _ _ _ hw hE Ta0 (lv_sub hl [0, 1, 2, 4] rfl) hm
    · rw [if_pos h45] at hm
      refine lv_aload_n hx hb dX12_book_118 rfl (lv_at hl 0 rfl) ?_
      refine lv_iconst (v := 3) hx hb dX12_book_119 (by decide) ?_
      refine lv_iload hx hb dX12_book_120 (lv_at hl 3 rfl) ?_
      obtain ⟨S_46, hq47, hm⟩ := bd_some hm
      refine pw_cv (va_runV (As := [.int 3, .int x4]) (rest := []) ⟨hx, hb, hml, hown, hU⟩ (c_X12_wrong l C X n S_39 hw.wf _ a0 3 x4 (Ta0) S_46 hq47) (cwV 2 hU (pq_gV tw1741 tw1743 ts129 tw14 tc_X12_wrong) rfl rfl rfl cd_X12_wrong ⟨Nat.le_of_ble_eq_true rfl, Nat.le_of_ble_eq_true rfl⟩) (pw_preV hw Ta0 (by decide) rfl) rfl rfl hl.1 rfl (lv_room (Nat.le_of_ble_eq_true rfl)) dX12_book_122 ⟨Nat.zero_le _, Nat.zero_le _⟩) hw (fun H locs hw hx48 => ?_)
      have Ta0 : TY S_46 a0 12 := ty_ext hx48 Ta0
      have hE : Ext S0 S_46 := Ext.tr hE hx48
      exact wb_X12_book_125 cx C X S0 n r S1 _ hk29 a0 x2 x3 x5 S_46 _ _ _ hw hE Ta0 (lv_sub hl [0, 1, 2, 4] rfl) hm
def b_X12_book_48 (n : Nat) : Nat → Nat → Int32 → Int32 → pq_S → Option (Int32 × pq_S)
  | 0, _, _, _, _ => none
  | f + 1, a0, x2, x3, S => cb (m_X12_fine n a0 S) fun r15 S_13 => if r15 = 0 then b_X12_book_185 n a0 x2 S_13 else cb (m_X12_isMore n a0 S_13) fun r21 S_19 => if r21 = 0 then b_X12_book_185 n a0 x2 S_19 else cb (m_X12_readNumber n a0 0 ((pI S_19 1224 a0) - (1 : Int32)) S_19) fun r27 S_25 => cb (m_X12_fine n a0 S_25) fun r31 S_29 => if r31 = 0 then b_X12_book_105 n (b_X12_book_48 n f) a0 x2 x3 (pI S_19 1204 a0) r27 S_29 else if ((x3 >>> (r27 &&& (31 : Int32))) &&& (1 : Int32)) = 1 then Option.bind (m_X12_wrong n a0 2 (pI S_19 1204 a0) S_29) fun S_36 => b_X12_book_105 n (b_X12_book_48 n f) a0 x2 x3 (pI S_19 1204 a0) r27 S_36 else b_X12_book_105 n (b_X12_book_48 n f) a0 x2 x3 (pI S_19 1204 a0) r27 S_29
set_option maxHeartbeats 4000000 in
set_option maxRecDepth 100000 in
theorem wb_X12_book_48 {p : Program} {l : Launch} {e : Env} {s : State} {m : MethodId} {args : Array Value} {below : List Frame} {meth : Method} {c : Code} (cx : Cx p s m args meth c cX12_book 7 RX12 (some .int)) (C : pq_C) (X : va_W) (S0 : pq_S) (n : Nat) (r : Int32) (S1 : pq_S) : ∀ (f : Nat) (a0 : Nat) (x2 : Int32) (x3 : Int32) (S : pq_S) (H : Heap) (locs : List Loc) (ls : Array Slot), PW C X S (pq_F C X S0 s.heap.size) H locs s → Ext S0 S → TY S a0 12 → lv_has ls 7 [(0, .ref a0), (2, .int x2), (3, .int x3)] → b_X12_book_48 n f a0 x2 x3 S = some (r, S1) → W p l e rm_X12_book s m args below meth c H locs 0 0 (MQ below (QcI C X S0 s.heap.size r S1) args s 0 0 (pq_F C X S0 s.heap.size)) (F0 m 48 ls []) := by
  obtain ⟨hx, hb, hml, hown, hU, hr, hlk⟩ := id cx
  intro f
  induction f with
  | zero =>
    intro a0 x2 x3 S H locs ls hw hE Ta0 hl hm
    cases hm
  | succ f ih =>
    intro a0 x2 x3 S H locs ls hw hE Ta0 hl hm
    rw [b_X12_book_48] at hm
    refine lv_aload_n hx hb dX12_book_48 rfl (lv_at hl 0 rfl) ?_
    obtain ⟨r15, S_13, hq14, hm⟩ := cb_some hm
    refine pw_cz (va_runV (As := []) (rest := []) ⟨hx, hb, hml, hown, hU⟩ (c_X12_fine l C X n S hw.wf _ a0 (Ta0) r15 S_13 hq14) (cwV 0 hU (pq_gV tw1711 tw1713 ts125 tw14 tc_X12_fine) rfl rfl rfl cd_X12_fine ⟨Nat.le_of_ble_eq_true rfl, Nat.le_of_ble_eq_true rfl⟩) (pw_preV hw Ta0 (by decide) rfl) rfl rfl hl.1 rfl (lv_room (Nat.le_of_ble_eq_true rfl)) dX12_book_49 ⟨Nat.zero_le _, Nat.zero_le _⟩) hw (fun H locs hw hx16 hz17 => ?_)
    have Ta0 : TY S_13 a0 12 := ty_ext hx16 Ta0
    have hE : Ext S0 S_13 := Ext.tr hE hx16
    refine lv_if_eq (tgt := 185) hx hb dX12_book_52 (by decide) (fun h18 => ?_) (fun h18 => ?_)
    · rw [if_pos h18] at hm
      exact wb_X12_book_185 cx C X S0 n r S1 a0 x2 S_13 _ _ _ hw hE Ta0 (lv_sub hl [0, 1] rfl) hm
    · rw [if_neg h18] at hm
      refine lv_aload_n hx hb dX12_book_55 rfl (lv_at hl 0 rfl) ?_
      obtain ⟨r21, S_19, hq20, hm⟩ := cb_some hm
      refine pw_cz (va_runV (As := []) (rest := []) ⟨hx, hb, hml, hown, hU⟩ (c_X12_isMore l C X n S_13 hw.wf _ a0 (Ta0) r21 S_19 hq20) (cwV 0 hU (pq_gV tw1715 tw1717 ts126 tw14 tc_X12_isMore) rfl rfl rfl cd_X12_isMore ⟨Nat.le_of_ble_eq_true rfl, Nat.le_of_ble_eq_true rfl⟩) (pw_preV hw Ta0 (by decide) rfl) rfl rfl hl.1 rfl (lv_room (Nat.le_of_ble_eq_true rfl)) dX12_book_56 ⟨Nat.zero_le _, Nat.zero_le _⟩) hw (fun H locs hw hx22 hz23 => ?_)
      have Ta0 : TY S_19 a0 12 := ty_ext hx22 Ta0
      have hE : Ext S0 S_19 := Ext.tr hE hx22
      refine lv_if_eq (tgt := 185) hx hb dX12_book_59 (by decide) (fun h24 => ?_) (fun h24 => ?_)
      · rw [if_pos h24] at hm
        exact wb_X12_book_185 cx C X S0 n r S1 a0 x2 S_19 _ _ _ hw hE Ta0 (lv_sub hl [0, 1] rfl) hm
      · rw [if_neg h24] at hm
        refine lv_aload_n hx hb dX12_book_62 rfl (lv_at hl 0 rfl) ?_
        refine pg_i (k := 12) (j := 4) (f := 1204) hx hb hown hU iu12 hw Ta0 (by decide) rfl (hU _ tw1475) rfl dX12_book_63 ?_
        refine lv_istore (lv' := [(4, .int (pI S_19 1204 a0)), (0, .ref a0), (2, .int x2), (3, .int x3)]) hx hb dX12_book_66 hl (by decide) rfl (fun ls hl => ?_)
        refine lv_aload_n hx hb dX12_book_68 rfl (lv_at hl 1 rfl) ?_
        refine lv_iconst (v := 0) hx hb dX12_book_69 (by decide) ?_
        refine lv_aload_n hx hb dX12_book_70 rfl (lv_at hl 1 rfl) ?_
        refine pg_i (k := 12) (j := 24) (f := 1224) hx hb hown hU iu12 hw Ta0 (by decide) rfl (hU _ tw1495) rfl dX12_book_71 ?_
        refine lv_iconst (v := 1) hx hb dX12_book_74 (by decide) ?_
        refine lv_isub hx hb dX12_book_75 ?_
        obtain ⟨r27, S_25, hq26, hm⟩ := cb_some hm
        refine pw_ci (va_runV (As := [.int 0, .int ((pI S_19 1224 a0) - (1 : Int32))]) (rest := []) ⟨hx, hb, hml, hown, hU⟩ (c_X12_readNumber l C X n S_19 hw.wf _ a0 0 ((pI S_19 1224 a0) - (1 : Int32)) (Ta0) r27 S_25 hq26) (cwV 2 hU (pq_gV tw1757 tw1759 ts133 tw14 tc_X12_readNumber) rfl rfl rfl cd_X12_readNumber ⟨Nat.le_of_ble_eq_true rfl, Nat.le_of_ble_eq_true rfl⟩) (pw_preV hw Ta0 (by decide) rfl) rfl rfl hl.1 rfl (lv_room (Nat.le_of_ble_eq_true rfl)) dX12_book_76 ⟨Nat.zero_le _, Nat.zero_le _⟩) hw (fun H locs hw hx28 => ?_)
        have Ta0 : TY S_25 a0 12 := ty_ext hx28 Ta0
        have hE : Ext S0 S_25 := Ext.tr hE hx28
        refine lv_istore (lv' := [(5, .int r27), (4, .int (pI S_19 1204 a0)), (0, .ref a0), (2, .int x2), (3, .int x3)]) hx hb dX12_book_79 hl (by decide) rfl (fun ls hl => ?_)
        refine lv_aload_n hx hb dX12_book_81 rfl (lv_at hl 2 rfl) ?_
        obtain ⟨r31, S_29, hq30, hm⟩ := cb_some hm
        refine pw_cz (va_runV (As := []) (rest := []) ⟨hx, hb, hml, hown, hU⟩ (c_X12_fine l C X n S_25 hw.wf _ a0 (Ta0) r31 S_29 hq30) (cwV 0 hU (pq_gV tw1711 tw1713 ts125 tw14 tc_X12_fine) rfl rfl rfl cd_X12_fine ⟨Nat.le_of_ble_eq_true rfl, Nat.le_of_ble_eq_true rfl⟩) (pw_preV hw Ta0 (by decide) rfl) rfl rfl hl.1 rfl (lv_room (Nat.le_of_ble_eq_true rfl)) dX12_book_82 ⟨Nat.zero_le _, Nat.zero_le _⟩) hw (fun H locs hw hx32 hz33 => ?_)
        have Ta0 : TY S_29 a0 12 := ty_ext hx32 Ta0
        have hE : Ext S0 S_29 := Ext.tr hE hx32
        refine lv_if_eq (tgt := 105) hx hb dX12_book_85 (by decide) (fun h34 => ?_) (fun h34 => ?_)
        · rw [if_pos h34] at hm
          exact wb_X12_book_105 cx C X S0 n r S1 _ ih a0 x2 x3 (pI S_19 1204 a0) r27 S_29 _ _ _ hw hE Ta0 (lv_sub hl [2, 3, 4, 1, 0] rfl) hm
        · rw [if_neg h34] at hm
          refine lv_iload_n hx hb dX12_book_88 rfl (lv_at hl 4 rfl) ?_
          refine lv_iload hx hb dX12_book_89 (lv_at hl 0 rfl) ?_
          refine lv_ishr hx hb dX12_book_91 ?_
          refine lv_iconst (v := 1) hx hb dX12_book_92 (by decide) ?_
          refine lv_iand hx hb dX12_book_93 ?_
          refine lv_iconst (v := 1) hx hb dX12_book_94 (by decide) ?_
          refine lv_icmp_ne (tgt := 105) hx hb dX12_book_95 (by decide) (fun h35 => ?_) (fun h35 => ?_)
          · rw [if_neg h35] at hm
            exact wb_X12_book_105 cx C X S0 n r S1 _ ih a0 x2 x3 (pI S_19 1204 a0) r27 S_29 _ _ _ hw hE Ta0 (lv_sub hl [2, 3, 4, 1, 0] rfl) hm
          · rw [if_pos h35] at hm
            refine lv_aload_n hx hb dX12_book_98 rfl (lv_at hl 2 rfl) ?_
            refine lv_iconst (v := 2) hx hb dX12_book_99 (by decide) ?_
            refine lv_iload hx hb dX12_book_100 (lv_at hl 1 rfl) ?_
            obtain ⟨S_36, hq37, hm⟩ := bd_some hm
            refine pw_cv (va_runV (As := [.int 2, .int (pI S_19 1204 a0)]) (rest := []) ⟨hx, hb, hml, hown, hU⟩ (c_X12_wrong l C X n S_29 hw.wf _ a0 2 (pI S_19 1204 a0) (Ta0) S_36 hq37) (cwV 2 hU (pq_gV tw1741 tw1743 ts129 tw14 tc_X12_wrong) rfl rfl rfl cd_X12_wrong ⟨Nat.le_of_ble_eq_true rfl, Nat.le_of_ble_eq_true rfl⟩) (pw_preV hw Ta0 (by decide) rfl) rfl rfl hl.1 rfl (lv_room (Nat.le_of_ble_eq_true rfl)) dX12_book_102 ⟨Nat.zero_le _, Nat.zero_le _⟩) hw (fun H locs hw hx38 => ?_)
            have Ta0 : TY S_36 a0 12 := ty_ext hx38 Ta0
            have hE : Ext S0 S_36 := Ext.tr hE hx38
            exact wb_X12_book_105 cx C X S0 n r S1 _ ih a0 x2 x3 (pI S_19 1204 a0) r27 S_36 _ _ _ hw hE Ta0 (lv_sub hl [2, 3, 4, 1, 0] rfl) hm
def b_X12_book_29 (n : Nat) (a0 : Nat) (x1 : Int32) (b0 : Nat) (z1 : Int32) (S : pq_S) : Option (Int32 × pq_S) := cb (m_X12_may n b0 z1 1 1 S) fun r6 S_4 => if r6 = 0 then some (0, S_4) else Option.bind (m_X12_begins n a0 x1 S_4) fun S_10 => b_X12_book_48 n n a0 0 0 S_10
set_option maxHeartbeats 4000000 in
set_option maxRecDepth 100000 in
theorem wb_X12_book_29 {p : Program} {l : Launch} {e : Env} {s : State} {m : MethodId} {args : Array Value} {below : List Frame} {meth : Method} {c : Code} (cx : Cx p s m args meth c cX12_book 7 RX12 (some .int)) (C : pq_C) (X : va_W) (S0 : pq_S) (n : Nat) (r : Int32) (S1 : pq_S) : ∀ (a0 : Nat) (x1 : Int32) (b0 : Nat) (z1 : Int32) (S : pq_S) (H : Heap) (locs : List Loc) (ls : Array Slot), PW C X S (pq_F C X S0 s.heap.size) H locs s → Ext S0 S → TY S a0 12 → TY S b0 12 → lv_has ls 7 [(0, .ref a0), (1, .int x1)] → b_X12_book_29 n a0 x1 b0 z1 S = some (r, S1) → W p l e rm_X12_book s m args below meth c H locs 0 0 (MQ below (QcI C X S0 s.heap.size r S1) args s 0 0 (pq_F C X S0 s.heap.size)) (F0 m 29 ls [.int z1, .ref b0]) := by
  obtain ⟨hx, hb, hml, hown, hU, hr, hlk⟩ := id cx
  intro a0 x1 b0 z1 S H locs ls hw hE Ta0 Tb0 hl hm
  rw [b_X12_book_29] at hm
  refine lv_iconst (v := 1) hx hb dX12_book_29 (by decide) ?_
  refine lv_iconst (v := 1) hx hb dX12_book_30 (by decide) ?_
  obtain ⟨r6, S_4, hq5, hm⟩ := cb_some hm
  refine pw_cz (va_runV (As := [.int z1, .int 1, .int 1]) (rest := []) ⟨hx, hb, hml, hown, hU⟩ (c_X12_may l C X n S hw.wf _ b0 z1 1 1 (Tb0) r6 S_4 hq5) (cwV 3 hU (pq_gV tw1703 tw1705 ts123 tw14 tc_X12_may) rfl rfl rfl cd_X12_may ⟨Nat.le_of_ble_eq_true rfl, Nat.le_of_ble_eq_true rfl⟩) (pw_preV hw Tb0 (by decide) rfl) rfl rfl hl.1 rfl (lv_room (Nat.le_of_ble_eq_true rfl)) dX12_book_31 ⟨Nat.zero_le _, Nat.zero_le _⟩) hw (fun H locs hw hx7 hz8 => ?_)
  have Ta0 : TY S_4 a0 12 := ty_ext hx7 Ta0
  have hE : Ext S0 S_4 := Ext.tr hE hx7
  refine lv_if_ne (tgt := 39) hx hb dX12_book_34 (by decide) (fun h9 => ?_) (fun h9 => ?_)
  · rw [if_neg h9] at hm
    refine lv_aload_n hx hb dX12_book_39 rfl (lv_at hl 0 rfl) ?_
    refine lv_iload_n hx hb dX12_book_40 rfl (lv_at hl 1 rfl) ?_
    obtain ⟨S_10, hq11, hm⟩ := bd_some hm
    refine pw_cv (va_runV (As := [.int x1]) (rest := []) ⟨hx, hb, hml, hown, hU⟩ (c_X12_begins l C X n S_4 hw.wf _ a0 x1 (Ta0) S_10 hq11) (cwV 1 hU (pq_gV tw1707 tw1709 ts124 tw14 tc_X12_begins) rfl rfl rfl cd_X12_begins ⟨Nat.le_of_ble_eq_true rfl, Nat.le_of_ble_eq_true rfl⟩) (pw_preV hw Ta0 (by decide) rfl) rfl rfl hl.1 rfl (lv_room (Nat.le_of_ble_eq_true rfl)) dX12_book_41 ⟨Nat.zero_le _, Nat.zero_le _⟩) hw (fun H locs hw hx12 => ?_)
    have Ta0 : TY S_10 a0 12 := ty_ext hx12 Ta0
    have hE : Ext S0 S_10 := Ext.tr hE hx12
    refine lv_iconst (v := 0) hx hb dX12_book_44 (by decide) ?_
    refine lv_istore_n (lv' := [(2, .int 0), (0, .ref a0), (1, .int x1)]) hx hb dX12_book_45 rfl hl (by decide) rfl (fun ls hl => ?_)
    refine lv_iconst (v := 0) hx hb dX12_book_46 (by decide) ?_
    refine lv_istore_n (lv' := [(3, .int 0), (2, .int 0), (0, .ref a0), (1, .int x1)]) hx hb dX12_book_47 rfl hl (by decide) rfl (fun ls hl => ?_)
    exact wb_X12_book_48 cx C X S0 n r S1 n a0 0 0 S_10 _ _ _ hw hE Ta0 (lv_sub hl [2, 1, 0] rfl) hm
  · rw [if_pos h9] at hm
    refine lv_iconst (v := 0) hx hb dX12_book_37 (by decide) ?_
    cases hm
    exact pw_iret hx hb hr rfl hlk hw hE dX12_book_38
def b_X12_book_28 (n : Nat) (a0 : Nat) (x1 : Int32) (b0 : Nat) (S : pq_S) : Option (Int32 × pq_S) := b_X12_book_29 n a0 x1 b0 0 S
set_option maxHeartbeats 4000000 in
set_option maxRecDepth 100000 in
theorem wb_X12_book_28 {p : Program} {l : Launch} {e : Env} {s : State} {m : MethodId} {args : Array Value} {below : List Frame} {meth : Method} {c : Code} (cx : Cx p s m args meth c cX12_book 7 RX12 (some .int)) (C : pq_C) (X : va_W) (S0 : pq_S) (n : Nat) (r : Int32) (S1 : pq_S) : ∀ (a0 : Nat) (x1 : Int32) (b0 : Nat) (S : pq_S) (H : Heap) (locs : List Loc) (ls : Array Slot), PW C X S (pq_F C X S0 s.heap.size) H locs s → Ext S0 S → TY S a0 12 → TY S b0 12 → lv_has ls 7 [(0, .ref a0), (1, .int x1)] → b_X12_book_28 n a0 x1 b0 S = some (r, S1) → W p l e rm_X12_book s m args below meth c H locs 0 0 (MQ below (QcI C X S0 s.heap.size r S1) args s 0 0 (pq_F C X S0 s.heap.size)) (F0 m 28 ls [.ref b0]) := by
  obtain ⟨hx, hb, hml, hown, hU, hr, hlk⟩ := id cx
  intro a0 x1 b0 S H locs ls hw hE Ta0 Tb0 hl hm
  rw [b_X12_book_28] at hm
  refine lv_iconst (v := 0) hx hb dX12_book_28 (by decide) ?_
  exact wb_X12_book_29 cx C X S0 n r S1 a0 x1 b0 0 S _ _ _ hw hE Ta0 Tb0 (lv_sub hl [0, 1] rfl) hm
def m_X12_book (n : Nat) (a0 : Nat) (x1 : Int32) (S0 : pq_S) : Option (Int32 × pq_S) := if x1 < 0 then b_X12_book_28 n a0 x1 a0 (sI S0 1200 a0 0) else if (pI (sI S0 1200 a0 0) 1202 a0) < x1 then b_X12_book_28 n a0 x1 a0 (sI S0 1200 a0 0) else if 100 < x1 then b_X12_book_28 n a0 x1 a0 (sI S0 1200 a0 0) else b_X12_book_29 n a0 x1 a0 1 (sI S0 1200 a0 0)
theorem tc_X12_book : Cond.code yX12_book cX12_book 7 (some .int) ∈ pq_U := tw1901
theorem cd_X12_book : yX12_book.cls = RX12 ∧ yX12_book.cls ≠ "java/lang/invoke/MethodHandle" ∧ yX12_book.cls ≠ "java/lang/invoke/VarHandle" ∧ (parseMethodDescriptor yX12_book.desc).map (fun d => d.parameters.length) = some 1 := by decide +kernel
set_option maxHeartbeats 4000000 in
set_option maxRecDepth 100000 in
theorem c_X12_book (l : Launch) (C : pq_C) (X : va_W) (n : Nat) (S0 : pq_S) (hF : WF S0) (sz : Nat) (a0 : Nat) (x1 : Int32) (Ta0 : TY S0 a0 12) (r : Int32) (S1 : pq_S) (hm : m_X12_book n a0 x1 S0 = some (r, S1)) : MI l yX12_book (.code yX12_book cX12_book 7 (some .int) :: pq_U) rm_X12_book C X S0 sz [.ref a0, .int x1] r S1 0 0 := by
  refine Met.ofW (cc := cX12_book) (maxL := 7) (ret := (some .int)) (by decide) rfl ?_
  intro p e s m args below meth c s₁ B hml hv
  obtain ⟨rfl, hv⟩ := hv
  have hsz := hv.1
  subst hsz
  have hw := pw_entry hF hv
  have hts := atoms_spec (ws := .code yX12_book cX12_book 7 (some .int) :: pq_U) B.pre
  have hU : ∀ w ∈ pq_U, w.before _ s = true := fun w h => hts w (List.mem_cons_of_mem _ h)
  have hx := B.exec
  have hb := B.bytes
  have hr := B.returns
  have hown : s.vm.findClass RX12 = some m.cls := findClass_of_methodNamed B.named
  have hlk := B.notSynchronized
  have hl := lv_entry ([.ref a0, .int x1]) (n := 7) (Nat.le_of_ble_eq_true rfl)
  rw [lg_entry_eq]
  generalize (lg_sl ([.ref a0, .int x1]) ++ List.replicate (7 - (lg_sl ([.ref a0, .int x1])).length) Slot.unset).toArray = ls at hl ⊢
  have hl : lv_has ls 7 [(0, .ref a0), (1, .int x1)] := hl
  have hE : Ext S0 S0 := Ext.rf _
  have cx : Cx p s m _ meth c cX12_book 7 RX12 (some .int) := ⟨hx, hb, hml, hown, hU, hr, hlk⟩
  rw [m_X12_book] at hm
  refine lv_aload_n hx hb dX12_book_0 rfl (lv_at hl 0 rfl) ?_
  refine lv_iconst (v := 0) hx hb dX12_book_1 (by decide) ?_
  refine pp_i (k := 12) (j := 0) (f := 1200) hx hb hown hU iu12 tyX12_ok nmX12 hw Ta0 (by decide) rfl (hU _ tw1471) rfl rfl rfl dX12_book_2 (fun H locs hw => ?_)
  refine lv_aload_n hx hb dX12_book_5 rfl (lv_at hl 0 rfl) ?_
  refine lv_iload_n hx hb dX12_book_6 rfl (lv_at hl 1 rfl) ?_
  refine lv_if_lt (tgt := 28) hx hb dX12_book_7 (by decide) (fun h1 => ?_) (fun h1 => ?_)
  · rw [if_pos h1] at hm
    exact wb_X12_book_28 cx C X S0 n r S1 a0 x1 a0 (sI S0 1200 a0 0) _ _ _ hw hE Ta0 Ta0 (lv_sub hl [0, 1] rfl) hm
  · rw [if_neg h1] at hm
    refine lv_iload_n hx hb dX12_book_10 rfl (lv_at hl 1 rfl) ?_
    refine lv_aload_n hx hb dX12_book_11 rfl (lv_at hl 0 rfl) ?_
    refine pg_i (k := 12) (j := 2) (f := 1202) hx hb hown hU iu12 hw Ta0 (by decide) rfl (hU _ tw1473) rfl dX12_book_12 ?_
    refine lv_icmp_gt (tgt := 28) hx hb dX12_book_15 (by decide) (fun h2 => ?_) (fun h2 => ?_)
    · rw [if_pos h2] at hm
      exact wb_X12_book_28 cx C X S0 n r S1 a0 x1 a0 (sI S0 1200 a0 0) _ _ _ hw hE Ta0 Ta0 (lv_sub hl [0, 1] rfl) hm
    · rw [if_neg h2] at hm
      refine lv_iload_n hx hb dX12_book_18 rfl (lv_at hl 1 rfl) ?_
      refine lv_bipush (v := 100) hx hb dX12_book_19 (by decide) ?_
      refine lv_icmp_gt (tgt := 28) hx hb dX12_book_21 (by decide) (fun h3 => ?_) (fun h3 => ?_)
      · rw [if_pos h3] at hm
        exact wb_X12_book_28 cx C X S0 n r S1 a0 x1 a0 (sI S0 1200 a0 0) _ _ _ hw hE Ta0 Ta0 (lv_sub hl [0, 1] rfl) hm
      · rw [if_neg h3] at hm
        refine lv_iconst (v := 1) hx hb dX12_book_24 (by decide) ?_
        refine lv_goto (tgt := 29) hx hb dX12_book_25 (by decide) ?_
        exact wb_X12_book_29 cx C X S0 n r S1 a0 x1 a0 1 (sI S0 1200 a0 0) _ _ _ hw hE Ta0 Ta0 (lv_sub hl [0, 1] rfl) hm
abbrev rm_X12_undo : Room := { frames := 0, cells := 0, slots := 0, locals := 0 }
def b_X12_undo_58 (n : Nat) (a0 : Nat) (S : pq_S) : Option (Int32 × pq_S) := some ((pI (sI S 1242 a0 0) 1241 a0), (sI S 1242 a0 0))
set_option maxHeartbeats 4000000 in
set_option maxRecDepth 100000 in
theorem wb_X12_undo_58 {p : Program} {l : Launch} {e : Env} {s : State} {m : MethodId} {args : Array Value} {below : List Frame} {meth : Method} {c : Code} (cx : Cx p s m args meth c cX12_undo 2 RX12 (some .int)) (C : pq_C) (X : va_W) (S0 : pq_S) (n : Nat) (r : Int32) (S1 : pq_S) : ∀ (a0 : Nat) (S : pq_S) (H : Heap) (locs : List Loc) (ls : Array Slot), PW C X S (pq_F C X S0 s.heap.size) H locs s → Ext S0 S → TY S a0 12 → lv_has ls 2 [(0, .ref a0)] → b_X12_undo_58 n a0 S = some (r, S1) → W p l e rm_X12_undo s m args below meth c H locs 0 0 (MQ below (QcI C X S0 s.heap.size r S1) args s 0 0 (pq_F C X S0 s.heap.size)) (F0 m 58 ls []) := by
  obtain ⟨hx, hb, hml, hown, hU, hr, hlk⟩ := id cx
  intro a0 S H locs ls hw hE Ta0 hl hm
  rw [b_X12_undo_58] at hm
  refine lv_aload_n hx hb dX12_undo_58 rfl (lv_at hl 0 rfl) ?_
  refine lv_iconst (v := 0) hx hb dX12_undo_59 (by decide) ?_
  refine pp_i (k := 12) (j := 42) (f := 1242) hx hb hown hU iu12 tyX12_ok nmX12 hw Ta0 (by decide) rfl (hU _ tw1513) rfl rfl rfl dX12_undo_60 (fun H locs hw => ?_)
  refine lv_aload_n hx hb dX12_undo_63 rfl (lv_at hl 0 rfl) ?_
  refine pg_i (k := 12) (j := 41) (f := 1241) hx hb hown hU iu12 hw Ta0 (by decide) rfl (hU _ tw1512) rfl dX12_undo_64 ?_
  cases hm
  exact pw_iret hx hb hr rfl hlk hw hE dX12_undo_67
def b_X12_undo_26 (n : Nat) : Nat → Nat → Int32 → pq_S → Option (Int32 × pq_S)
  | 0, _, _, _ => none
  | f + 1, a0, x1, S => if 50 ≤ x1 then b_X12_undo_58 n a0 S else Option.bind (pR S 1246 a0) fun q4 => Option.bind (pR S 1248 a0) fun q5 => ck (ix (((50 : Int32) * (pI S 1241 a0)) + x1) (pN S q5)) (dix _ _) (ck (ix x1 (pN S q4)) (dix _ _) (lt_ (sA S q4 (Int32.toNatClampNeg x1) (pA S q5 (Int32.toNatClampNeg (((50 : Int32) * (pI S 1241 a0)) + x1)))) fun S_8 => b_X12_undo_26 n f a0 (x1 + 1) S_8))
set_option maxHeartbeats 4000000 in
set_option maxRecDepth 100000 in
theorem wb_X12_undo_26 {p : Program} {l : Launch} {e : Env} {s : State} {m : MethodId} {args : Array Value} {below : List Frame} {meth : Method} {c : Code} (cx : Cx p s m args meth c cX12_undo 2 RX12 (some .int)) (C : pq_C) (X : va_W) (S0 : pq_S) (n : Nat) (r : Int32) (S1 : pq_S) : ∀ (f : Nat) (a0 : Nat) (x1 : Int32) (S : pq_S) (H : Heap) (locs : List Loc) (ls : Array Slot), PW C X S (pq_F C X S0 s.heap.size) H locs s → Ext S0 S → TY S a0 12 → lv_has ls 2 [(0, .ref a0), (1, .int x1)] → b_X12_undo_26 n f a0 x1 S = some (r, S1) → W p l e rm_X12_undo s m args below meth c H locs 0 0 (MQ below (QcI C X S0 s.heap.size r S1) args s 0 0 (pq_F C X S0 s.heap.size)) (F0 m 26 ls []) := by
  obtain ⟨hx, hb, hml, hown, hU, hr, hlk⟩ := id cx
  intro f
  induction f with
  | zero =>
    intro a0 x1 S H locs ls hw hE Ta0 hl hm
    cases hm
  | succ f ih =>
    intro a0 x1 S H locs ls hw hE Ta0 hl hm
    rw [b_X12_undo_26] at hm
    refine lv_iload_n hx hb dX12_undo_26 rfl (lv_at hl 1 rfl) ?_
    refine lv_bipush (v := 50) hx hb dX12_undo_27 (by decide) ?_
    refine lv_icmp_ge (tgt := 58) hx hb dX12_undo_29 (by decide) (fun h3 => ?_) (fun h3 => ?_)
    · rw [if_pos h3] at hm
      exact wb_X12_undo_58 cx C X S0 n r S1 a0 S _ _ _ hw hE Ta0 (lv_sub hl [0] rfl) hm
    · rw [if_neg h3] at hm
      refine lv_aload_n hx hb dX12_undo_32 rfl (lv_at hl 0 rfl) ?_
      obtain ⟨q4, hq4, hm⟩ := bd_some hm
      have Tq4 : TY S q4 14 := hw.wf.ref (k := 12) (j := 46) Ta0 (by decide) (by decide) hq4
      refine pg_rb (k := 12) (j := 46) (f := 1246) hx hb hown hU iu12 hw Ta0 (by decide) rfl (hU _ tw1517) rfl hq4 dX12_undo_33 ?_
      refine lv_iload_n hx hb dX12_undo_36 rfl (lv_at hl 1 rfl) ?_
      refine lv_aload_n hx hb dX12_undo_37 rfl (lv_at hl 0 rfl) ?_
      obtain ⟨q5, hq5, hm⟩ := bd_some hm
      have Tq5 : TY S q5 14 := hw.wf.ref (k := 12) (j := 48) Ta0 (by decide) (by decide) hq5
      refine pg_rb (k := 12) (j := 48) (f := 1248) hx hb hown hU iu12 hw Ta0 (by decide) rfl (hU _ tw1519) rfl hq5 dX12_undo_38 ?_
      refine lv_bipush (v := 50) hx hb dX12_undo_41 (by decide) ?_
      refine lv_aload_n hx hb dX12_undo_43 rfl (lv_at hl 0 rfl) ?_
      refine pg_i (k := 12) (j := 41) (f := 1241) hx hb hown hU iu12 hw Ta0 (by decide) rfl (hU _ tw1512) rfl dX12_undo_44 ?_
      refine lv_imul hx hb dX12_undo_47 ?_
      refine lv_iload_n hx hb dX12_undo_48 rfl (lv_at hl 1 rfl) ?_
      refine lv_iadd hx hb dX12_undo_49 ?_
      obtain ⟨hi6, hm⟩ := ck_some hm
      refine pw_iald hx hb hw Tq5 hi6 dX12_undo_50 ?_
      obtain ⟨hi7, hm⟩ := ck_some hm
      refine pw_iast hx hb hw Tq4 hi7 dX12_undo_51 (fun H locs hw => ?_)
      obtain ⟨S_8, eS_8, hm⟩ := lt_some hm
      rw [← eS_8] at hw
      have Ta0 : TY S_8 a0 12 := by rw [eS_8]; exact Ta0
      have hE : Ext S0 S_8 := by rw [eS_8]; exact hE
      refine lv_iinc (v := (x1 + 1)) (lv' := [(1, .int (x1 + 1)), (0, .ref a0)]) hx hb dX12_undo_52 hl (k := 1) rfl rfl (by decide) rfl (fun ls hl => ?_)
      refine lv_goto (tgt := 26) hx hb dX12_undo_55 (by decide) ?_
      exact ih a0 (x1 + 1) S_8 _ _ _ hw hE Ta0 (lv_sub hl [1, 0] rfl) hm
def m_X12_undo (n : Nat) (a0 : Nat) (S0 : pq_S) : Option (Int32 × pq_S) := if (pI (sI S0 1200 a0 0) 1241 a0) = 0 then some ((-1), (sI S0 1200 a0 0)) else lt_ (sI (sI S0 1200 a0 0) 1241 a0 ((pI (sI S0 1200 a0 0) 1241 a0) - (1 : Int32))) fun S_2 => b_X12_undo_26 n n a0 0 S_2
theorem tc_X12_undo : Cond.code yX12_undo cX12_undo 2 (some .int) ∈ pq_U := tw1905
theorem cd_X12_undo : yX12_undo.cls = RX12 ∧ yX12_undo.cls ≠ "java/lang/invoke/MethodHandle" ∧ yX12_undo.cls ≠ "java/lang/invoke/VarHandle" ∧ (parseMethodDescriptor yX12_undo.desc).map (fun d => d.parameters.length) = some 0 := by decide +kernel
set_option maxHeartbeats 4000000 in
set_option maxRecDepth 100000 in
theorem c_X12_undo (l : Launch) (C : pq_C) (X : va_W) (n : Nat) (S0 : pq_S) (hF : WF S0) (sz : Nat) (a0 : Nat) (Ta0 : TY S0 a0 12) (r : Int32) (S1 : pq_S) (hm : m_X12_undo n a0 S0 = some (r, S1)) : MI l yX12_undo (.code yX12_undo cX12_undo 2 (some .int) :: pq_U) rm_X12_undo C X S0 sz [.ref a0] r S1 0 0 := by
  refine Met.ofW (cc := cX12_undo) (maxL := 2) (ret := (some .int)) (by decide) rfl ?_
  intro p e s m args below meth c s₁ B hml hv
  obtain ⟨rfl, hv⟩ := hv
  have hsz := hv.1
  subst hsz
  have hw := pw_entry hF hv
  have hts := atoms_spec (ws := .code yX12_undo cX12_undo 2 (some .int) :: pq_U) B.pre
  have hU : ∀ w ∈ pq_U, w.before _ s = true := fun w h => hts w (List.mem_cons_of_mem _ h)
  have hx := B.exec
  have hb := B.bytes
  have hr := B.returns
  have hown : s.vm.findClass RX12 = some m.cls := findClass_of_methodNamed B.named
  have hlk := B.notSynchronized
  have hl := lv_entry ([.ref a0]) (n := 2) (Nat.le_of_ble_eq_true rfl)
  rw [lg_entry_eq]
  generalize (lg_sl ([.ref a0]) ++ List.replicate (2 - (lg_sl ([.ref a0])).length) Slot.unset).toArray = ls at hl ⊢
  have hl : lv_has ls 2 [(0, .ref a0)] := hl
  have hE : Ext S0 S0 := Ext.rf _
  have cx : Cx p s m _ meth c cX12_undo 2 RX12 (some .int) := ⟨hx, hb, hml, hown, hU, hr, hlk⟩
  rw [m_X12_undo] at hm
  refine lv_aload_n hx hb dX12_undo_0 rfl (lv_at hl 0 rfl) ?_
  refine lv_iconst (v := 0) hx hb dX12_undo_1 (by decide) ?_
  refine pp_i (k := 12) (j := 0) (f := 1200) hx hb hown hU iu12 tyX12_ok nmX12 hw Ta0 (by decide) rfl (hU _ tw1471) rfl rfl rfl dX12_undo_2 (fun H locs hw => ?_)
  refine lv_aload_n hx hb dX12_undo_5 rfl (lv_at hl 0 rfl) ?_
  refine pg_i (k := 12) (j := 41) (f := 1241) hx hb hown hU iu12 hw Ta0 (by decide) rfl (hU _ tw1512) rfl dX12_undo_6 ?_
  refine lv_if_ne (tgt := 14) hx hb dX12_undo_9 (by decide) (fun h1 => ?_) (fun h1 => ?_)
  · rw [if_neg h1] at hm
    refine lv_aload_n hx hb dX12_undo_14 rfl (lv_at hl 0 rfl) ?_
    refine lv_dup hx hb dX12_undo_15 rfl ?_
    refine pg_i (k := 12) (j := 41) (f := 1241) hx hb hown hU iu12 hw Ta0 (by decide) rfl (hU _ tw1512) rfl dX12_undo_16 ?_
    refine lv_iconst (v := 1) hx hb dX12_undo_19 (by decide) ?_
    refine lv_isub hx hb dX12_undo_20 ?_
    refine pp_i (k := 12) (j := 41) (f := 1241) hx hb hown hU iu12 tyX12_ok nmX12 hw Ta0 (by decide) rfl (hU _ tw1512) rfl rfl rfl dX12_undo_21 (fun H locs hw => ?_)
    obtain ⟨S_2, eS_2, hm⟩ := lt_some hm
    rw [← eS_2] at hw
    have Ta0 : TY S_2 a0 12 := by rw [eS_2]; exact Ta0
    have hE : Ext S0 S_2 := by rw [eS_2]; exact hE
    refine lv_iconst (v := 0) hx hb dX12_undo_24 (by decide) ?_
    refine lv_istore_n (lv' := [(1, .int 0), (0, .ref a0)]) hx hb dX12_undo_25 rfl hl (by decide) rfl (fun ls hl => ?_)
    exact wb_X12_undo_26 cx C X S0 n r S1 n a0 0 S_2 _ _ _ hw hE Ta0 (lv_sub hl [1, 0] rfl) hm
  · rw [if_pos h1] at hm
    refine lv_iconst (v := (-1)) hx hb dX12_undo_12 (by decide) ?_
    cases hm
    exact pw_iret hx hb hr rfl hlk hw hE dX12_undo_13
abbrev rm_X12_sum : Room := { frames := 0, cells := 0, slots := 0, locals := 0 }
def b_X12_sum_4 (n : Nat) : Nat → Nat → Int32 → Int32 → Int32 → pq_S → Option (Int32 × pq_S)
  | 0, _, _, _, _, _ => none
  | f + 1, a0, x1, x2, x3, S => if (pI S 1224 a0) ≤ x3 then some (x2, S) else Option.bind (pR S 1246 a0) fun q2 => ck (ix (x1 + x3) (pN S q2)) (dix _ _) (lt_ (x2 + (pA S q2 (Int32.toNatClampNeg (x1 + x3)))) fun v4 => b_X12_sum_4 n f a0 x1 v4 (x3 + 1) S)
set_option maxHeartbeats 4000000 in
set_option maxRecDepth 100000 in
theorem wb_X12_sum_4 {p : Program} {l : Launch} {e : Env} {s : State} {m : MethodId} {args : Array Value} {below : List Frame} {meth : Method} {c : Code} (cx : Cx p s m args meth c cX12_sum 4 RX12 (some .int)) (C : pq_C) (X : va_W) (S0 : pq_S) (n : Nat) (r : Int32) (S1 : pq_S) : ∀ (f : Nat) (a0 : Nat) (x1 : Int32) (x2 : Int32) (x3 : Int32) (S : pq_S) (H : Heap) (locs : List Loc) (ls : Array Slot), PW C X S (pq_F C X S0 s.heap.size) H locs s → Ext S0 S → TY S a0 12 → lv_has ls 4 [(0, .ref a0), (1, .int x1), (2, .int x2), (3, .int x3)] → b_X12_sum_4 n f a0 x1 x2 x3 S = some (r, S1) → W p l e rm_X12_sum s m args below meth c H locs 0 0 (MQ below (QcI C X S0 s.heap.size r S1) args s 0 0 (pq_F C X S0 s.heap.size)) (F0 m 4 ls []) := by
  obtain ⟨hx, hb, hml, hown, hU, hr, hlk⟩ := id cx
  intro f
  induction f with
  | zero =>
    intro a0 x1 x2 x3 S H locs ls hw hE Ta0 hl hm
    cases hm
  | succ f ih =>
    intro a0 x1 x2 x3 S H locs ls hw hE Ta0 hl hm
    rw [b_X12_sum_4] at hm
    refine lv_iload_n hx hb dX12_sum_4 rfl (lv_at hl 3 rfl) ?_
    refine lv_aload_n hx hb dX12_sum_5 rfl (lv_at hl 0 rfl) ?_
    refine pg_i (k := 12) (j := 24) (f := 1224) hx hb hown hU iu12 hw Ta0 (by decide) rfl (hU _ tw1495) rfl dX12_sum_6 ?_
    refine lv_icmp_ge (tgt := 29) hx hb dX12_sum_9 (by decide) (fun h1 => ?_) (fun h1 => ?_)
    · rw [if_pos h1] at hm
      refine lv_iload_n hx hb dX12_sum_29 rfl (lv_at hl 2 rfl) ?_
      cases hm
      exact pw_iret hx hb hr rfl hlk hw hE dX12_sum_30
    · rw [if_neg h1] at hm
      refine lv_iload_n hx hb dX12_sum_12 rfl (lv_at hl 2 rfl) ?_
      refine lv_aload_n hx hb dX12_sum_13 rfl (lv_at hl 0 rfl) ?_
      obtain ⟨q2, hq2, hm⟩ := bd_some hm
      have Tq2 : TY S q2 14 := hw.wf.ref (k := 12) (j := 46) Ta0 (by decide) (by decide) hq2
      refine pg_rb (k := 12) (j := 46) (f := 1246) hx hb hown hU iu12 hw Ta0 (by decide) rfl (hU _ tw1517) rfl hq2 dX12_sum_14 ?_
      refine lv_iload_n hx hb dX12_sum_17 rfl (lv_at hl 1 rfl) ?_
      refine lv_iload_n hx hb dX12_sum_18 rfl (lv_at hl 3 rfl) ?_
      refine lv_iadd hx hb dX12_sum_19 ?_
      obtain ⟨hi3, hm⟩ := ck_some hm
      refine pw_iald hx hb hw Tq2 hi3 dX12_sum_20 ?_
      refine lv_iadd hx hb dX12_sum_21 ?_
      obtain ⟨v4, ev4, hm⟩ := lt_some hm
      refine lv_nmI ev4 ?_
      refine lv_istore_n (lv' := [(2, .int v4), (0, .ref a0), (1, .int x1), (3, .int x3)]) hx hb dX12_sum_22 rfl hl (by decide) rfl (fun ls hl => ?_)
      refine lv_iinc (v := (x3 + 1)) (lv' := [(3, .int (x3 + 1)), (2, .int v4), (0, .ref a0), (1, .int x1)]) hx hb dX12_sum_23 hl (k := 3) rfl rfl (by decide) rfl (fun ls hl => ?_)
      refine lv_goto (tgt := 4) hx hb dX12_sum_26 (by decide) ?_
      exact ih a0 x1 v4 (x3 + 1) S _ _ _ hw hE Ta0 (lv_sub hl [2, 3, 1, 0] rfl) hm
def m_X12_sum (n : Nat) (a0 : Nat) (x1 : Int32) (S0 : pq_S) : Option (Int32 × pq_S) := b_X12_sum_4 n n a0 x1 0 0 S0
theorem tc_X12_sum : Cond.code yX12_sum cX12_sum 4 (some .int) ∈ pq_U := tw1913
theorem cd_X12_sum : yX12_sum.cls = RX12 ∧ yX12_sum.cls ≠ "java/lang/invoke/MethodHandle" ∧ yX12_sum.cls ≠ "java/lang/invoke/VarHandle" ∧ (parseMethodDescriptor yX12_sum.desc).map (fun d => d.parameters.length) = some 1 := by decide +kernel
set_option maxHeartbeats 4000000 in
set_option maxRecDepth 100000 in
theorem c_X12_sum (l : Launch) (C : pq_C) (X : va_W) (n : Nat) (S0 : pq_S) (hF : WF S0) (sz : Nat) (a0 : Nat) (x1 : Int32) (Ta0 : TY S0 a0 12) (r : Int32) (S1 : pq_S) (hm : m_X12_sum n a0 x1 S0 = some (r, S1)) : MI l yX12_sum (.code yX12_sum cX12_sum 4 (some .int) :: pq_U) rm_X12_sum C X S0 sz [.ref a0, .int x1] r S1 0 0 := by
  refine Met.ofW (cc := cX12_sum) (maxL := 4) (ret := (some .int)) (by decide) rfl ?_
  intro p e s m args below meth c s₁ B hml hv
  obtain ⟨rfl, hv⟩ := hv
  have hsz := hv.1
  subst hsz
  have hw := pw_entry hF hv
  have hts := atoms_spec (ws := .code yX12_sum cX12_sum 4 (some .int) :: pq_U) B.pre
  have hU : ∀ w ∈ pq_U, w.before _ s = true := fun w h => hts w (List.mem_cons_of_mem _ h)
  have hx := B.exec
  have hb := B.bytes
  have hr := B.returns
  have hown : s.vm.findClass RX12 = some m.cls := findClass_of_methodNamed B.named
  have hlk := B.notSynchronized
  have hl := lv_entry ([.ref a0, .int x1]) (n := 4) (Nat.le_of_ble_eq_true rfl)
  rw [lg_entry_eq]
  generalize (lg_sl ([.ref a0, .int x1]) ++ List.replicate (4 - (lg_sl ([.ref a0, .int x1])).length) Slot.unset).toArray = ls at hl ⊢
  have hl : lv_has ls 4 [(0, .ref a0), (1, .int x1)] := hl
  have hE : Ext S0 S0 := Ext.rf _
  have cx : Cx p s m _ meth c cX12_sum 4 RX12 (some .int) := ⟨hx, hb, hml, hown, hU, hr, hlk⟩
  rw [m_X12_sum] at hm
  refine lv_iconst (v := 0) hx hb dX12_sum_0 (by decide) ?_
  refine lv_istore_n (lv' := [(2, .int 0), (0, .ref a0), (1, .int x1)]) hx hb dX12_sum_1 rfl hl (by decide) rfl (fun ls hl => ?_)
  refine lv_iconst (v := 0) hx hb dX12_sum_2 (by decide) ?_
  refine lv_istore_n (lv' := [(3, .int 0), (2, .int 0), (0, .ref a0), (1, .int x1)]) hx hb dX12_sum_3 rfl hl (by decide) rfl (fun ls hl => ?_)
  exact wb_X12_sum_4 cx C X S0 n r S1 n a0 x1 0 0 S0 _ _ _ hw hE Ta0 (lv_sub hl [2, 3, 1, 0] rfl) hm
abbrev rm_X12_told : Room := { frames := 1, cells := 0, slots := 0, locals := 23 }
def b_X12_told_116 (n : Nat) (b0 : Nat) (z1 : Int32) (S : pq_S) : Option (Int32 × pq_S) := cb (m_X12_sum n b0 z1 S) fun r27 S_25 => some (r27, S_25)
set_option maxHeartbeats 4000000 in
set_option maxRecDepth 100000 in
theorem wb_X12_told_116 {p : Program} {l : Launch} {e : Env} {s : State} {m : MethodId} {args : Array Value} {below : List Frame} {meth : Method} {c : Code} (cx : Cx p s m args meth c cX12_told 2 RX12 (some .int)) (C : pq_C) (X : va_W) (S0 : pq_S) (n : Nat) (r : Int32) (S1 : pq_S) : ∀ (b0 : Nat) (z1 : Int32) (S : pq_S) (H : Heap) (locs : List Loc) (ls : Array Slot), PW C X S (pq_F C X S0 s.heap.size) H locs s → Ext S0 S → TY S b0 12 → lv_has ls 2 [] → b_X12_told_116 n b0 z1 S = some (r, S1) → W p l e rm_X12_told s m args below meth c H locs 0 0 (MQ below (QcI C X S0 s.heap.size r S1) args s 0 0 (pq_F C X S0 s.heap.size)) (F0 m 116 ls [.int z1, .ref b0]) := by
  obtain ⟨hx, hb, hml, hown, hU, hr, hlk⟩ := id cx
  intro b0 z1 S H locs ls hw hE Tb0 hl hm
  rw [b_X12_told_116] at hm
  obtain ⟨r27, S_25, hq26, hm⟩ := cb_some hm
  refine pw_ci (va_runV (As := [.int z1]) (rest := []) ⟨hx, hb, hml, hown, hU⟩ (c_X12_sum l C X n S hw.wf _ b0 z1 (Tb0) r27 S_25 hq26) (cwV 1 hU (pq_gV tw1910 tw1912 ts159 tw14 tc_X12_sum) rfl rfl rfl cd_X12_sum ⟨Nat.le_of_ble_eq_true rfl, Nat.le_of_ble_eq_true rfl⟩) (pw_preV hw Tb0 (by decide) rfl) rfl rfl hl.1 rfl (lv_room (Nat.le_of_ble_eq_true rfl)) dX12_told_116 ⟨Nat.zero_le _, Nat.zero_le _⟩) hw (fun H locs hw hx28 => ?_)
  have hE : Ext S0 S_25 := Ext.tr hE hx28
  cases hm
  exact pw_iret hx hb hr rfl hlk hw hE dX12_told_119
def m_X12_told (n : Nat) (a0 : Nat) (x1 : Int32) (S0 : pq_S) : Option (Int32 × pq_S) := cb (m_X12_within n x1 0 9 (sI S0 1200 a0 0)) fun r3 S_1 => cb (m_X12_may n a0 r3 1 1 S_1) fun r8 S_6 => if r8 = 0 then some (0, S_6) else if 4 ≤ x1 then if 6 ≤ x1 then if 8 ≤ x1 then if x1 = 8 then some ((pI S_6 1251 a0), S_6) else some ((pI S_6 1242 a0), S_6) else if x1 = 6 then b_X12_told_116 n a0 0 S_6 else b_X12_told_116 n a0 6 S_6 else if x1 = 4 then Option.bind (pR S_6 1246 a0) fun q20 => ck (ix 48 (pN S_6 q20)) (dix _ _) (some ((pA S_6 q20 (Int32.toNatClampNeg 48)), S_6)) else Option.bind (pR S_6 1246 a0) fun q18 => ck (ix 49 (pN S_6 q18)) (dix _ _) (some ((pA S_6 q18 (Int32.toNatClampNeg 49)), S_6)) else if x1 = 0 then some ((pI S_6 1224 a0), S_6) else if x1 = 1 then some ((pI S_6 1225 a0), S_6) else if x1 = 2 then some ((pI S_6 1226 a0), S_6) else some ((pI S_6 1227 a0), S_6)
theorem tc_X12_told : Cond.code yX12_told cX12_told 2 (some .int) ∈ pq_U := tw1909
theorem cd_X12_told : yX12_told.cls = RX12 ∧ yX12_told.cls ≠ "java/lang/invoke/MethodHandle" ∧ yX12_told.cls ≠ "java/lang/invoke/VarHandle" ∧ (parseMethodDescriptor yX12_told.desc).map (fun d => d.parameters.length) = some 1 := by decide +kernel
set_option maxHeartbeats 4000000 in
set_option maxRecDepth 100000 in
theorem c_X12_told (l : Launch) (C : pq_C) (X : va_W) (n : Nat) (S0 : pq_S) (hF : WF S0) (sz : Nat) (a0 : Nat) (x1 : Int32) (Ta0 : TY S0 a0 12) (r : Int32) (S1 : pq_S) (hm : m_X12_told n a0 x1 S0 = some (r, S1)) : MI l yX12_told (.code yX12_told cX12_told 2 (some .int) :: pq_U) rm_X12_told C X S0 sz [.ref a0, .int x1] r S1 0 0 := by
  refine Met.ofW (cc := cX12_told) (maxL := 2) (ret := (some .int)) (by decide) rfl ?_
  intro p e s m args below meth c s₁ B hml hv
  obtain ⟨rfl, hv⟩ := hv
  have hsz := hv.1
  subst hsz
  have hw := pw_entry hF hv
  have hts := atoms_spec (ws := .code yX12_told cX12_told 2 (some .int) :: pq_U) B.pre
  have hU : ∀ w ∈ pq_U, w.before _ s = true := fun w h => hts w (List.mem_cons_of_mem _ h)
  have hx := B.exec
  have hb := B.bytes
  have hr := B.returns
  have hown : s.vm.findClass RX12 = some m.cls := findClass_of_methodNamed B.named
  have hlk := B.notSynchronized
  have hl := lv_entry ([.ref a0, .int x1]) (n := 2) (Nat.le_of_ble_eq_true rfl)
  rw [lg_entry_eq]
  generalize (lg_sl ([.ref a0, .int x1]) ++ List.replicate (2 - (lg_sl ([.ref a0, .int x1])).length) Slot.unset).toArray = ls at hl ⊢
  have hl : lv_has ls 2 [(0, .ref a0), (1, .int x1)] := hl
  have hE : Ext S0 S0 := Ext.rf _
  have cx : Cx p s m _ meth c cX12_told 2 RX12 (some .int) := ⟨hx, hb, hml, hown, hU, hr, hlk⟩
  rw [m_X12_told] at hm
  refine lv_aload_n hx hb dX12_told_0 rfl (lv_at hl 0 rfl) ?_
  refine lv_iconst (v := 0) hx hb dX12_told_1 (by decide) ?_
  refine pp_i (k := 12) (j := 0) (f := 1200) hx hb hown hU iu12 tyX12_ok nmX12 hw Ta0 (by decide) rfl (hU _ tw1471) rfl rfl rfl dX12_told_2 (fun H locs hw => ?_)
  refine lv_aload_n hx hb dX12_told_5 rfl (lv_at hl 0 rfl) ?_
  refine lv_iload_n hx hb dX12_told_6 rfl (lv_at hl 1 rfl) ?_
  refine lv_iconst (v := 0) hx hb dX12_told_7 (by decide) ?_
  refine lv_bipush (v := 9) hx hb dX12_told_8 (by decide) ?_
  obtain ⟨r3, S_1, hq2, hm⟩ := cb_some hm
  refine pw_cz (va_runS (As := [.int x1, .int 0, .int 9]) (rest := [.ref a0]) ⟨hx, hb, hml, hown, hU⟩ (c_X12_within l C X n (sI S0 1200 a0 0) hw.wf _ x1 0 9  r3 S_1 hq2) ⟨callB_of 3 hU (pq_g1 tc_X12_within) rfl rfl rfl (hU _ tw14) (hU _ tw1776) cd_X12_within.2 ⟨Nat.le_of_ble_eq_true rfl, Nat.le_of_ble_eq_true rfl⟩, hU _ tw1777⟩ (pw_preS hw) rfl rfl hl.1 rfl (lv_room (Nat.le_of_ble_eq_true rfl)) dX12_told_10 ⟨Nat.zero_le _, Nat.zero_le _⟩) hw (fun H locs hw hx4 hz5 => ?_)
  have Ta0 : TY S_1 a0 12 := ty_ext hx4 Ta0
  have hE : Ext S0 S_1 := Ext.tr hE hx4
  refine lv_iconst (v := 1) hx hb dX12_told_13 (by decide) ?_
  refine lv_iconst (v := 1) hx hb dX12_told_14 (by decide) ?_
  obtain ⟨r8, S_6, hq7, hm⟩ := cb_some hm
  refine pw_cz (va_runV (As := [.int r3, .int 1, .int 1]) (rest := []) ⟨hx, hb, hml, hown, hU⟩ (c_X12_may l C X n S_1 hw.wf _ a0 r3 1 1 (Ta0) r8 S_6 hq7) (cwV 3 hU (pq_gV tw1703 tw1705 ts123 tw14 tc_X12_may) rfl rfl rfl cd_X12_may ⟨Nat.le_of_ble_eq_true rfl, Nat.le_of_ble_eq_true rfl⟩) (pw_preV hw Ta0 (by decide) rfl) rfl rfl hl.1 rfl (lv_room (Nat.le_of_ble_eq_true rfl)) dX12_told_15 ⟨Nat.zero_le _, Nat.zero_le _⟩) hw (fun H locs hw hx9 hz10 => ?_)
  have Ta0 : TY S_6 a0 12 := ty_ext hx9 Ta0
  have hE : Ext S0 S_6 := Ext.tr hE hx9
  refine lv_if_ne (tgt := 23) hx hb dX12_told_18 (by decide) (fun h11 => ?_) (fun h11 => ?_)
  · rw [if_neg h11] at hm
    refine lv_iload_n hx hb dX12_told_23 rfl (lv_at hl 1 rfl) ?_
    refine lv_iconst (v := 4) hx hb dX12_told_24 (by decide) ?_
    refine lv_icmp_ge (tgt := 68) hx hb dX12_told_25 (by decide) (fun h12 => ?_) (fun h12 => ?_)
    · rw [if_pos h12] at hm
      refine lv_iload_n hx hb dX12_told_68 rfl (lv_at hl 1 rfl) ?_
      refine lv_bipush (v := 6) hx hb dX12_told_69 (by decide) ?_
      refine lv_icmp_ge (tgt := 97) hx hb dX12_told_71 (by decide) (fun h13 => ?_) (fun h13 => ?_)
      · rw [if_pos h13] at hm
        refine lv_iload_n hx hb dX12_told_97 rfl (lv_at hl 1 rfl) ?_
        refine lv_bipush (v := 8) hx hb dX12_told_98 (by decide) ?_
        refine lv_icmp_ge (tgt := 120) hx hb dX12_told_100 (by decide) (fun h14 => ?_) (fun h14 => ?_)
        · rw [if_pos h14] at hm
          refine lv_iload_n hx hb dX12_told_120 rfl (lv_at hl 1 rfl) ?_
          refine lv_bipush (v := 8) hx hb dX12_told_121 (by decide) ?_
          refine lv_icmp_ne (tgt := 133) hx hb dX12_told_123 (by decide) (fun h15 => ?_) (fun h15 => ?_)
          · rw [if_neg h15] at hm
            refine lv_aload_n hx hb dX12_told_133 rfl (lv_at hl 0 rfl) ?_
            refine pg_i (k := 12) (j := 42) (f := 1242) hx hb hown hU iu12 hw Ta0 (by decide) rfl (hU _ tw1513) rfl dX12_told_134 ?_
            cases hm
            exact pw_iret hx hb hr rfl hlk hw hE dX12_told_137
          · rw [if_pos h15] at hm
            refine lv_aload_n hx hb dX12_told_126 rfl (lv_at hl 0 rfl) ?_
            refine pg_i (k := 12) (j := 51) (f := 1251) hx hb hown hU iu12 hw Ta0 (by decide) rfl (hU _ tw1522) rfl dX12_told_127 ?_
            refine lv_goto (tgt := 137) hx hb dX12_told_130 (by decide) ?_
            cases hm
            exact pw_iret hx hb hr rfl hlk hw hE dX12_told_137
        · rw [if_neg h14] at hm
          refine lv_aload_n hx hb dX12_told_103 rfl (lv_at hl 0 rfl) ?_
          refine lv_iload_n hx hb dX12_told_104 rfl (lv_at hl 1 rfl) ?_
          refine lv_bipush (v := 6) hx hb dX12_told_105 (by decide) ?_
          refine lv_icmp_ne (tgt := 114) hx hb dX12_told_107 (by decide) (fun h16 => ?_) (fun h16 => ?_)
          · rw [if_neg h16] at hm
            refine lv_bipush (v := 6) hx hb dX12_told_114 (by decide) ?_
            exact wb_X12_told_116 cx C X S0 n r S1 a0 6 S_6 _ _ _ hw hE Ta0 (lv_sub hl [] rfl) hm
          · rw [if_pos h16] at hm
            refine lv_iconst (v := 0) hx hb dX12_told_110 (by decide) ?_
            refine lv_goto (tgt := 116) hx hb dX12_told_111 (by decide) ?_
            exact wb_X12_told_116 cx C X S0 n r S1 a0 0 S_6 _ _ _ hw hE Ta0 (lv_sub hl [] rfl) hm
      · rw [if_neg h13] at hm
        refine lv_iload_n hx hb dX12_told_74 rfl (lv_at hl 1 rfl) ?_
        refine lv_iconst (v := 4) hx hb dX12_told_75 (by decide) ?_
        refine lv_icmp_ne (tgt := 89) hx hb dX12_told_76 (by decide) (fun h17 => ?_) (fun h17 => ?_)
        · rw [if_neg h17] at hm
          refine lv_aload_n hx hb dX12_told_89 rfl (lv_at hl 0 rfl) ?_
          obtain ⟨q18, hq18, hm⟩ := bd_some hm
          have Tq18 : TY S_6 q18 14 := hw.wf.ref (k := 12) (j := 46) Ta0 (by decide) (by decide) hq18
          refine pg_rb (k := 12) (j := 46) (f := 1246) hx hb hown hU iu12 hw Ta0 (by decide) rfl (hU _ tw1517) rfl hq18 dX12_told_90 ?_
          refine lv_bipush (v := 49) hx hb dX12_told_93 (by decide) ?_
          obtain ⟨hi19, hm⟩ := ck_some hm
          refine pw_iald hx hb hw Tq18 hi19 dX12_told_95 ?_
          cases hm
          exact pw_iret hx hb hr rfl hlk hw hE dX12_told_96
        · rw [if_pos h17] at hm
          refine lv_aload_n hx hb dX12_told_79 rfl (lv_at hl 0 rfl) ?_
          obtain ⟨q20, hq20, hm⟩ := bd_some hm
          have Tq20 : TY S_6 q20 14 := hw.wf.ref (k := 12) (j := 46) Ta0 (by decide) (by decide) hq20
          refine pg_rb (k := 12) (j := 46) (f := 1246) hx hb hown hU iu12 hw Ta0 (by decide) rfl (hU _ tw1517) rfl hq20 dX12_told_80 ?_
          refine lv_bipush (v := 48) hx hb dX12_told_83 (by decide) ?_
          obtain ⟨hi21, hm⟩ := ck_some hm
          refine pw_iald hx hb hw Tq20 hi21 dX12_told_85 ?_
          refine lv_goto (tgt := 96) hx hb dX12_told_86 (by decide) ?_
          cases hm
          exact pw_iret hx hb hr rfl hlk hw hE dX12_told_96
    · rw [if_neg h12] at hm
      refine lv_iload_n hx hb dX12_told_28 rfl (lv_at hl 1 rfl) ?_
      refine lv_if_ne (tgt := 39) hx hb dX12_told_29 (by decide) (fun h22 => ?_) (fun h22 => ?_)
      · rw [if_neg h22] at hm
        refine lv_iload_n hx hb dX12_told_39 rfl (lv_at hl 1 rfl) ?_
        refine lv_iconst (v := 1) hx hb dX12_told_40 (by decide) ?_
        refine lv_icmp_ne (tgt := 51) hx hb dX12_told_41 (by decide) (fun h23 => ?_) (fun h23 => ?_)
        · rw [if_neg h23] at hm
          refine lv_iload_n hx hb dX12_told_51 rfl (lv_at hl 1 rfl) ?_
          refine lv_iconst (v := 2) hx hb dX12_told_52 (by decide) ?_
          refine lv_icmp_ne (tgt := 63) hx hb dX12_told_53 (by decide) (fun h24 => ?_) (fun h24 => ?_)
          · rw [if_neg h24] at hm
            refine lv_aload_n hx hb dX12_told_63 rfl (lv_at hl 0 rfl) ?_
            refine pg_i (k := 12) (j := 27) (f := 1227) hx hb hown hU iu12 hw Ta0 (by decide) rfl (hU _ tw1498) rfl dX12_told_64 ?_
            cases hm
            exact pw_iret hx hb hr rfl hlk hw hE dX12_told_67
          · rw [if_pos h24] at hm
            refine lv_aload_n hx hb dX12_told_56 rfl (lv_at hl 0 rfl) ?_
            refine pg_i (k := 12) (j := 26) (f := 1226) hx hb hown hU iu12 hw Ta0 (by decide) rfl (hU _ tw1497) rfl dX12_told_57 ?_
            refine lv_goto (tgt := 67) hx hb dX12_told_60 (by decide) ?_
            cases hm
            exact pw_iret hx hb hr rfl hlk hw hE dX12_told_67
        · rw [if_pos h23] at hm
          refine lv_aload_n hx hb dX12_told_44 rfl (lv_at hl 0 rfl) ?_
          refine pg_i (k := 12) (j := 25) (f := 1225) hx hb hown hU iu12 hw Ta0 (by decide) rfl (hU _ tw1496) rfl dX12_told_45 ?_
          refine lv_goto (tgt := 67) hx hb dX12_told_48 (by decide) ?_
          cases hm
          exact pw_iret hx hb hr rfl hlk hw hE dX12_told_67
      · rw [if_pos h22] at hm
        refine lv_aload_n hx hb dX12_told_32 rfl (lv_at hl 0 rfl) ?_
        refine pg_i (k := 12) (j := 24) (f := 1224) hx hb hown hU iu12 hw Ta0 (by decide) rfl (hU _ tw1495) rfl dX12_told_33 ?_
        refine lv_goto (tgt := 67) hx hb dX12_told_36 (by decide) ?_
        cases hm
        exact pw_iret hx hb hr rfl hlk hw hE dX12_told_67
  · rw [if_pos h11] at hm
    refine lv_iconst (v := 0) hx hb dX12_told_21 (by decide) ?_
    cases hm
    exact pw_iret hx hb hr rfl hlk hw hE dX12_told_22
abbrev rm_X12_isPlace : Room := { frames := 1, cells := 0, slots := 0, locals := 23 }
def m_X12_isPlace (n : Nat) (a0 : Nat) (x1 : Int32) (x2 : Int32) (S0 : pq_S) : Option (Int32 × pq_S) := cb (m_X12_within n x1 0 ((pI S0 1224 a0) - (1 : Int32)) S0) fun r3 S_1 => cb (m_X12_may n a0 r3 x2 0 S_1) fun r8 S_6 => some (r8, S_6)
theorem tc_X12_isPlace : Cond.code yX12_isPlace cX12_isPlace 3 (some .boolean) ∈ pq_U := tw1921
theorem cd_X12_isPlace : yX12_isPlace.cls = RX12 ∧ yX12_isPlace.cls ≠ "java/lang/invoke/MethodHandle" ∧ yX12_isPlace.cls ≠ "java/lang/invoke/VarHandle" ∧ (parseMethodDescriptor yX12_isPlace.desc).map (fun d => d.parameters.length) = some 2 := by decide +kernel
set_option maxHeartbeats 4000000 in
set_option maxRecDepth 100000 in
theorem c_X12_isPlace (l : Launch) (C : pq_C) (X : va_W) (n : Nat) (S0 : pq_S) (hF : WF S0) (sz : Nat) (a0 : Nat) (x1 : Int32) (x2 : Int32) (Ta0 : TY S0 a0 12) (r : Int32) (S1 : pq_S) (hm : m_X12_isPlace n a0 x1 x2 S0 = some (r, S1)) : MZ l yX12_isPlace (.code yX12_isPlace cX12_isPlace 3 (some .boolean) :: pq_U) rm_X12_isPlace C X S0 sz [.ref a0, .int x1, .int x2] r S1 0 0 := by
  refine Met.ofW (cc := cX12_isPlace) (maxL := 3) (ret := (some .boolean)) (by decide) rfl ?_
  intro p e s m args below meth c s₁ B hml hv
  obtain ⟨rfl, hv⟩ := hv
  have hsz := hv.1
  subst hsz
  have hw := pw_entry hF hv
  have hts := atoms_spec (ws := .code yX12_isPlace cX12_isPlace 3 (some .boolean) :: pq_U) B.pre
  have hU : ∀ w ∈ pq_U, w.before _ s = true := fun w h => hts w (List.mem_cons_of_mem _ h)
  have hx := B.exec
  have hb := B.bytes
  have hr := B.returns
  have hown : s.vm.findClass RX12 = some m.cls := findClass_of_methodNamed B.named
  have hlk := B.notSynchronized
  have hl := lv_entry ([.ref a0, .int x1, .int x2]) (n := 3) (Nat.le_of_ble_eq_true rfl)
  rw [lg_entry_eq]
  generalize (lg_sl ([.ref a0, .int x1, .int x2]) ++ List.replicate (3 - (lg_sl ([.ref a0, .int x1, .int x2])).length) Slot.unset).toArray = ls at hl ⊢
  have hl : lv_has ls 3 [(0, .ref a0), (1, .int x1), (2, .int x2)] := hl
  have hE : Ext S0 S0 := Ext.rf _
  have cx : Cx p s m _ meth c cX12_isPlace 3 RX12 (some .boolean) := ⟨hx, hb, hml, hown, hU, hr, hlk⟩
  rw [m_X12_isPlace] at hm
  refine lv_aload_n hx hb dX12_isPlace_0 rfl (lv_at hl 0 rfl) ?_
  refine lv_iload_n hx hb dX12_isPlace_1 rfl (lv_at hl 1 rfl) ?_
  refine lv_iconst (v := 0) hx hb dX12_isPlace_2 (by decide) ?_
  refine lv_aload_n hx hb dX12_isPlace_3 rfl (lv_at hl 0 rfl) ?_
  refine pg_i (k := 12) (j := 24) (f := 1224) hx hb hown hU iu12 hw Ta0 (by decide) rfl (hU _ tw1495) rfl dX12_isPlace_4 ?_
  refine lv_iconst (v := 1) hx hb dX12_isPlace_7 (by decide) ?_
  refine lv_isub hx hb dX12_isPlace_8 ?_
  obtain ⟨r3, S_1, hq2, hm⟩ := cb_some hm
  refine pw_cz (va_runS (As := [.int x1, .int 0, .int ((pI S0 1224 a0) - (1 : Int32))]) (rest := [.ref a0]) ⟨hx, hb, hml, hown, hU⟩ (c_X12_within l C X n S0 hw.wf _ x1 0 ((pI S0 1224 a0) - (1 : Int32))  r3 S_1 hq2) ⟨callB_of 3 hU (pq_g1 tc_X12_within) rfl rfl rfl (hU _ tw14) (hU _ tw1776) cd_X12_within.2 ⟨Nat.le_of_ble_eq_true rfl, Nat.le_of_ble_eq_true rfl⟩, hU _ tw1777⟩ (pw_preS hw) rfl rfl hl.1 rfl (lv_room (Nat.le_of_ble_eq_true rfl)) dX12_isPlace_9 ⟨Nat.zero_le _, Nat.zero_le _⟩) hw (fun H locs hw hx4 hz5 => ?_)
  have Ta0 : TY S_1 a0 12 := ty_ext hx4 Ta0
  have hE : Ext S0 S_1 := Ext.tr hE hx4
  refine lv_iload_n hx hb dX12_isPlace_12 rfl (lv_at hl 2 rfl) ?_
  refine lv_iconst (v := 0) hx hb dX12_isPlace_13 (by decide) ?_
  obtain ⟨r8, S_6, hq7, hm⟩ := cb_some hm
  refine pw_cz (va_runV (As := [.int r3, .int x2, .int 0]) (rest := []) ⟨hx, hb, hml, hown, hU⟩ (c_X12_may l C X n S_1 hw.wf _ a0 r3 x2 0 (Ta0) r8 S_6 hq7) (cwV 3 hU (pq_gV tw1703 tw1705 ts123 tw14 tc_X12_may) rfl rfl rfl cd_X12_may ⟨Nat.le_of_ble_eq_true rfl, Nat.le_of_ble_eq_true rfl⟩) (pw_preV hw Ta0 (by decide) rfl) rfl rfl hl.1 rfl (lv_room (Nat.le_of_ble_eq_true rfl)) dX12_isPlace_14 ⟨Nat.zero_le _, Nat.zero_le _⟩) hw (fun H locs hw hx9 hz10 => ?_)
  have Ta0 : TY S_6 a0 12 := ty_ext hx9 Ta0
  have hE : Ext S0 S_6 := Ext.tr hE hx9
  cases hm
  exact pw_zret hx hb hr hz10 hlk hw hE dX12_isPlace_17
abbrev rm_X12_isMine : Room := { frames := 1, cells := 0, slots := 0, locals := 23 }
def m_X12_isMine (n : Nat) (a0 : Nat) (x1 : Int32) (x2 : Int32) (S0 : pq_S) : Option (Int32 × pq_S) := cb (m_X12_within n x1 0 ((pI S0 1226 a0) - (1 : Int32)) S0) fun r3 S_1 => cb (m_X12_may n a0 r3 x2 0 S_1) fun r8 S_6 => some (r8, S_6)
theorem tc_X12_isMine : Cond.code yX12_isMine cX12_isMine 3 (some .boolean) ∈ pq_U := tw1945
theorem cd_X12_isMine : yX12_isMine.cls = RX12 ∧ yX12_isMine.cls ≠ "java/lang/invoke/MethodHandle" ∧ yX12_isMine.cls ≠ "java/lang/invoke/VarHandle" ∧ (parseMethodDescriptor yX12_isMine.desc).map (fun d => d.parameters.length) = some 2 := by decide +kernel
set_option maxHeartbeats 4000000 in
set_option maxRecDepth 100000 in
theorem c_X12_isMine (l : Launch) (C : pq_C) (X : va_W) (n : Nat) (S0 : pq_S) (hF : WF S0) (sz : Nat) (a0 : Nat) (x1 : Int32) (x2 : Int32) (Ta0 : TY S0 a0 12) (r : Int32) (S1 : pq_S) (hm : m_X12_isMine n a0 x1 x2 S0 = some (r, S1)) : MZ l yX12_isMine (.code yX12_isMine cX12_isMine 3 (some .boolean) :: pq_U) rm_X12_isMine C X S0 sz [.ref a0, .int x1, .int x2] r S1 0 0 := by
  refine Met.ofW (cc := cX12_isMine) (maxL := 3) (ret := (some .boolean)) (by decide) rfl ?_
  intro p e s m args below meth c s₁ B hml hv
  obtain ⟨rfl, hv⟩ := hv
  have hsz := hv.1
  subst hsz
  have hw := pw_entry hF hv
  have hts := atoms_spec (ws := .code yX12_isMine cX12_isMine 3 (some .boolean) :: pq_U) B.pre
  have hU : ∀ w ∈ pq_U, w.before _ s = true := fun w h => hts w (List.mem_cons_of_mem _ h)
  have hx := B.exec
  have hb := B.bytes
  have hr := B.returns
  have hown : s.vm.findClass RX12 = some m.cls := findClass_of_methodNamed B.named
  have hlk := B.notSynchronized
  have hl := lv_entry ([.ref a0, .int x1, .int x2]) (n := 3) (Nat.le_of_ble_eq_true rfl)
  rw [lg_entry_eq]
  generalize (lg_sl ([.ref a0, .int x1, .int x2]) ++ List.replicate (3 - (lg_sl ([.ref a0, .int x1, .int x2])).length) Slot.unset).toArray = ls at hl ⊢
  have hl : lv_has ls 3 [(0, .ref a0), (1, .int x1), (2, .int x2)] := hl
  have hE : Ext S0 S0 := Ext.rf _
  have cx : Cx p s m _ meth c cX12_isMine 3 RX12 (some .boolean) := ⟨hx, hb, hml, hown, hU, hr, hlk⟩
  rw [m_X12_isMine] at hm
  refine lv_aload_n hx hb dX12_isMine_0 rfl (lv_at hl 0 rfl) ?_
  refine lv_iload_n hx hb dX12_isMine_1 rfl (lv_at hl 1 rfl) ?_
  refine lv_iconst (v := 0) hx hb dX12_isMine_2 (by decide) ?_
  refine lv_aload_n hx hb dX12_isMine_3 rfl (lv_at hl 0 rfl) ?_
  refine pg_i (k := 12) (j := 26) (f := 1226) hx hb hown hU iu12 hw Ta0 (by decide) rfl (hU _ tw1497) rfl dX12_isMine_4 ?_
  refine lv_iconst (v := 1) hx hb dX12_isMine_7 (by decide) ?_
  refine lv_isub hx hb dX12_isMine_8 ?_
  obtain ⟨r3, S_1, hq2, hm⟩ := cb_some hm
  refine pw_cz (va_runS (As := [.int x1, .int 0, .int ((pI S0 1226 a0) - (1 : Int32))]) (rest := [.ref a0]) ⟨hx, hb, hml, hown, hU⟩ (c_X12_within l C X n S0 hw.wf _ x1 0 ((pI S0 1226 a0) - (1 : Int32))  r3 S_1 hq2) ⟨callB_of 3 hU (pq_g1 tc_X12_within) rfl rfl rfl (hU _ tw14) (hU _ tw1776) cd_X12_within.2 ⟨Nat.le_of_ble_eq_true rfl, Nat.le_of_ble_eq_true rfl⟩, hU _ tw1777⟩ (pw_preS hw) rfl rfl hl.1 rfl (lv_room (Nat.le_of_ble_eq_true rfl)) dX12_isMine_9 ⟨Nat.zero_le _, Nat.zero_le _⟩) hw (fun H locs hw hx4 hz5 => ?_)
  have Ta0 : TY S_1 a0 12 := ty_ext hx4 Ta0
  have hE : Ext S0 S_1 := Ext.tr hE hx4
  refine lv_iload_n hx hb dX12_isMine_12 rfl (lv_at hl 2 rfl) ?_
  refine lv_iconst (v := 0) hx hb dX12_isMine_13 (by decide) ?_
  obtain ⟨r8, S_6, hq7, hm⟩ := cb_some hm
  refine pw_cz (va_runV (As := [.int r3, .int x2, .int 0]) (rest := []) ⟨hx, hb, hml, hown, hU⟩ (c_X12_may l C X n S_1 hw.wf _ a0 r3 x2 0 (Ta0) r8 S_6 hq7) (cwV 3 hU (pq_gV tw1703 tw1705 ts123 tw14 tc_X12_may) rfl rfl rfl cd_X12_may ⟨Nat.le_of_ble_eq_true rfl, Nat.le_of_ble_eq_true rfl⟩) (pw_preV hw Ta0 (by decide) rfl) rfl rfl hl.1 rfl (lv_room (Nat.le_of_ble_eq_true rfl)) dX12_isMine_14 ⟨Nat.zero_le _, Nat.zero_le _⟩) hw (fun H locs hw hx9 hz10 => ?_)
  have Ta0 : TY S_6 a0 12 := ty_ext hx9 Ta0
  have hE : Ext S0 S_6 := Ext.tr hE hx9
  cases hm
  exact pw_zret hx hb hr hz10 hlk hw hE dX12_isMine_17
abbrev rm_X12_isWant : Room := { frames := 1, cells := 0, slots := 0, locals := 23 }
def m_X12_isWant (n : Nat) (a0 : Nat) (x1 : Int32) (x2 : Int32) (S0 : pq_S) : Option (Int32 × pq_S) := cb (m_X12_within n x1 0 ((pI S0 1225 a0) - (1 : Int32)) S0) fun r3 S_1 => cb (m_X12_may n a0 r3 x2 0 S_1) fun r8 S_6 => some (r8, S_6)
theorem tc_X12_isWant : Cond.code yX12_isWant cX12_isWant 3 (some .boolean) ∈ pq_U := tw1937
theorem cd_X12_isWant : yX12_isWant.cls = RX12 ∧ yX12_isWant.cls ≠ "java/lang/invoke/MethodHandle" ∧ yX12_isWant.cls ≠ "java/lang/invoke/VarHandle" ∧ (parseMethodDescriptor yX12_isWant.desc).map (fun d => d.parameters.length) = some 2 := by decide +kernel
set_option maxHeartbeats 4000000 in
set_option maxRecDepth 100000 in
theorem c_X12_isWant (l : Launch) (C : pq_C) (X : va_W) (n : Nat) (S0 : pq_S) (hF : WF S0) (sz : Nat) (a0 : Nat) (x1 : Int32) (x2 : Int32) (Ta0 : TY S0 a0 12) (r : Int32) (S1 : pq_S) (hm : m_X12_isWant n a0 x1 x2 S0 = some (r, S1)) : MZ l yX12_isWant (.code yX12_isWant cX12_isWant 3 (some .boolean) :: pq_U) rm_X12_isWant C X S0 sz [.ref a0, .int x1, .int x2] r S1 0 0 := by
  refine Met.ofW (cc := cX12_isWant) (maxL := 3) (ret := (some .boolean)) (by decide) rfl ?_
  intro p e s m args below meth c s₁ B hml hv
  obtain ⟨rfl, hv⟩ := hv
  have hsz := hv.1
  subst hsz
  have hw := pw_entry hF hv
  have hts := atoms_spec (ws := .code yX12_isWant cX12_isWant 3 (some .boolean) :: pq_U) B.pre
  have hU : ∀ w ∈ pq_U, w.before _ s = true := fun w h => hts w (List.mem_cons_of_mem _ h)
  have hx := B.exec
  have hb := B.bytes
  have hr := B.returns
  have hown : s.vm.findClass RX12 = some m.cls := findClass_of_methodNamed B.named
  have hlk := B.notSynchronized
  have hl := lv_entry ([.ref a0, .int x1, .int x2]) (n := 3) (Nat.le_of_ble_eq_true rfl)
  rw [lg_entry_eq]
  generalize (lg_sl ([.ref a0, .int x1, .int x2]) ++ List.replicate (3 - (lg_sl ([.ref a0, .int x1, .int x2])).length) Slot.unset).toArray = ls at hl ⊢
  have hl : lv_has ls 3 [(0, .ref a0), (1, .int x1), (2, .int x2)] := hl
  have hE : Ext S0 S0 := Ext.rf _
  have cx : Cx p s m _ meth c cX12_isWant 3 RX12 (some .boolean) := ⟨hx, hb, hml, hown, hU, hr, hlk⟩
  rw [m_X12_isWant] at hm
  refine lv_aload_n hx hb dX12_isWant_0 rfl (lv_at hl 0 rfl) ?_
  refine lv_iload_n hx hb dX12_isWant_1 rfl (lv_at hl 1 rfl) ?_
  refine lv_iconst (v := 0) hx hb dX12_isWant_2 (by decide) ?_
  refine lv_aload_n hx hb dX12_isWant_3 rfl (lv_at hl 0 rfl) ?_
  refine pg_i (k := 12) (j := 25) (f := 1225) hx hb hown hU iu12 hw Ta0 (by decide) rfl (hU _ tw1496) rfl dX12_isWant_4 ?_
  refine lv_iconst (v := 1) hx hb dX12_isWant_7 (by decide) ?_
  refine lv_isub hx hb dX12_isWant_8 ?_
  obtain ⟨r3, S_1, hq2, hm⟩ := cb_some hm
  refine pw_cz (va_runS (As := [.int x1, .int 0, .int ((pI S0 1225 a0) - (1 : Int32))]) (rest := [.ref a0]) ⟨hx, hb, hml, hown, hU⟩ (c_X12_within l C X n S0 hw.wf _ x1 0 ((pI S0 1225 a0) - (1 : Int32))  r3 S_1 hq2) ⟨callB_of 3 hU (pq_g1 tc_X12_within) rfl rfl rfl (hU _ tw14) (hU _ tw1776) cd_X12_within.2 ⟨Nat.le_of_ble_eq_true rfl, Nat.le_of_ble_eq_true rfl⟩, hU _ tw1777⟩ (pw_preS hw) rfl rfl hl.1 rfl (lv_room (Nat.le_of_ble_eq_true rfl)) dX12_isWant_9 ⟨Nat.zero_le _, Nat.zero_le _⟩) hw (fun H locs hw hx4 hz5 => ?_)
  have Ta0 : TY S_1 a0 12 := ty_ext hx4 Ta0
  have hE : Ext S0 S_1 := Ext.tr hE hx4
  refine lv_iload_n hx hb dX12_isWant_12 rfl (lv_at hl 2 rfl) ?_
  refine lv_iconst (v := 0) hx hb dX12_isWant_13 (by decide) ?_
  obtain ⟨r8, S_6, hq7, hm⟩ := cb_some hm
  refine pw_cz (va_runV (As := [.int r3, .int x2, .int 0]) (rest := []) ⟨hx, hb, hml, hown, hU⟩ (c_X12_may l C X n S_1 hw.wf _ a0 r3 x2 0 (Ta0) r8 S_6 hq7) (cwV 3 hU (pq_gV tw1703 tw1705 ts123 tw14 tc_X12_may) rfl rfl rfl cd_X12_may ⟨Nat.le_of_ble_eq_true rfl, Nat.le_of_ble_eq_true rfl⟩) (pw_preV hw Ta0 (by decide) rfl) rfl rfl hl.1 rfl (lv_room (Nat.le_of_ble_eq_true rfl)) dX12_isWant_14 ⟨Nat.zero_le _, Nat.zero_le _⟩) hw (fun H locs hw hx9 hz10 => ?_)
  have Ta0 : TY S_6 a0 12 := ty_ext hx9 Ta0
  have hE : Ext S0 S_6 := Ext.tr hE hx9
  cases hm
  exact pw_zret hx hb hr hz10 hlk hw hE dX12_isWant_17
abbrev rm_X12_hoursOf : Room := { frames := 0, cells := 0, slots := 0, locals := 0 }
def b_X12_hoursOf_72 (n : Nat) (k4 : Nat → Int32 → Int32 → Int32 → Int32 → pq_S → Option (Int32 × pq_S)) (a0 : Nat) (x1 : Int32) (x2 : Int32) (x4 : Int32) (z0 : Int32) (z1 : Int32) (S : pq_S) : Option (Int32 × pq_S) := k4 a0 x1 x2 (z0 + z1) (x4 + 1) S
set_option maxHeartbeats 4000000 in
set_option maxRecDepth 100000 in
theorem wb_X12_hoursOf_72 {p : Program} {l : Launch} {e : Env} {s : State} {m : MethodId} {args : Array Value} {below : List Frame} {meth : Method} {c : Code} (cx : Cx p s m args meth c cX12_hoursOf 5 RX12 (some .int)) (C : pq_C) (X : va_W) (S0 : pq_S) (n : Nat) (r : Int32) (S1 : pq_S) (k4 : Nat → Int32 → Int32 → Int32 → Int32 → pq_S → Option (Int32 × pq_S)) (hk4 : ∀ (a0 : Nat) (x1 : Int32) (x2 : Int32) (x3 : Int32) (x4 : Int32) (S : pq_S) (H : Heap) (locs : List Loc) (ls : Array Slot), PW C X S (pq_F C X S0 s.heap.size) H locs s → Ext S0 S → TY S a0 12 → lv_has ls 5 [(0, .ref a0), (1, .int x1), (2, .int x2), (3, .int x3), (4, .int x4)] → k4 a0 x1 x2 x3 x4 S = some (r, S1) → W p l e rm_X12_hoursOf s m args below meth c H locs 0 0 (MQ below (QcI C X S0 s.heap.size r S1) args s 0 0 (pq_F C X S0 s.heap.size)) (F0 m 5 ls [])) : ∀ (a0 : Nat) (x1 : Int32) (x2 : Int32) (x4 : Int32) (z0 : Int32) (z1 : Int32) (S : pq_S) (H : Heap) (locs : List Loc) (ls : Array Slot), PW C X S (pq_F C X S0 s.heap.size) H locs s → Ext S0 S → TY S a0 12 → lv_has ls 5 [(0, .ref a0), (1, .int x1), (2, .int x2), (4, .int x4)] → b_X12_hoursOf_72 n k4 a0 x1 x2 x4 z0 z1 S = some (r, S1) → W p l e rm_X12_hoursOf s m args below meth c H locs 0 0 (MQ below (QcI C X S0 s.heap.size r S1) args s 0 0 (pq_F C X S0 s.heap.size)) (F0 m 72 ls [.int z1, .int z0]) := by
  obtain ⟨hx, hb, hml, hown, hU, hr, hlk⟩ := id cx
  intro a0 x1 x2 x4 z0 z1 S H locs ls hw hE Ta0 hl hm
  rw [b_X12_hoursOf_72] at hm
  refine lv_iadd hx hb dX12_hoursOf_72 ?_
  refine lv_istore_n (lv' := [(3, .int (z0 + z1)), (0, .ref a0), (1, .int x1), (2, .int x2), (4, .int x4)]) hx hb dX12_hoursOf_73 rfl hl (by decide) rfl (fun ls hl => ?_)
  refine lv_iinc (v := (x4 + 1)) (lv' := [(4, .int (x4 + 1)), (3, .int (z0 + z1)), (0, .ref a0), (1, .int x1), (2, .int x2)]) hx hb dX12_hoursOf_74 hl (k := 4) rfl rfl (by decide) rfl (fun ls hl => ?_)
  refine lv_goto (tgt := 5) hx hb dX12_hoursOf_77 (by decide) ?_
  exact hk4 a0 x1 x2 (z0 + z1) (x4 + 1) S _ _ _ hw hE Ta0 (lv_sub hl [2, 3, 4, 1, 0] rfl) hm
def b_X12_hoursOf_71 (n : Nat) (k4 : Nat → Int32 → Int32 → Int32 → Int32 → pq_S → Option (Int32 × pq_S)) (a0 : Nat) (x1 : Int32) (x2 : Int32) (x4 : Int32) (z0 : Int32) (S : pq_S) : Option (Int32 × pq_S) := b_X12_hoursOf_72 n k4 a0 x1 x2 x4 z0 0 S
set_option maxHeartbeats 4000000 in
set_option maxRecDepth 100000 in
theorem wb_X12_hoursOf_71 {p : Program} {l : Launch} {e : Env} {s : State} {m : MethodId} {args : Array Value} {below : List Frame} {meth : Method} {c : Code} (cx : Cx p s m args meth c cX12_hoursOf 5 RX12 (some .int)) (C : pq_C) (X : va_W) (S0 : pq_S) (n : Nat) (r : Int32) (S1 : pq_S) (k4 : Nat → Int32 → Int32 → Int32 → Int32 → pq_S → Option (Int32 × pq_S)) (hk4 : ∀ (a0 : Nat) (x1 : Int32) (x2 : Int32) (x3 : Int32) (x4 : Int32) (S : pq_S) (H : Heap) (locs : List Loc) (ls : Array Slot), PW C X S (pq_F C X S0 s.heap.size) H locs s → Ext S0 S → TY S a0 12 → lv_has ls 5 [(0, .ref a0), (1, .int x1), (2, .int x2), (3, .int x3), (4, .int x4)] → k4 a0 x1 x2 x3 x4 S = some (r, S1) → W p l e rm_X12_hoursOf s m args below meth c H locs 0 0 (MQ below (QcI C X S0 s.heap.size r S1) args s 0 0 (pq_F C X S0 s.heap.size)) (F0 m 5 ls [])) : ∀ (a0 : Nat) (x1 : Int32) (x2 : Int32) (x4 : Int32) (z0 : Int32) (S : pq_S) (H : Heap) (locs : List Loc) (ls : Array Slot), PW C X S (pq_F C X S0 s.heap.size) H locs s → Ext S0 S → TY S a0 12 → lv_has ls 5 [(0, .ref a0), (1, .int x1), (2, .int x2), (4, .int x4)] → b_X12_hoursOf_71 n k4 a0 x1 x2 x4 z0 S = some (r, S1) → W p l e rm_X12_hoursOf s m args below meth c H locs 0 0 (MQ below (QcI C X S0 s.heap.size r S1) args s 0 0 (pq_F C X S0 s.heap.size)) (F0 m 71 ls [.int z0]) := by
  obtain ⟨hx, hb, hml, hown, hU, hr, hlk⟩ := id cx
  intro a0 x1 x2 x4 z0 S H locs ls hw hE Ta0 hl hm
  rw [b_X12_hoursOf_71] at hm
  refine lv_iconst (v := 0) hx hb dX12_hoursOf_71 (by decide) ?_
  exact wb_X12_hoursOf_72 cx C X S0 n r S1 _ hk4 a0 x1 x2 x4 z0 0 S _ _ _ hw hE Ta0 (lv_sub hl [0, 1, 2, 3] rfl) hm
def b_X12_hoursOf_5 (n : Nat) : Nat → Nat → Int32 → Int32 → Int32 → Int32 → pq_S → Option (Int32 × pq_S)
  | 0, _, _, _, _, _, _ => none
  | f + 1, a0, x1, x2, x3, x4, S => if (pI S 1225 a0) ≤ x4 then some (x3, S) else Option.bind (pR S 1247 a0) fun q2 => ck (ix ((18 : Int32) + x4) (pN S q2)) (dix _ _) (if (pA S q2 (Int32.toNatClampNeg ((18 : Int32) + x4))) = 1 then Option.bind (pR S 1215 a0) fun q5 => ck (ix ((4 : Int32) * x4) (pN S q5)) (dix _ _) (if (pA S q5 (Int32.toNatClampNeg ((4 : Int32) * x4))) = x1 then Option.bind (pR S 1215 a0) fun q8 => ck (ix (((4 : Int32) * x4) + (3 : Int32)) (pN S q8)) (dix _ _) (if (pA S q8 (Int32.toNatClampNeg (((4 : Int32) * x4) + (3 : Int32)))) < x2 then b_X12_hoursOf_71 n (b_X12_hoursOf_5 n f) a0 x1 x2 x4 x3 S else Option.bind (pR S 1215 a0) fun q11 => ck (ix (((4 : Int32) * x4) + (1 : Int32)) (pN S q11)) (dix _ _) (b_X12_hoursOf_72 n (b_X12_hoursOf_5 n f) a0 x1 x2 x4 x3 (pA S q11 (Int32.toNatClampNeg (((4 : Int32) * x4) + (1 : Int32)))) S)) else b_X12_hoursOf_71 n (b_X12_hoursOf_5 n f) a0 x1 x2 x4 x3 S) else b_X12_hoursOf_71 n (b_X12_hoursOf_5 n f) a0 x1 x2 x4 x3 S)
set_option maxHeartbeats 4000000 in
set_option maxRecDepth 100000 in
theorem wb_X12_hoursOf_5 {p : Program} {l : Launch} {e : Env} {s : State} {m : MethodId} {args : Array Value} {below : List Frame} {meth : Method} {c : Code} (cx : Cx p s m args meth c cX12_hoursOf 5 RX12 (some .int)) (C : pq_C) (X : va_W) (S0 : pq_S) (n : Nat) (r : Int32) (S1 : pq_S) : ∀ (f : Nat) (a0 : Nat) (x1 : Int32) (x2 : Int32) (x3 : Int32) (x4 : Int32) (S : pq_S) (H : Heap) (locs : List Loc) (ls : Array Slot), PW C X S (pq_F C X S0 s.heap.size) H locs s → Ext S0 S → TY S a0 12 → lv_has ls 5 [(0, .ref a0), (1, .int x1), (2, .int x2), (3, .int x3), (4, .int x4)] → b_X12_hoursOf_5 n f a0 x1 x2 x3 x4 S = some (r, S1) → W p l e rm_X12_hoursOf s m args below meth c H locs 0 0 (MQ below (QcI C X S0 s.heap.size r S1) args s 0 0 (pq_F C X S0 s.heap.size)) (F0 m 5 ls []) := by
  obtain ⟨hx, hb, hml, hown, hU, hr, hlk⟩ := id cx
  intro f
  induction f with
  | zero =>
    intro a0 x1 x2 x3 x4 S H locs ls hw hE Ta0 hl hm
    cases hm
  | succ f ih =>
    intro a0 x1 x2 x3 x4 S H locs ls hw hE Ta0 hl hm
    rw [b_X12_hoursOf_5] at hm
    refine lv_iload hx hb dX12_hoursOf_5 (lv_at hl 4 rfl) ?_
    refine lv_aload_n hx hb dX12_hoursOf_7 rfl (lv_at hl 0 rfl) ?_
    refine pg_i (k := 12) (j := 25) (f := 1225) hx hb hown hU iu12 hw Ta0 (by decide) rfl (hU _ tw1496) rfl dX12_hoursOf_8 ?_
    refine lv_icmp_ge (tgt := 80) hx hb dX12_hoursOf_11 (by decide) (fun h1 => ?_) (fun h1 => ?_)
    · rw [if_pos h1] at hm
      refine lv_iload_n hx hb dX12_hoursOf_80 rfl (lv_at hl 3 rfl) ?_
      cases hm
      exact pw_iret hx hb hr rfl hlk hw hE dX12_hoursOf_81
    · rw [if_neg h1] at hm
      refine lv_iload_n hx hb dX12_hoursOf_14 rfl (lv_at hl 3 rfl) ?_
      refine lv_aload_n hx hb dX12_hoursOf_15 rfl (lv_at hl 0 rfl) ?_
      obtain ⟨q2, hq2, hm⟩ := bd_some hm
      have Tq2 : TY S q2 14 := hw.wf.ref (k := 12) (j := 47) Ta0 (by decide) (by decide) hq2
      refine pg_rb (k := 12) (j := 47) (f := 1247) hx hb hown hU iu12 hw Ta0 (by decide) rfl (hU _ tw1518) rfl hq2 dX12_hoursOf_16 ?_
      refine lv_bipush (v := 18) hx hb dX12_hoursOf_19 (by decide) ?_
      refine lv_iload hx hb dX12_hoursOf_21 (lv_at hl 4 rfl) ?_
      refine lv_iadd hx hb dX12_hoursOf_23 ?_
      obtain ⟨hi3, hm⟩ := ck_some hm
      refine pw_iald hx hb hw Tq2 hi3 dX12_hoursOf_24 ?_
      refine lv_iconst (v := 1) hx hb dX12_hoursOf_25 (by decide) ?_
      refine lv_icmp_ne (tgt := 71) hx hb dX12_hoursOf_26 (by decide) (fun h4 => ?_) (fun h4 => ?_)
      · rw [if_neg h4] at hm
        exact wb_X12_hoursOf_71 cx C X S0 n r S1 _ ih a0 x1 x2 x4 x3 S _ _ _ hw hE Ta0 (lv_sub hl [0, 1, 2, 4] rfl) hm
      · rw [if_pos h4] at hm
        refine lv_aload_n hx hb dX12_hoursOf_29 rfl (lv_at hl 0 rfl) ?_
        obtain ⟨q5, hq5, hm⟩ := bd_some hm
        have Tq5 : TY S q5 14 := hw.wf.ref (k := 12) (j := 15) Ta0 (by decide) (by decide) hq5
        refine pg_rb (k := 12) (j := 15) (f := 1215) hx hb hown hU iu12 hw Ta0 (by decide) rfl (hU _ tw1486) rfl hq5 dX12_hoursOf_30 ?_
        refine lv_iconst (v := 4) hx hb dX12_hoursOf_33 (by decide) ?_
        refine lv_iload hx hb dX12_hoursOf_34 (lv_at hl 4 rfl) ?_
        refine lv_imul hx hb dX12_hoursOf_36 ?_
        obtain ⟨hi6, hm⟩ := ck_some hm
        refine pw_iald hx hb hw Tq5 hi6 dX12_hoursOf_37 ?_
        refine lv_iload_n hx hb dX12_hoursOf_38 rfl (lv_at hl 1 rfl) ?_
        refine lv_icmp_ne (tgt := 71) hx hb dX12_hoursOf_39 (by decide) (fun h7 => ?_) (fun h7 => ?_)
        · rw [if_neg h7] at hm
          exact wb_X12_hoursOf_71 cx C X S0 n r S1 _ ih a0 x1 x2 x4 x3 S _ _ _ hw hE Ta0 (lv_sub hl [0, 1, 2, 4] rfl) hm
        · rw [if_pos h7] at hm
          refine lv_aload_n hx hb dX12_hoursOf_42 rfl (lv_at hl 0 rfl) ?_
          obtain ⟨q8, hq8, hm⟩ := bd_some hm
          have Tq8 : TY S q8 14 := hw.wf.ref (k := 12) (j := 15) Ta0 (by decide) (by decide) hq8
          refine pg_rb (k := 12) (j := 15) (f := 1215) hx hb hown hU iu12 hw Ta0 (by decide) rfl (hU _ tw1486) rfl hq8 dX12_hoursOf_43 ?_
          refine lv_iconst (v := 4) hx hb dX12_hoursOf_46 (by decide) ?_
          refine lv_iload hx hb dX12_hoursOf_47 (lv_at hl 4 rfl) ?_
          refine lv_imul hx hb dX12_hoursOf_49 ?_
          refine lv_iconst (v := 3) hx hb dX12_hoursOf_50 (by decide) ?_
          refine lv_iadd hx hb dX12_hoursOf_51 ?_
          obtain ⟨hi9, hm⟩ := ck_some hm
          refine pw_iald hx hb hw Tq8 hi9 dX12_hoursOf_52 ?_
          refine lv_iload_n hx hb dX12_hoursOf_53 rfl (lv_at hl 2 rfl) ?_
          refine lv_icmp_lt (tgt := 71) hx hb dX12_hoursOf_54 (by decide) (fun h10 => ?_) (fun h10 => ?_)
          · rw [if_pos h10] at hm
            exact wb_X12_hoursOf_71 cx C X S0 n r S1 _ ih a0 x1 x2 x4 x3 S _ _ _ hw hE Ta0 (lv_sub hl [0, 1, 2, 4] rfl) hm
          · rw [if_neg h10] at hm
            refine lv_aload_n hx hb dX12_hoursOf_57 rfl (lv_at hl 0 rfl) ?_
            obtain ⟨q11, hq11, hm⟩ := bd_some hm
            have Tq11 : TY S q11 14 := hw.wf.ref (k := 12) (j := 15) Ta0 (by decide) (by decide) hq11
            refine pg_rb (k := 12) (j := 15) (f := 1215) hx hb hown hU iu12 hw Ta0 (by decide) rfl (hU _ tw1486) rfl hq11 dX12_hoursOf_58 ?_
            refine lv_iconst (v := 4) hx hb dX12_hoursOf_61 (by decide) ?_
            refine lv_iload hx hb dX12_hoursOf_62 (lv_at hl 4 rfl) ?_
            refine lv_imul hx hb dX12_hoursOf_64 ?_
            refine lv_iconst (v := 1) hx hb dX12_hoursOf_65 (by decide) ?_
            refine lv_iadd hx hb dX12_hoursOf_66 ?_
            obtain ⟨hi12, hm⟩ := ck_some hm
            refine pw_iald hx hb hw Tq11 hi12 dX12_hoursOf_67 ?_
            refine lv_goto (tgt := 72) hx hb dX12_hoursOf_68 (by decide) ?_
            exact wb_X12_hoursOf_72 cx C X S0 n r S1 _ ih a0 x1 x2 x4 x3 (pA S q11 (Int32.toNatClampNeg (((4 : Int32) * x4) + (1 : Int32)))) S _ _ _ hw hE Ta0 (lv_sub hl [0, 1, 2, 4] rfl) hm
def m_X12_hoursOf (n : Nat) (a0 : Nat) (x1 : Int32) (x2 : Int32) (S0 : pq_S) : Option (Int32 × pq_S) := b_X12_hoursOf_5 n n a0 x1 x2 0 0 S0
theorem tc_X12_hoursOf : Cond.code yX12_hoursOf cX12_hoursOf 5 (some .int) ∈ pq_U := tw1929
theorem cd_X12_hoursOf : yX12_hoursOf.cls = RX12 ∧ yX12_hoursOf.cls ≠ "java/lang/invoke/MethodHandle" ∧ yX12_hoursOf.cls ≠ "java/lang/invoke/VarHandle" ∧ (parseMethodDescriptor yX12_hoursOf.desc).map (fun d => d.parameters.length) = some 2 := by decide +kernel
set_option maxHeartbeats 4000000 in
set_option maxRecDepth 100000 in
theorem c_X12_hoursOf (l : Launch) (C : pq_C) (X : va_W) (n : Nat) (S0 : pq_S) (hF : WF S0) (sz : Nat) (a0 : Nat) (x1 : Int32) (x2 : Int32) (Ta0 : TY S0 a0 12) (r : Int32) (S1 : pq_S) (hm : m_X12_hoursOf n a0 x1 x2 S0 = some (r, S1)) : MI l yX12_hoursOf (.code yX12_hoursOf cX12_hoursOf 5 (some .int) :: pq_U) rm_X12_hoursOf C X S0 sz [.ref a0, .int x1, .int x2] r S1 0 0 := by
  refine Met.ofW (cc := cX12_hoursOf) (maxL := 5) (ret := (some .int)) (by decide) rfl ?_
  intro p e s m args below meth c s₁ B hml hv
  obtain ⟨rfl, hv⟩ := hv
  have hsz := hv.1
  subst hsz
  have hw := pw_entry hF hv
  have hts := atoms_spec (ws := .code yX12_hoursOf cX12_hoursOf 5 (some .int) :: pq_U) B.pre
  have hU : ∀ w ∈ pq_U, w.before _ s = true := fun w h => hts w (List.mem_cons_of_mem _ h)
  have hx := B.exec
  have hb := B.bytes
  have hr := B.returns
  have hown : s.vm.findClass RX12 = some m.cls := findClass_of_methodNamed B.named
  have hlk := B.notSynchronized
  have hl := lv_entry ([.ref a0, .int x1, .int x2]) (n := 5) (Nat.le_of_ble_eq_true rfl)
  rw [lg_entry_eq]
  generalize (lg_sl ([.ref a0, .int x1, .int x2]) ++ List.replicate (5 - (lg_sl ([.ref a0, .int x1, .int x2])).length) Slot.unset).toArray = ls at hl ⊢
  have hl : lv_has ls 5 [(0, .ref a0), (1, .int x1), (2, .int x2)] := hl
  have hE : Ext S0 S0 := Ext.rf _
  have cx : Cx p s m _ meth c cX12_hoursOf 5 RX12 (some .int) := ⟨hx, hb, hml, hown, hU, hr, hlk⟩
  rw [m_X12_hoursOf] at hm
  refine lv_iconst (v := 0) hx hb dX12_hoursOf_0 (by decide) ?_
  refine lv_istore_n (lv' := [(3, .int 0), (0, .ref a0), (1, .int x1), (2, .int x2)]) hx hb dX12_hoursOf_1 rfl hl (by decide) rfl (fun ls hl => ?_)
  refine lv_iconst (v := 0) hx hb dX12_hoursOf_2 (by decide) ?_
  refine lv_istore (lv' := [(4, .int 0), (3, .int 0), (0, .ref a0), (1, .int x1), (2, .int x2)]) hx hb dX12_hoursOf_3 hl (by decide) rfl (fun ls hl => ?_)
  exact wb_X12_hoursOf_5 cx C X S0 n r S1 n a0 x1 x2 0 0 S0 _ _ _ hw hE Ta0 (lv_sub hl [2, 3, 4, 1, 0] rfl) hm
