/-- the law's own row of one long ahead of the pool -/
abbrev XL (C : pq_C) (ao : Nat) (f : Nat → Int64) : va_W := [(ao, .inl (C.2.2.2.2.2.1, 1, .inr (.inl f)))]
abbrev QwL (C : pq_C) (ao : Nat) (f : Nat → Int64) (S : pq_S) (sz : Nat) (K : Int32 → (Nat → Int64) → pq_S → Prop) : Array Value → State → Outcome → State → Prop := va_Qi (fun (r0 : Int32) (u : (Nat → Int64) × pq_S) => K r0 u.1 u.2 ∧ WF u.2 ∧ Ext S u.2) (fun u t => CPost C (XL C ao u.1) u.2 (pq_F C (XL C ao f) S sz) t) (pq_F C (XL C ao f) S sz)
abbrev XcN (A : Nat → Prop) : String → State → State → Prop := vx_X (fun _ : Unit => False) (fun _ _ _ => True) A
section PWL
variable {p : Program} {l : Launch} {e : Env} {R : Room} {s : State} {m : MethodId} {args : Array Value} {below : List Frame} {meth : Method} {c : Code} {H : Heap} {locs : List Loc} {cells slots : Nat} {Q : State → Prop}
variable {cc : ByteArray} {pc : Nat} {ls : Array Slot} {rest st0 : List Value} {C : pq_C} {S S1 S0 : pq_S} {A : Nat → Prop} {ao mc ms : Nat} {f f0 : Nat → Int64} {av : Array Value}
theorem pw_last {x : Int64} (hx : p.tables.exec = Jvm.exec) (hb : c.code = cc) (hw : PW C (XL C ao f) S A H locs s) (hdg : decode cc pc = .ok (.lastore, 1))
    (kk : ∀ (H1 : Heap) (locs1 : List Loc), PW C (XL C ao (vp_updL f 0 x)) S A H1 locs1 s → W p l e R s m args below meth c H1 locs1 cells slots Q (F0 m (pc + 1) ls rest)) : W p l e R s m args below meth c H locs cells slots Q (F0 m pc ls (.long x :: .int 0 :: .ref ao :: rest)) := by
  refine va_last hx hb hw.K hw.P hw.D hw.S 0 4 (cA := C.2.2.2.2.2.1) (n := 1) (f := f) rfl rfl (i := 0) (by unfold vp_in; decide) hdg (fun H1 locs1 hP1 hD1 hS1 => ?_)
  exact kk H1 locs1 ⟨hw.K, hP1, hD1, hS1, hw.A, hw.fx, hw.wf⟩
theorem pw_lald (hx : p.tables.exec = Jvm.exec) (hb : c.code = cc) (hw : PW C (XL C ao f) S A H locs s) (hdg : decode cc pc = .ok (.laload, 1))
    (kk : W p l e R s m args below meth c H locs cells slots Q (F0 m (pc + 1) ls (.long (f 0) :: rest))) : W p l e R s m args below meth c H locs cells slots Q (F0 m pc ls (.int 0 :: .ref ao :: rest)) := by
  exact va_lald hx hb hw.K hw.P 0 4 (cA := C.2.2.2.2.2.1) (n := 1) (f := f) rfl rfl (i := 0) (by unfold vp_in; decide) hdg kk
theorem pw_lret {K : Int32 → (Nat → Int64) → pq_S → Prop} {v : Int32} (hexec : p.tables.exec = Jvm.exec) (hb : c.code = cc) (hr : meth.sig.returnType = some .int) (hlocks : meth.locks = false) (hw : PW C (XL C ao f) S (pq_F C (XL C ao f0) S0 s.heap.size) H locs s) (hE : Ext S0 S) (hk : K v f S) (h1 : cells ≤ mc) (h2 : slots ≤ ms) (hdg : decode cc pc = .ok (.ireturn, 1)) :
    W p l e R s m args below meth c H locs cells slots (vx_MQ below (QwL C ao f0 S0 s.heap.size K) (XcN (pq_F C (XL C ao f0) S0 s.heap.size)) args s mc ms (pq_F C (XL C ao f0) S0 s.heap.size)) (F0 m pc ls [.int v]) := by
  refine vx_ret ?_
  refine W.widen h1 h2 ?_
  exact W.zret hexec hb hr rfl (fun t ht hW => ⟨⟨v, (f, S), rfl, ⟨hk, hw.wf, hE⟩, by rw [ht]; exact hw.P, va_K.moved hW.alike hw.K, hw.D⟩, hw.S.F ht⟩) hw.S.2.2 hdg hlocks
theorem pw_xpost {X : va_W} {t : State} {H1 : Heap} {locs1 : List Loc} (hw : PW C X S A H locs s) (ht : t.heap = H1) (hvm : s.vm.Alike t.vm) (hF : WF S1) (hB : CPost C X S1 (pq_F C X S H.size) t) (hS : va_S A s.heap H1 locs1) : PW C X S1 A H1 locs1 s := by
  obtain ⟨hP1, hK1, hD1⟩ := hB
  rw [ht] at hP1
  exact ⟨va_K.moved hvm.symm hK1, hP1, hD1.weaken (fun _ q _ h => pw_free hw q.1 h), hS, hw.A, hw.fx, hF⟩
end PWL

abbrev rl_L_coast (mc ms : Nat) : Room := { frames := 8, cells := mc, slots := ms, locals := 173 }
theorem tc_L_coast : Cond.codeWith yL_coast cL_coast 4 (some .int) [(0, 9, 12, 13)] ∈ pq_U := tw480
theorem cd_L_coast : yL_coast.cls ≠ "java/lang/invoke/MethodHandle" ∧ yL_coast.cls ≠ "java/lang/invoke/VarHandle" ∧ (parseMethodDescriptor yL_coast.desc).map (fun d => d.parameters.length) = some 3 := by decide +kernel
set_option maxHeartbeats 4000000 in
set_option maxRecDepth 100000 in
theorem cl_L_coast (l : Launch) (C : pq_C) (ao : Nat) (f : Nat → Int64) (n : Nat) (S0 : pq_S) (hF : WF S0) (sz : Nat) (a0 : Nat) (x1 : Int32) (Ta0 : TY S0 a0 11) (mc ms : Nat) (hst : l.stackTraces = false) (K : Int32 → (Nat → Int64) → pq_S → Prop) (hm : wp_X11_coast n a0 x1 S0 mc ms (fun (k : Nat) (S1 : pq_S) => (k = 1 ∧ K 1 f S1)) (fun r (S1 : pq_S) => K 0 (vp_updL f 0 (Int32.toInt64 r)) S1)) : vx_Met l yL_coast (.codeWith yL_coast cL_coast 4 (some .int) [(0, 9, 12, 13)] :: pq_U) (rl_L_coast mc ms) (va_Pc [.ref a0, .int x1, .ref ao] (CPre C (XL C ao f) S0 sz)) (QwL C ao f S0 sz K) (XcN (pq_F C (XL C ao f) S0 sz)) mc ms (pq_F C (XL C ao f) S0 sz) := by
  refine vx_ofWH (cc := cL_coast) (maxL := 4) (ret := (some .int)) (hh := [(0, 9, 12, 13)]) (by decide) rfl ?_
  intro p e s m args below meth c s₁ B hml hv
  obtain ⟨rfl, hv⟩ := hv
  have hsz := hv.1
  subst hsz
  have hw := pw_entry hF hv
  have hts := atoms_spec (ws := .codeWith yL_coast cL_coast 4 (some .int) [(0, 9, 12, 13)] :: pq_U) B.pre
  have hU : ∀ w ∈ pq_U, w.before _ s = true := fun w h => hts w (List.mem_cons_of_mem _ h)
  have hx := B.exec
  have hb := B.bytes
  have hr := B.returns
  have htab : c.exceptionTable.toList = tableOf [(0, 9, 12, 13)] := vx_table (x := yL_coast) B (hts _ List.mem_cons_self)
  have hown : s.vm.findClass RL = some m.cls := findClass_of_methodNamed B.named
  have hlk := B.notSynchronized
  have hl := lv_entry ([.ref a0, .int x1, .ref ao]) (n := 4) (Nat.le_of_ble_eq_true rfl)
  rw [lg_entry_eq]
  generalize (lg_sl ([.ref a0, .int x1, .ref ao]) ++ List.replicate (4 - (lg_sl ([.ref a0, .int x1, .ref ao])).length) Slot.unset).toArray = ls at hl ⊢
  have hl : lv_has ls 4 [(0, .ref a0), (1, .int x1), (2, .ref ao)] := hl
  have hE : Ext S0 S0 := Ext.rf _
  refine lv_aload_n hx hb dL_coast_0 rfl (lv_at hl 2 rfl) ?_
  refine lv_iconst (v := 0) hx hb dL_coast_1 (by decide) ?_
  refine lv_aload_n hx hb dL_coast_2 rfl (lv_at hl 0 rfl) ?_
  refine lv_iload_n hx hb dL_coast_3 rfl (lv_at hl 1 rfl) ?_
  refine vx_calli (vx_runV (As := [.int x1]) (rest := [.int 0, .ref ao]) ⟨hx, hb, hml, hown, hU⟩ (cw_X11_coast l C (XL C ao f) n S0 hw.wf _ a0 x1 Ta0 mc ms hst _ _ hm) (cwV 1 hU (pq_gV tw482 tw483 tw484 tw1 tc_X11_coast) rfl rfl rfl cd_X11_coast ⟨Nat.le_of_ble_eq_true rfl, Nat.le_of_ble_eq_true rfl⟩) (pw_preV hw Ta0 (by decide) rfl) rfl rfl hl.1 rfl (lv_room (Nat.le_of_ble_eq_true rfl)) dL_coast_4 ⟨by show 0 + mc ≤ mc; omega, by show 0 + ms ≤ ms; omega⟩) hw.S (fun q _ h => pw_free hw q h) (pw_free hw) (fun q _ h => pw_free hw q h) (fun Es ce q9 u t H1 locs1 ht hvm hpx hB hz1 hk1 hS hce hcv hcl => ?_) (fun r u t H1 locs1 ht hvm hq hB hz1 hk1 hS => ?_)
  · obtain ⟨k, S1⟩ := u
    obtain ⟨hEu, hF1, hEx⟩ := hpx
    obtain ⟨hes, hB⟩ := hB
    dsimp only at hEu hF1 hEx hes hB
    have hw := pw_xpost hw ht hvm hF1 hB hS
    obtain ⟨rfl, hK⟩ := hEu
    have hes : Es = "java/lang/IllegalArgumentException" := hes
    subst hes
    refine fx_first (own := RL) (name := "java/lang/IllegalArgumentException") hown _ _ htab (by decide) (by decide) (hU _ tw481) (pq_N.use hw.fx.1.1 _ (List.mem_of_getElem? (i := 188) rfl)) hce hcv hcl ?_
    refine lv_astore_n (lv' := [(3, .ref q9), (0, .ref a0), (1, .int x1), (2, .ref ao)]) hx hb dL_coast_12 rfl hl (by decide) rfl (fun ls hl => ?_)
    refine lv_iconst (v := 1) hx hb dL_coast_13 (by decide) ?_
    exact pw_lret hx hb hr hlk hw hEx hK (by omega) (by omega) dL_coast_14
  · obtain ⟨hK, hF1, hEx⟩ := hq
    have hw := pw_xpost hw ht hvm hF1 hB hS
    refine lv_i2l (v := Int32.toInt64 r) hx hb dL_coast_7 rfl ?_
    refine pw_last hx hb hw dL_coast_8 (fun H locs hw => ?_)
    refine lv_goto (tgt := 15) hx hb dL_coast_9 (by decide) ?_
    refine lv_iconst (v := 0) hx hb dL_coast_15 (by decide) ?_
    exact pw_lret hx hb hr hlk hw hEx hK (by omega) (by omega) dL_coast_16
abbrev rl_L_law (mc ms : Nat) : Room := { frames := 73, cells := mc, slots := ms, locals := 1732 }
theorem tc_L_law : Cond.codeWith yL_law cL_law 5 (some .int) [(0, 10, 13, 13)] ∈ pq_U := tw732
theorem cd_L_law : yL_law.cls ≠ "java/lang/invoke/MethodHandle" ∧ yL_law.cls ≠ "java/lang/invoke/VarHandle" ∧ (parseMethodDescriptor yL_law.desc).map (fun d => d.parameters.length) = some 4 := by decide +kernel
set_option maxHeartbeats 4000000 in
set_option maxRecDepth 100000 in
theorem cl_L_law (l : Launch) (C : pq_C) (ao : Nat) (f : Nat → Int64) (n : Nat) (S0 : pq_S) (hF : WF S0) (sz : Nat) (a0 : Nat) (x1 : Int32) (x2 : Int32) (Ta0 : TY S0 a0 11) (mc ms : Nat) (hst : l.stackTraces = false) (K : Int32 → (Nat → Int64) → pq_S → Prop) (hm : wp_X11_law n a0 x1 x2 S0 mc ms (fun (k : Nat) (S1 : pq_S) => (k = 1 ∧ K 1 f S1)) (fun r (S1 : pq_S) => K 0 (vp_updL f 0 (Int32.toInt64 r)) S1)) : vx_Met l yL_law (.codeWith yL_law cL_law 5 (some .int) [(0, 10, 13, 13)] :: pq_U) (rl_L_law mc ms) (va_Pc [.ref a0, .int x1, .int x2, .ref ao] (CPre C (XL C ao f) S0 sz)) (QwL C ao f S0 sz K) (XcN (pq_F C (XL C ao f) S0 sz)) mc ms (pq_F C (XL C ao f) S0 sz) := by
  refine vx_ofWH (cc := cL_law) (maxL := 5) (ret := (some .int)) (hh := [(0, 10, 13, 13)]) (by decide) rfl ?_
  intro p e s m args below meth c s₁ B hml hv
  obtain ⟨rfl, hv⟩ := hv
  have hsz := hv.1
  subst hsz
  have hw := pw_entry hF hv
  have hts := atoms_spec (ws := .codeWith yL_law cL_law 5 (some .int) [(0, 10, 13, 13)] :: pq_U) B.pre
  have hU : ∀ w ∈ pq_U, w.before _ s = true := fun w h => hts w (List.mem_cons_of_mem _ h)
  have hx := B.exec
  have hb := B.bytes
  have hr := B.returns
  have htab : c.exceptionTable.toList = tableOf [(0, 10, 13, 13)] := vx_table (x := yL_law) B (hts _ List.mem_cons_self)
  have hown : s.vm.findClass RL = some m.cls := findClass_of_methodNamed B.named
  have hlk := B.notSynchronized
  have hl := lv_entry ([.ref a0, .int x1, .int x2, .ref ao]) (n := 5) (Nat.le_of_ble_eq_true rfl)
  rw [lg_entry_eq]
  generalize (lg_sl ([.ref a0, .int x1, .int x2, .ref ao]) ++ List.replicate (5 - (lg_sl ([.ref a0, .int x1, .int x2, .ref ao])).length) Slot.unset).toArray = ls at hl ⊢
  have hl : lv_has ls 5 [(0, .ref a0), (1, .int x1), (2, .int x2), (3, .ref ao)] := hl
  have hE : Ext S0 S0 := Ext.rf _
  refine lv_aload_n hx hb dL_law_0 rfl (lv_at hl 3 rfl) ?_
  refine lv_iconst (v := 0) hx hb dL_law_1 (by decide) ?_
  refine lv_aload_n hx hb dL_law_2 rfl (lv_at hl 0 rfl) ?_
  refine lv_iload_n hx hb dL_law_3 rfl (lv_at hl 1 rfl) ?_
  refine lv_iload_n hx hb dL_law_4 rfl (lv_at hl 2 rfl) ?_
  refine vx_calli (vx_runV (As := [.int x1, .int x2]) (rest := [.int 0, .ref ao]) ⟨hx, hb, hml, hown, hU⟩ (cw_X11_law l C (XL C ao f) n S0 hw.wf _ a0 x1 x2 Ta0 mc ms hst _ _ hm) (cwV 2 hU (pq_gV tw733 tw734 tw735 tw1 tc_X11_law) rfl rfl rfl cd_X11_law ⟨Nat.le_of_ble_eq_true rfl, Nat.le_of_ble_eq_true rfl⟩) (pw_preV hw Ta0 (by decide) rfl) rfl rfl hl.1 rfl (lv_room (Nat.le_of_ble_eq_true rfl)) dL_law_5 ⟨by show 0 + mc ≤ mc; omega, by show 0 + ms ≤ ms; omega⟩) hw.S (fun q _ h => pw_free hw q h) (pw_free hw) (fun q _ h => pw_free hw q h) (fun Es ce q9 u t H1 locs1 ht hvm hpx hB hz1 hk1 hS hce hcv hcl => ?_) (fun r u t H1 locs1 ht hvm hq hB hz1 hk1 hS => ?_)
  · obtain ⟨k, S1⟩ := u
    obtain ⟨hEu, hF1, hEx⟩ := hpx
    obtain ⟨hes, hB⟩ := hB
    dsimp only at hEu hF1 hEx hes hB
    have hw := pw_xpost hw ht hvm hF1 hB hS
    obtain ⟨rfl, hK⟩ := hEu
    have hes : Es = "java/lang/IllegalArgumentException" := hes
    subst hes
    refine fx_first (own := RL) (name := "java/lang/IllegalArgumentException") hown _ _ htab (by decide) (by decide) (hU _ tw481) (pq_N.use hw.fx.1.1 _ (List.mem_of_getElem? (i := 188) rfl)) hce hcv hcl ?_
    refine lv_astore (lv' := [(4, .ref q9), (0, .ref a0), (1, .int x1), (2, .int x2), (3, .ref ao)]) hx hb dL_law_13 hl (by decide) rfl (fun ls hl => ?_)
    refine lv_iconst (v := 1) hx hb dL_law_15 (by decide) ?_
    exact pw_lret hx hb hr hlk hw hEx hK (by omega) (by omega) dL_law_16
  · obtain ⟨hK, hF1, hEx⟩ := hq
    have hw := pw_xpost hw ht hvm hF1 hB hS
    refine lv_i2l (v := Int32.toInt64 r) hx hb dL_law_8 rfl ?_
    refine pw_last hx hb hw dL_law_9 (fun H locs hw => ?_)
    refine lv_goto (tgt := 17) hx hb dL_law_10 (by decide) ?_
    refine lv_iconst (v := 0) hx hb dL_law_17 (by decide) ?_
    exact pw_lret hx hb hr hlk hw hEx hK (by omega) (by omega) dL_law_18
abbrev rl_L_work (mc ms : Nat) : Room := { frames := 72, cells := mc, slots := ms, locals := 1942 }
theorem tc_L_work : Cond.codeWith yL_work cL_work 4 (some .int) [(0, 9, 12, 13)] ∈ pq_U := tw796
theorem cd_L_work : yL_work.cls ≠ "java/lang/invoke/MethodHandle" ∧ yL_work.cls ≠ "java/lang/invoke/VarHandle" ∧ (parseMethodDescriptor yL_work.desc).map (fun d => d.parameters.length) = some 3 := by decide +kernel
set_option maxHeartbeats 4000000 in
set_option maxRecDepth 100000 in
theorem cl_L_work (l : Launch) (C : pq_C) (ao : Nat) (f : Nat → Int64) (n : Nat) (S0 : pq_S) (hF : WF S0) (sz : Nat) (a0 : Nat) (x1 : Int32) (Ta0 : TY S0 a0 11) (mc ms : Nat) (hst : l.stackTraces = false) (K : Int32 → (Nat → Int64) → pq_S → Prop) (hm : wp_X11_work n a0 x1 S0 mc ms (fun (k : Nat) (S1 : pq_S) => (k = 1 ∧ K 1 f S1)) (fun r (S1 : pq_S) => K 0 (vp_updL f 0 (Int32.toInt64 r)) S1)) : vx_Met l yL_work (.codeWith yL_work cL_work 4 (some .int) [(0, 9, 12, 13)] :: pq_U) (rl_L_work mc ms) (va_Pc [.ref a0, .int x1, .ref ao] (CPre C (XL C ao f) S0 sz)) (QwL C ao f S0 sz K) (XcN (pq_F C (XL C ao f) S0 sz)) mc ms (pq_F C (XL C ao f) S0 sz) := by
  refine vx_ofWH (cc := cL_work) (maxL := 4) (ret := (some .int)) (hh := [(0, 9, 12, 13)]) (by decide) rfl ?_
  intro p e s m args below meth c s₁ B hml hv
  obtain ⟨rfl, hv⟩ := hv
  have hsz := hv.1
  subst hsz
  have hw := pw_entry hF hv
  have hts := atoms_spec (ws := .codeWith yL_work cL_work 4 (some .int) [(0, 9, 12, 13)] :: pq_U) B.pre
  have hU : ∀ w ∈ pq_U, w.before _ s = true := fun w h => hts w (List.mem_cons_of_mem _ h)
  have hx := B.exec
  have hb := B.bytes
  have hr := B.returns
  have htab : c.exceptionTable.toList = tableOf [(0, 9, 12, 13)] := vx_table (x := yL_work) B (hts _ List.mem_cons_self)
  have hown : s.vm.findClass RL = some m.cls := findClass_of_methodNamed B.named
  have hlk := B.notSynchronized
  have hl := lv_entry ([.ref a0, .int x1, .ref ao]) (n := 4) (Nat.le_of_ble_eq_true rfl)
  rw [lg_entry_eq]
  generalize (lg_sl ([.ref a0, .int x1, .ref ao]) ++ List.replicate (4 - (lg_sl ([.ref a0, .int x1, .ref ao])).length) Slot.unset).toArray = ls at hl ⊢
  have hl : lv_has ls 4 [(0, .ref a0), (1, .int x1), (2, .ref ao)] := hl
  have hE : Ext S0 S0 := Ext.rf _
  refine lv_aload_n hx hb dL_work_0 rfl (lv_at hl 2 rfl) ?_
  refine lv_iconst (v := 0) hx hb dL_work_1 (by decide) ?_
  refine lv_aload_n hx hb dL_work_2 rfl (lv_at hl 0 rfl) ?_
  refine lv_iload_n hx hb dL_work_3 rfl (lv_at hl 1 rfl) ?_
  refine vx_calli (vx_runV (As := [.int x1]) (rest := [.int 0, .ref ao]) ⟨hx, hb, hml, hown, hU⟩ (cw_X11_work l C (XL C ao f) n S0 hw.wf _ a0 x1 Ta0 mc ms hst _ _ hm) (cwV 1 hU (pq_gV tw797 tw798 tw799 tw1 tc_X11_work) rfl rfl rfl cd_X11_work ⟨Nat.le_of_ble_eq_true rfl, Nat.le_of_ble_eq_true rfl⟩) (pw_preV hw Ta0 (by decide) rfl) rfl rfl hl.1 rfl (lv_room (Nat.le_of_ble_eq_true rfl)) dL_work_4 ⟨by show 0 + mc ≤ mc; omega, by show 0 + ms ≤ ms; omega⟩) hw.S (fun q _ h => pw_free hw q h) (pw_free hw) (fun q _ h => pw_free hw q h) (fun Es ce q9 u t H1 locs1 ht hvm hpx hB hz1 hk1 hS hce hcv hcl => ?_) (fun r u t H1 locs1 ht hvm hq hB hz1 hk1 hS => ?_)
  · obtain ⟨k, S1⟩ := u
    obtain ⟨hEu, hF1, hEx⟩ := hpx
    obtain ⟨hes, hB⟩ := hB
    dsimp only at hEu hF1 hEx hes hB
    have hw := pw_xpost hw ht hvm hF1 hB hS
    obtain ⟨rfl, hK⟩ := hEu
    have hes : Es = "java/lang/IllegalArgumentException" := hes
    subst hes
    refine fx_first (own := RL) (name := "java/lang/IllegalArgumentException") hown _ _ htab (by decide) (by decide) (hU _ tw481) (pq_N.use hw.fx.1.1 _ (List.mem_of_getElem? (i := 188) rfl)) hce hcv hcl ?_
    refine lv_astore_n (lv' := [(3, .ref q9), (0, .ref a0), (1, .int x1), (2, .ref ao)]) hx hb dL_work_12 rfl hl (by decide) rfl (fun ls hl => ?_)
    refine lv_iconst (v := 1) hx hb dL_work_13 (by decide) ?_
    exact pw_lret hx hb hr hlk hw hEx hK (by omega) (by omega) dL_work_14
  · obtain ⟨hK, hF1, hEx⟩ := hq
    have hw := pw_xpost hw ht hvm hF1 hB hS
    refine lv_i2l (v := Int32.toInt64 r) hx hb dL_work_7 rfl ?_
    refine pw_last hx hb hw dL_work_8 (fun H locs hw => ?_)
    refine lv_goto (tgt := 15) hx hb dL_work_9 (by decide) ?_
    refine lv_iconst (v := 0) hx hb dL_work_15 (by decide) ?_
    exact pw_lret hx hb hr hlk hw hEx hK (by omega) (by omega) dL_work_16
abbrev rl_L_book (mc ms : Nat) : Room := { frames := 8, cells := mc, slots := ms, locals := 132 }
theorem tc_L_book : Cond.codeWith yL_book cL_book 4 (some .int) [(0, 9, 12, 13)] ∈ pq_U := tw952
theorem cd_L_book : yL_book.cls ≠ "java/lang/invoke/MethodHandle" ∧ yL_book.cls ≠ "java/lang/invoke/VarHandle" ∧ (parseMethodDescriptor yL_book.desc).map (fun d => d.parameters.length) = some 3 := by decide +kernel
set_option maxHeartbeats 4000000 in
set_option maxRecDepth 100000 in
theorem cl_L_book (l : Launch) (C : pq_C) (ao : Nat) (f : Nat → Int64) (n : Nat) (S0 : pq_S) (hF : WF S0) (sz : Nat) (a0 : Nat) (x1 : Int32) (Ta0 : TY S0 a0 11) (mc ms : Nat) (hst : l.stackTraces = false) (K : Int32 → (Nat → Int64) → pq_S → Prop) (hm : wp_X11_book n a0 x1 S0 mc ms (fun (k : Nat) (S1 : pq_S) => (k = 1 ∧ K 1 f S1)) (fun r (S1 : pq_S) => K 0 (vp_updL f 0 (Int32.toInt64 r)) S1)) : vx_Met l yL_book (.codeWith yL_book cL_book 4 (some .int) [(0, 9, 12, 13)] :: pq_U) (rl_L_book mc ms) (va_Pc [.ref a0, .int x1, .ref ao] (CPre C (XL C ao f) S0 sz)) (QwL C ao f S0 sz K) (XcN (pq_F C (XL C ao f) S0 sz)) mc ms (pq_F C (XL C ao f) S0 sz) := by
  refine vx_ofWH (cc := cL_book) (maxL := 4) (ret := (some .int)) (hh := [(0, 9, 12, 13)]) (by decide) rfl ?_
  intro p e s m args below meth c s₁ B hml hv
  obtain ⟨rfl, hv⟩ := hv
  have hsz := hv.1
  subst hsz
  have hw := pw_entry hF hv
  have hts := atoms_spec (ws := .codeWith yL_book cL_book 4 (some .int) [(0, 9, 12, 13)] :: pq_U) B.pre
  have hU : ∀ w ∈ pq_U, w.before _ s = true := fun w h => hts w (List.mem_cons_of_mem _ h)
  have hx := B.exec
  have hb := B.bytes
  have hr := B.returns
  have htab : c.exceptionTable.toList = tableOf [(0, 9, 12, 13)] := vx_table (x := yL_book) B (hts _ List.mem_cons_self)
  have hown : s.vm.findClass RL = some m.cls := findClass_of_methodNamed B.named
  have hlk := B.notSynchronized
  have hl := lv_entry ([.ref a0, .int x1, .ref ao]) (n := 4) (Nat.le_of_ble_eq_true rfl)
  rw [lg_entry_eq]
  generalize (lg_sl ([.ref a0, .int x1, .ref ao]) ++ List.replicate (4 - (lg_sl ([.ref a0, .int x1, .ref ao])).length) Slot.unset).toArray = ls at hl ⊢
  have hl : lv_has ls 4 [(0, .ref a0), (1, .int x1), (2, .ref ao)] := hl
  have hE : Ext S0 S0 := Ext.rf _
  refine lv_aload_n hx hb dL_book_0 rfl (lv_at hl 2 rfl) ?_
  refine lv_iconst (v := 0) hx hb dL_book_1 (by decide) ?_
  refine lv_aload_n hx hb dL_book_2 rfl (lv_at hl 0 rfl) ?_
  refine lv_iload_n hx hb dL_book_3 rfl (lv_at hl 1 rfl) ?_
  refine vx_calli (vx_runV (As := [.int x1]) (rest := [.int 0, .ref ao]) ⟨hx, hb, hml, hown, hU⟩ (cw_X11_book l C (XL C ao f) n S0 hw.wf _ a0 x1 Ta0 mc ms hst _ _ hm) (cwV 1 hU (pq_gV tw953 tw954 tw955 tw1 tc_X11_book) rfl rfl rfl cd_X11_book ⟨Nat.le_of_ble_eq_true rfl, Nat.le_of_ble_eq_true rfl⟩) (pw_preV hw Ta0 (by decide) rfl) rfl rfl hl.1 rfl (lv_room (Nat.le_of_ble_eq_true rfl)) dL_book_4 ⟨by show 0 + mc ≤ mc; omega, by show 0 + ms ≤ ms; omega⟩) hw.S (fun q _ h => pw_free hw q h) (pw_free hw) (fun q _ h => pw_free hw q h) (fun Es ce q9 u t H1 locs1 ht hvm hpx hB hz1 hk1 hS hce hcv hcl => ?_) (fun r u t H1 locs1 ht hvm hq hB hz1 hk1 hS => ?_)
  · obtain ⟨k, S1⟩ := u
    obtain ⟨hEu, hF1, hEx⟩ := hpx
    obtain ⟨hes, hB⟩ := hB
    dsimp only at hEu hF1 hEx hes hB
    have hw := pw_xpost hw ht hvm hF1 hB hS
    obtain ⟨rfl, hK⟩ := hEu
    have hes : Es = "java/lang/IllegalArgumentException" := hes
    subst hes
    refine fx_first (own := RL) (name := "java/lang/IllegalArgumentException") hown _ _ htab (by decide) (by decide) (hU _ tw481) (pq_N.use hw.fx.1.1 _ (List.mem_of_getElem? (i := 188) rfl)) hce hcv hcl ?_
    refine lv_astore_n (lv' := [(3, .ref q9), (0, .ref a0), (1, .int x1), (2, .ref ao)]) hx hb dL_book_12 rfl hl (by decide) rfl (fun ls hl => ?_)
    refine lv_iconst (v := 1) hx hb dL_book_13 (by decide) ?_
    exact pw_lret hx hb hr hlk hw hEx hK (by omega) (by omega) dL_book_14
  · obtain ⟨hK, hF1, hEx⟩ := hq
    have hw := pw_xpost hw ht hvm hF1 hB hS
    refine lv_i2l (v := Int32.toInt64 r) hx hb dL_book_7 rfl ?_
    refine pw_last hx hb hw dL_book_8 (fun H locs hw => ?_)
    refine lv_goto (tgt := 15) hx hb dL_book_9 (by decide) ?_
    refine lv_iconst (v := 0) hx hb dL_book_15 (by decide) ?_
    exact pw_lret hx hb hr hlk hw hEx hK (by omega) (by omega) dL_book_16
abbrev rl_L_told (mc ms : Nat) : Room := { frames := 8, cells := mc, slots := ms, locals := 131 }
theorem tc_L_told : Cond.codeWith yL_told cL_told 4 (some .int) [(0, 9, 12, 13)] ∈ pq_U := tw979
theorem cd_L_told : yL_told.cls ≠ "java/lang/invoke/MethodHandle" ∧ yL_told.cls ≠ "java/lang/invoke/VarHandle" ∧ (parseMethodDescriptor yL_told.desc).map (fun d => d.parameters.length) = some 3 := by decide +kernel
set_option maxHeartbeats 4000000 in
set_option maxRecDepth 100000 in
theorem cl_L_told (l : Launch) (C : pq_C) (ao : Nat) (f : Nat → Int64) (n : Nat) (S0 : pq_S) (hF : WF S0) (sz : Nat) (a0 : Nat) (x1 : Int32) (Ta0 : TY S0 a0 11) (mc ms : Nat) (hst : l.stackTraces = false) (K : Int32 → (Nat → Int64) → pq_S → Prop) (hm : wp_X11_told n a0 x1 S0 mc ms (fun (k : Nat) (S1 : pq_S) => (k = 1 ∧ K 1 f S1)) (fun r (S1 : pq_S) => K 0 (vp_updL f 0 (Int32.toInt64 r)) S1)) : vx_Met l yL_told (.codeWith yL_told cL_told 4 (some .int) [(0, 9, 12, 13)] :: pq_U) (rl_L_told mc ms) (va_Pc [.ref a0, .int x1, .ref ao] (CPre C (XL C ao f) S0 sz)) (QwL C ao f S0 sz K) (XcN (pq_F C (XL C ao f) S0 sz)) mc ms (pq_F C (XL C ao f) S0 sz) := by
  refine vx_ofWH (cc := cL_told) (maxL := 4) (ret := (some .int)) (hh := [(0, 9, 12, 13)]) (by decide) rfl ?_
  intro p e s m args below meth c s₁ B hml hv
  obtain ⟨rfl, hv⟩ := hv
  have hsz := hv.1
  subst hsz
  have hw := pw_entry hF hv
  have hts := atoms_spec (ws := .codeWith yL_told cL_told 4 (some .int) [(0, 9, 12, 13)] :: pq_U) B.pre
  have hU : ∀ w ∈ pq_U, w.before _ s = true := fun w h => hts w (List.mem_cons_of_mem _ h)
  have hx := B.exec
  have hb := B.bytes
  have hr := B.returns
  have htab : c.exceptionTable.toList = tableOf [(0, 9, 12, 13)] := vx_table (x := yL_told) B (hts _ List.mem_cons_self)
  have hown : s.vm.findClass RL = some m.cls := findClass_of_methodNamed B.named
  have hlk := B.notSynchronized
  have hl := lv_entry ([.ref a0, .int x1, .ref ao]) (n := 4) (Nat.le_of_ble_eq_true rfl)
  rw [lg_entry_eq]
  generalize (lg_sl ([.ref a0, .int x1, .ref ao]) ++ List.replicate (4 - (lg_sl ([.ref a0, .int x1, .ref ao])).length) Slot.unset).toArray = ls at hl ⊢
  have hl : lv_has ls 4 [(0, .ref a0), (1, .int x1), (2, .ref ao)] := hl
  have hE : Ext S0 S0 := Ext.rf _
  refine lv_aload_n hx hb dL_told_0 rfl (lv_at hl 2 rfl) ?_
  refine lv_iconst (v := 0) hx hb dL_told_1 (by decide) ?_
  refine lv_aload_n hx hb dL_told_2 rfl (lv_at hl 0 rfl) ?_
  refine lv_iload_n hx hb dL_told_3 rfl (lv_at hl 1 rfl) ?_
  refine vx_calli (vx_runV (As := [.int x1]) (rest := [.int 0, .ref ao]) ⟨hx, hb, hml, hown, hU⟩ (cw_X11_told l C (XL C ao f) n S0 hw.wf _ a0 x1 Ta0 mc ms hst _ _ hm) (cwV 1 hU (pq_gV tw980 tw981 tw982 tw1 tc_X11_told) rfl rfl rfl cd_X11_told ⟨Nat.le_of_ble_eq_true rfl, Nat.le_of_ble_eq_true rfl⟩) (pw_preV hw Ta0 (by decide) rfl) rfl rfl hl.1 rfl (lv_room (Nat.le_of_ble_eq_true rfl)) dL_told_4 ⟨by show 0 + mc ≤ mc; omega, by show 0 + ms ≤ ms; omega⟩) hw.S (fun q _ h => pw_free hw q h) (pw_free hw) (fun q _ h => pw_free hw q h) (fun Es ce q9 u t H1 locs1 ht hvm hpx hB hz1 hk1 hS hce hcv hcl => ?_) (fun r u t H1 locs1 ht hvm hq hB hz1 hk1 hS => ?_)
  · obtain ⟨k, S1⟩ := u
    obtain ⟨hEu, hF1, hEx⟩ := hpx
    obtain ⟨hes, hB⟩ := hB
    dsimp only at hEu hF1 hEx hes hB
    have hw := pw_xpost hw ht hvm hF1 hB hS
    obtain ⟨rfl, hK⟩ := hEu
    have hes : Es = "java/lang/IllegalArgumentException" := hes
    subst hes
    refine fx_first (own := RL) (name := "java/lang/IllegalArgumentException") hown _ _ htab (by decide) (by decide) (hU _ tw481) (pq_N.use hw.fx.1.1 _ (List.mem_of_getElem? (i := 188) rfl)) hce hcv hcl ?_
    refine lv_astore_n (lv' := [(3, .ref q9), (0, .ref a0), (1, .int x1), (2, .ref ao)]) hx hb dL_told_12 rfl hl (by decide) rfl (fun ls hl => ?_)
    refine lv_iconst (v := 1) hx hb dL_told_13 (by decide) ?_
    exact pw_lret hx hb hr hlk hw hEx hK (by omega) (by omega) dL_told_14
  · obtain ⟨hK, hF1, hEx⟩ := hq
    have hw := pw_xpost hw ht hvm hF1 hB hS
    refine lv_i2l (v := Int32.toInt64 r) hx hb dL_told_7 rfl ?_
    refine pw_last hx hb hw dL_told_8 (fun H locs hw => ?_)
    refine lv_goto (tgt := 15) hx hb dL_told_9 (by decide) ?_
    refine lv_iconst (v := 0) hx hb dL_told_15 (by decide) ?_
    exact pw_lret hx hb hr hlk hw hEx hK (by omega) (by omega) dL_told_16
abbrev rl_L_place (mc ms : Nat) : Room := { frames := 9, cells := mc, slots := ms, locals := 153 }
theorem tc_L_place : Cond.codeWith yL_place cL_place 5 (some .int) [(0, 10, 13, 31), (0, 10, 17, 13)] ∈ pq_U := tw990
theorem cd_L_place : yL_place.cls ≠ "java/lang/invoke/MethodHandle" ∧ yL_place.cls ≠ "java/lang/invoke/VarHandle" ∧ (parseMethodDescriptor yL_place.desc).map (fun d => d.parameters.length) = some 4 := by decide +kernel
set_option maxHeartbeats 4000000 in
set_option maxRecDepth 100000 in
theorem cl_L_place (l : Launch) (C : pq_C) (ao : Nat) (f : Nat → Int64) (n : Nat) (S0 : pq_S) (hF : WF S0) (sz : Nat) (a0 : Nat) (x1 : Int32) (x2 : Int32) (Ta0 : TY S0 a0 11) (mc ms : Nat) (hst : l.stackTraces = false) (K : Int32 → (Nat → Int64) → pq_S → Prop) (hm : wp_X11_place n a0 x1 x2 S0 mc ms (fun (k : Nat) (S1 : pq_S) => (k = 2 ∧ K 1 f S1) ∨ (k = 1 ∧ K 2 f S1)) (fun r (S1 : pq_S) => K 0 (vp_updL f 0 (Int32.toInt64 r)) S1)) : vx_Met l yL_place (.codeWith yL_place cL_place 5 (some .int) [(0, 10, 13, 31), (0, 10, 17, 13)] :: pq_U) (rl_L_place mc ms) (va_Pc [.ref a0, .int x1, .int x2, .ref ao] (CPre C (XL C ao f) S0 sz)) (QwL C ao f S0 sz K) (XcN (pq_F C (XL C ao f) S0 sz)) mc ms (pq_F C (XL C ao f) S0 sz) := by
  refine vx_ofWH (cc := cL_place) (maxL := 5) (ret := (some .int)) (hh := [(0, 10, 13, 31), (0, 10, 17, 13)]) (by decide) rfl ?_
  intro p e s m args below meth c s₁ B hml hv
  obtain ⟨rfl, hv⟩ := hv
  have hsz := hv.1
  subst hsz
  have hw := pw_entry hF hv
  have hts := atoms_spec (ws := .codeWith yL_place cL_place 5 (some .int) [(0, 10, 13, 31), (0, 10, 17, 13)] :: pq_U) B.pre
  have hU : ∀ w ∈ pq_U, w.before _ s = true := fun w h => hts w (List.mem_cons_of_mem _ h)
  have hx := B.exec
  have hb := B.bytes
  have hr := B.returns
  have htab : c.exceptionTable.toList = tableOf [(0, 10, 13, 31), (0, 10, 17, 13)] := vx_table (x := yL_place) B (hts _ List.mem_cons_self)
  have hown : s.vm.findClass RL = some m.cls := findClass_of_methodNamed B.named
  have hlk := B.notSynchronized
  have hl := lv_entry ([.ref a0, .int x1, .int x2, .ref ao]) (n := 5) (Nat.le_of_ble_eq_true rfl)
  rw [lg_entry_eq]
  generalize (lg_sl ([.ref a0, .int x1, .int x2, .ref ao]) ++ List.replicate (5 - (lg_sl ([.ref a0, .int x1, .int x2, .ref ao])).length) Slot.unset).toArray = ls at hl ⊢
  have hl : lv_has ls 5 [(0, .ref a0), (1, .int x1), (2, .int x2), (3, .ref ao)] := hl
  have hE : Ext S0 S0 := Ext.rf _
  refine lv_aload_n hx hb dL_place_0 rfl (lv_at hl 3 rfl) ?_
  refine lv_iconst (v := 0) hx hb dL_place_1 (by decide) ?_
  refine lv_aload_n hx hb dL_place_2 rfl (lv_at hl 0 rfl) ?_
  refine lv_iload_n hx hb dL_place_3 rfl (lv_at hl 1 rfl) ?_
  refine lv_iload_n hx hb dL_place_4 rfl (lv_at hl 2 rfl) ?_
  refine vx_calli (vx_runV (As := [.int x1, .int x2]) (rest := [.int 0, .ref ao]) ⟨hx, hb, hml, hown, hU⟩ (cw_X11_place l C (XL C ao f) n S0 hw.wf _ a0 x1 x2 Ta0 mc ms hst _ _ hm) (cwV 2 hU (pq_gV tw992 tw993 tw994 tw1 tc_X11_place) rfl rfl rfl cd_X11_place ⟨Nat.le_of_ble_eq_true rfl, Nat.le_of_ble_eq_true rfl⟩) (pw_preV hw Ta0 (by decide) rfl) rfl rfl hl.1 rfl (lv_room (Nat.le_of_ble_eq_true rfl)) dL_place_5 ⟨by show 0 + mc ≤ mc; omega, by show 0 + ms ≤ ms; omega⟩) hw.S (fun q _ h => pw_free hw q h) (pw_free hw) (fun q _ h => pw_free hw q h) (fun Es ce q9 u t H1 locs1 ht hvm hpx hB hz1 hk1 hS hce hcv hcl => ?_) (fun r u t H1 locs1 ht hvm hq hB hz1 hk1 hS => ?_)
  · obtain ⟨k, S1⟩ := u
    obtain ⟨hEu, hF1, hEx⟩ := hpx
    obtain ⟨hes, hB⟩ := hB
    dsimp only at hEu hF1 hEx hes hB
    have hw := pw_xpost hw ht hvm hF1 hB hS
    rcases hEu with hEu | hEu
    · obtain ⟨rfl, hK⟩ := hEu
      have hes : Es = "java/util/NoSuchElementException" := hes
      subst hes
      refine fx_first (own := RL) (name := "java/util/NoSuchElementException") hown _ _ htab (by decide) (by decide) (hU _ tw991) (pq_N.use hw.fx.1.1 _ (List.mem_of_getElem? (i := 189) rfl)) hce hcv hcl ?_
      refine lv_astore (lv' := [(4, .ref q9), (0, .ref a0), (1, .int x1), (2, .int x2), (3, .ref ao)]) hx hb dL_place_13 hl (by decide) rfl (fun ls hl => ?_)
      refine lv_iconst (v := 1) hx hb dL_place_15 (by decide) ?_
      exact pw_lret hx hb hr hlk hw hEx hK (by omega) (by omega) dL_place_16
    · obtain ⟨rfl, hK⟩ := hEu
      have hes : Es = "java/lang/IllegalArgumentException" := hes
      subst hes
      refine fx_second (own := RL) (nmy := "java/util/NoSuchElementException") (name := "java/lang/IllegalArgumentException") hown _ _ _ htab (by decide) (by decide) (hU _ tw991) hw.fx.1.2.2.1 (by decide) (by decide) (hU _ tw481) (pq_N.use hw.fx.1.1 _ (List.mem_of_getElem? (i := 188) rfl)) hce hcv hcl ?_
      refine lv_astore (lv' := [(4, .ref q9), (0, .ref a0), (1, .int x1), (2, .int x2), (3, .ref ao)]) hx hb dL_place_17 hl (by decide) rfl (fun ls hl => ?_)
      refine lv_iconst (v := 2) hx hb dL_place_19 (by decide) ?_
      exact pw_lret hx hb hr hlk hw hEx hK (by omega) (by omega) dL_place_20
  · obtain ⟨hK, hF1, hEx⟩ := hq
    have hw := pw_xpost hw ht hvm hF1 hB hS
    refine lv_i2l (v := Int32.toInt64 r) hx hb dL_place_8 rfl ?_
    refine pw_last hx hb hw dL_place_9 (fun H locs hw => ?_)
    refine lv_goto (tgt := 21) hx hb dL_place_10 (by decide) ?_
    refine lv_iconst (v := 0) hx hb dL_place_21 (by decide) ?_
    exact pw_lret hx hb hr hlk hw hEx hK (by omega) (by omega) dL_place_22
abbrev rl_L_want (mc ms : Nat) : Room := { frames := 9, cells := mc, slots := ms, locals := 153 }
theorem tc_L_want : Cond.codeWith yL_want cL_want 5 (some .int) [(0, 10, 13, 31), (0, 10, 17, 13)] ∈ pq_U := tw1034
theorem cd_L_want : yL_want.cls ≠ "java/lang/invoke/MethodHandle" ∧ yL_want.cls ≠ "java/lang/invoke/VarHandle" ∧ (parseMethodDescriptor yL_want.desc).map (fun d => d.parameters.length) = some 4 := by decide +kernel
set_option maxHeartbeats 4000000 in
set_option maxRecDepth 100000 in
theorem cl_L_want (l : Launch) (C : pq_C) (ao : Nat) (f : Nat → Int64) (n : Nat) (S0 : pq_S) (hF : WF S0) (sz : Nat) (a0 : Nat) (x1 : Int32) (x2 : Int32) (Ta0 : TY S0 a0 11) (mc ms : Nat) (hst : l.stackTraces = false) (K : Int32 → (Nat → Int64) → pq_S → Prop) (hm : wp_X11_want n a0 x1 x2 S0 mc ms (fun (k : Nat) (S1 : pq_S) => (k = 2 ∧ K 1 f S1) ∨ (k = 1 ∧ K 2 f S1)) (fun r (S1 : pq_S) => K 0 (vp_updL f 0 (Int32.toInt64 r)) S1)) : vx_Met l yL_want (.codeWith yL_want cL_want 5 (some .int) [(0, 10, 13, 31), (0, 10, 17, 13)] :: pq_U) (rl_L_want mc ms) (va_Pc [.ref a0, .int x1, .int x2, .ref ao] (CPre C (XL C ao f) S0 sz)) (QwL C ao f S0 sz K) (XcN (pq_F C (XL C ao f) S0 sz)) mc ms (pq_F C (XL C ao f) S0 sz) := by
  refine vx_ofWH (cc := cL_want) (maxL := 5) (ret := (some .int)) (hh := [(0, 10, 13, 31), (0, 10, 17, 13)]) (by decide) rfl ?_
  intro p e s m args below meth c s₁ B hml hv
  obtain ⟨rfl, hv⟩ := hv
  have hsz := hv.1
  subst hsz
  have hw := pw_entry hF hv
  have hts := atoms_spec (ws := .codeWith yL_want cL_want 5 (some .int) [(0, 10, 13, 31), (0, 10, 17, 13)] :: pq_U) B.pre
  have hU : ∀ w ∈ pq_U, w.before _ s = true := fun w h => hts w (List.mem_cons_of_mem _ h)
  have hx := B.exec
  have hb := B.bytes
  have hr := B.returns
  have htab : c.exceptionTable.toList = tableOf [(0, 10, 13, 31), (0, 10, 17, 13)] := vx_table (x := yL_want) B (hts _ List.mem_cons_self)
  have hown : s.vm.findClass RL = some m.cls := findClass_of_methodNamed B.named
  have hlk := B.notSynchronized
  have hl := lv_entry ([.ref a0, .int x1, .int x2, .ref ao]) (n := 5) (Nat.le_of_ble_eq_true rfl)
  rw [lg_entry_eq]
  generalize (lg_sl ([.ref a0, .int x1, .int x2, .ref ao]) ++ List.replicate (5 - (lg_sl ([.ref a0, .int x1, .int x2, .ref ao])).length) Slot.unset).toArray = ls at hl ⊢
  have hl : lv_has ls 5 [(0, .ref a0), (1, .int x1), (2, .int x2), (3, .ref ao)] := hl
  have hE : Ext S0 S0 := Ext.rf _
  refine lv_aload_n hx hb dL_want_0 rfl (lv_at hl 3 rfl) ?_
  refine lv_iconst (v := 0) hx hb dL_want_1 (by decide) ?_
  refine lv_aload_n hx hb dL_want_2 rfl (lv_at hl 0 rfl) ?_
  refine lv_iload_n hx hb dL_want_3 rfl (lv_at hl 1 rfl) ?_
  refine lv_iload_n hx hb dL_want_4 rfl (lv_at hl 2 rfl) ?_
  refine vx_calli (vx_runV (As := [.int x1, .int x2]) (rest := [.int 0, .ref ao]) ⟨hx, hb, hml, hown, hU⟩ (cw_X11_want l C (XL C ao f) n S0 hw.wf _ a0 x1 x2 Ta0 mc ms hst _ _ hm) (cwV 2 hU (pq_gV tw1035 tw1036 tw1037 tw1 tc_X11_want) rfl rfl rfl cd_X11_want ⟨Nat.le_of_ble_eq_true rfl, Nat.le_of_ble_eq_true rfl⟩) (pw_preV hw Ta0 (by decide) rfl) rfl rfl hl.1 rfl (lv_room (Nat.le_of_ble_eq_true rfl)) dL_want_5 ⟨by show 0 + mc ≤ mc; omega, by show 0 + ms ≤ ms; omega⟩) hw.S (fun q _ h => pw_free hw q h) (pw_free hw) (fun q _ h => pw_free hw q h) (fun Es ce q9 u t H1 locs1 ht hvm hpx hB hz1 hk1 hS hce hcv hcl => ?_) (fun r u t H1 locs1 ht hvm hq hB hz1 hk1 hS => ?_)
  · obtain ⟨k, S1⟩ := u
    obtain ⟨hEu, hF1, hEx⟩ := hpx
    obtain ⟨hes, hB⟩ := hB
    dsimp only at hEu hF1 hEx hes hB
    have hw := pw_xpost hw ht hvm hF1 hB hS
    rcases hEu with hEu | hEu
    · obtain ⟨rfl, hK⟩ := hEu
      have hes : Es = "java/util/NoSuchElementException" := hes
      subst hes
      refine fx_first (own := RL) (name := "java/util/NoSuchElementException") hown _ _ htab (by decide) (by decide) (hU _ tw991) (pq_N.use hw.fx.1.1 _ (List.mem_of_getElem? (i := 189) rfl)) hce hcv hcl ?_
      refine lv_astore (lv' := [(4, .ref q9), (0, .ref a0), (1, .int x1), (2, .int x2), (3, .ref ao)]) hx hb dL_want_13 hl (by decide) rfl (fun ls hl => ?_)
      refine lv_iconst (v := 1) hx hb dL_want_15 (by decide) ?_
      exact pw_lret hx hb hr hlk hw hEx hK (by omega) (by omega) dL_want_16
    · obtain ⟨rfl, hK⟩ := hEu
      have hes : Es = "java/lang/IllegalArgumentException" := hes
      subst hes
      refine fx_second (own := RL) (nmy := "java/util/NoSuchElementException") (name := "java/lang/IllegalArgumentException") hown _ _ _ htab (by decide) (by decide) (hU _ tw991) hw.fx.1.2.2.1 (by decide) (by decide) (hU _ tw481) (pq_N.use hw.fx.1.1 _ (List.mem_of_getElem? (i := 188) rfl)) hce hcv hcl ?_
      refine lv_astore (lv' := [(4, .ref q9), (0, .ref a0), (1, .int x1), (2, .int x2), (3, .ref ao)]) hx hb dL_want_17 hl (by decide) rfl (fun ls hl => ?_)
      refine lv_iconst (v := 2) hx hb dL_want_19 (by decide) ?_
      exact pw_lret hx hb hr hlk hw hEx hK (by omega) (by omega) dL_want_20
  · obtain ⟨hK, hF1, hEx⟩ := hq
    have hw := pw_xpost hw ht hvm hF1 hB hS
    refine lv_i2l (v := Int32.toInt64 r) hx hb dL_want_8 rfl ?_
    refine pw_last hx hb hw dL_want_9 (fun H locs hw => ?_)
    refine lv_goto (tgt := 21) hx hb dL_want_10 (by decide) ?_
    refine lv_iconst (v := 0) hx hb dL_want_21 (by decide) ?_
    exact pw_lret hx hb hr hlk hw hEx hK (by omega) (by omega) dL_want_22
abbrev rl_L_mine (mc ms : Nat) : Room := { frames := 9, cells := mc, slots := ms, locals := 153 }
theorem tc_L_mine : Cond.codeWith yL_mine cL_mine 5 (some .int) [(0, 10, 13, 31), (0, 10, 17, 13)] ∈ pq_U := tw1045
theorem cd_L_mine : yL_mine.cls ≠ "java/lang/invoke/MethodHandle" ∧ yL_mine.cls ≠ "java/lang/invoke/VarHandle" ∧ (parseMethodDescriptor yL_mine.desc).map (fun d => d.parameters.length) = some 4 := by decide +kernel
set_option maxHeartbeats 4000000 in
set_option maxRecDepth 100000 in
theorem cl_L_mine (l : Launch) (C : pq_C) (ao : Nat) (f : Nat → Int64) (n : Nat) (S0 : pq_S) (hF : WF S0) (sz : Nat) (a0 : Nat) (x1 : Int32) (x2 : Int32) (Ta0 : TY S0 a0 11) (mc ms : Nat) (hst : l.stackTraces = false) (K : Int32 → (Nat → Int64) → pq_S → Prop) (hm : wp_X11_mine n a0 x1 x2 S0 mc ms (fun (k : Nat) (S1 : pq_S) => (k = 2 ∧ K 1 f S1) ∨ (k = 1 ∧ K 2 f S1)) (fun r (S1 : pq_S) => K 0 (vp_updL f 0 (Int32.toInt64 r)) S1)) : vx_Met l yL_mine (.codeWith yL_mine cL_mine 5 (some .int) [(0, 10, 13, 31), (0, 10, 17, 13)] :: pq_U) (rl_L_mine mc ms) (va_Pc [.ref a0, .int x1, .int x2, .ref ao] (CPre C (XL C ao f) S0 sz)) (QwL C ao f S0 sz K) (XcN (pq_F C (XL C ao f) S0 sz)) mc ms (pq_F C (XL C ao f) S0 sz) := by
  refine vx_ofWH (cc := cL_mine) (maxL := 5) (ret := (some .int)) (hh := [(0, 10, 13, 31), (0, 10, 17, 13)]) (by decide) rfl ?_
  intro p e s m args below meth c s₁ B hml hv
  obtain ⟨rfl, hv⟩ := hv
  have hsz := hv.1
  subst hsz
  have hw := pw_entry hF hv
  have hts := atoms_spec (ws := .codeWith yL_mine cL_mine 5 (some .int) [(0, 10, 13, 31), (0, 10, 17, 13)] :: pq_U) B.pre
  have hU : ∀ w ∈ pq_U, w.before _ s = true := fun w h => hts w (List.mem_cons_of_mem _ h)
  have hx := B.exec
  have hb := B.bytes
  have hr := B.returns
  have htab : c.exceptionTable.toList = tableOf [(0, 10, 13, 31), (0, 10, 17, 13)] := vx_table (x := yL_mine) B (hts _ List.mem_cons_self)
  have hown : s.vm.findClass RL = some m.cls := findClass_of_methodNamed B.named
  have hlk := B.notSynchronized
  have hl := lv_entry ([.ref a0, .int x1, .int x2, .ref ao]) (n := 5) (Nat.le_of_ble_eq_true rfl)
  rw [lg_entry_eq]
  generalize (lg_sl ([.ref a0, .int x1, .int x2, .ref ao]) ++ List.replicate (5 - (lg_sl ([.ref a0, .int x1, .int x2, .ref ao])).length) Slot.unset).toArray = ls at hl ⊢
  have hl : lv_has ls 5 [(0, .ref a0), (1, .int x1), (2, .int x2), (3, .ref ao)] := hl
  have hE : Ext S0 S0 := Ext.rf _
  refine lv_aload_n hx hb dL_mine_0 rfl (lv_at hl 3 rfl) ?_
  refine lv_iconst (v := 0) hx hb dL_mine_1 (by decide) ?_
  refine lv_aload_n hx hb dL_mine_2 rfl (lv_at hl 0 rfl) ?_
  refine lv_iload_n hx hb dL_mine_3 rfl (lv_at hl 1 rfl) ?_
  refine lv_iload_n hx hb dL_mine_4 rfl (lv_at hl 2 rfl) ?_
  refine vx_calli (vx_runV (As := [.int x1, .int x2]) (rest := [.int 0, .ref ao]) ⟨hx, hb, hml, hown, hU⟩ (cw_X11_mine l C (XL C ao f) n S0 hw.wf _ a0 x1 x2 Ta0 mc ms hst _ _ hm) (cwV 2 hU (pq_gV tw1046 tw1047 tw1048 tw1 tc_X11_mine) rfl rfl rfl cd_X11_mine ⟨Nat.le_of_ble_eq_true rfl, Nat.le_of_ble_eq_true rfl⟩) (pw_preV hw Ta0 (by decide) rfl) rfl rfl hl.1 rfl (lv_room (Nat.le_of_ble_eq_true rfl)) dL_mine_5 ⟨by show 0 + mc ≤ mc; omega, by show 0 + ms ≤ ms; omega⟩) hw.S (fun q _ h => pw_free hw q h) (pw_free hw) (fun q _ h => pw_free hw q h) (fun Es ce q9 u t H1 locs1 ht hvm hpx hB hz1 hk1 hS hce hcv hcl => ?_) (fun r u t H1 locs1 ht hvm hq hB hz1 hk1 hS => ?_)
  · obtain ⟨k, S1⟩ := u
    obtain ⟨hEu, hF1, hEx⟩ := hpx
    obtain ⟨hes, hB⟩ := hB
    dsimp only at hEu hF1 hEx hes hB
    have hw := pw_xpost hw ht hvm hF1 hB hS
    rcases hEu with hEu | hEu
    · obtain ⟨rfl, hK⟩ := hEu
      have hes : Es = "java/util/NoSuchElementException" := hes
      subst hes
      refine fx_first (own := RL) (name := "java/util/NoSuchElementException") hown _ _ htab (by decide) (by decide) (hU _ tw991) (pq_N.use hw.fx.1.1 _ (List.mem_of_getElem? (i := 189) rfl)) hce hcv hcl ?_
      refine lv_astore (lv' := [(4, .ref q9), (0, .ref a0), (1, .int x1), (2, .int x2), (3, .ref ao)]) hx hb dL_mine_13 hl (by decide) rfl (fun ls hl => ?_)
      refine lv_iconst (v := 1) hx hb dL_mine_15 (by decide) ?_
      exact pw_lret hx hb hr hlk hw hEx hK (by omega) (by omega) dL_mine_16
    · obtain ⟨rfl, hK⟩ := hEu
      have hes : Es = "java/lang/IllegalArgumentException" := hes
      subst hes
      refine fx_second (own := RL) (nmy := "java/util/NoSuchElementException") (name := "java/lang/IllegalArgumentException") hown _ _ _ htab (by decide) (by decide) (hU _ tw991) hw.fx.1.2.2.1 (by decide) (by decide) (hU _ tw481) (pq_N.use hw.fx.1.1 _ (List.mem_of_getElem? (i := 188) rfl)) hce hcv hcl ?_
      refine lv_astore (lv' := [(4, .ref q9), (0, .ref a0), (1, .int x1), (2, .int x2), (3, .ref ao)]) hx hb dL_mine_17 hl (by decide) rfl (fun ls hl => ?_)
      refine lv_iconst (v := 2) hx hb dL_mine_19 (by decide) ?_
      exact pw_lret hx hb hr hlk hw hEx hK (by omega) (by omega) dL_mine_20
  · obtain ⟨hK, hF1, hEx⟩ := hq
    have hw := pw_xpost hw ht hvm hF1 hB hS
    refine lv_i2l (v := Int32.toInt64 r) hx hb dL_mine_8 rfl ?_
    refine pw_last hx hb hw dL_mine_9 (fun H locs hw => ?_)
    refine lv_goto (tgt := 21) hx hb dL_mine_10 (by decide) ?_
    refine lv_iconst (v := 0) hx hb dL_mine_21 (by decide) ?_
    exact pw_lret hx hb hr hlk hw hEx hK (by omega) (by omega) dL_mine_22
abbrev rl_L_arrives (mc ms : Nat) : Room := { frames := 9, cells := mc, slots := ms, locals := 155 }
theorem tc_L_arrives : Cond.codeWith yL_arrives cL_arrives 7 (some .int) [(0, 14, 17, 31), (0, 14, 21, 13)] ∈ pq_U := tw1057
theorem cd_L_arrives : yL_arrives.cls ≠ "java/lang/invoke/MethodHandle" ∧ yL_arrives.cls ≠ "java/lang/invoke/VarHandle" ∧ (parseMethodDescriptor yL_arrives.desc).map (fun d => d.parameters.length) = some 6 := by decide +kernel
set_option maxHeartbeats 4000000 in
set_option maxRecDepth 100000 in
theorem cl_L_arrives (l : Launch) (C : pq_C) (ao : Nat) (f : Nat → Int64) (n : Nat) (S0 : pq_S) (hF : WF S0) (sz : Nat) (a0 : Nat) (x1 : Int32) (x2 : Int32) (x3 : Int32) (x4 : Int32) (Ta0 : TY S0 a0 11) (mc ms : Nat) (hst : l.stackTraces = false) (K : Int32 → (Nat → Int64) → pq_S → Prop) (hm : wp_X11_arrives n a0 x1 x2 x3 x4 S0 mc ms (fun (k : Nat) (S1 : pq_S) => (k = 2 ∧ K 1 f S1) ∨ (k = 1 ∧ K 2 f S1)) (fun r (S1 : pq_S) => K 0 (vp_updL f 0 (Int32.toInt64 r)) S1)) : vx_Met l yL_arrives (.codeWith yL_arrives cL_arrives 7 (some .int) [(0, 14, 17, 31), (0, 14, 21, 13)] :: pq_U) (rl_L_arrives mc ms) (va_Pc [.ref a0, .int x1, .int x2, .int x3, .int x4, .ref ao] (CPre C (XL C ao f) S0 sz)) (QwL C ao f S0 sz K) (XcN (pq_F C (XL C ao f) S0 sz)) mc ms (pq_F C (XL C ao f) S0 sz) := by
  refine vx_ofWH (cc := cL_arrives) (maxL := 7) (ret := (some .int)) (hh := [(0, 14, 17, 31), (0, 14, 21, 13)]) (by decide) rfl ?_
  intro p e s m args below meth c s₁ B hml hv
  obtain ⟨rfl, hv⟩ := hv
  have hsz := hv.1
  subst hsz
  have hw := pw_entry hF hv
  have hts := atoms_spec (ws := .codeWith yL_arrives cL_arrives 7 (some .int) [(0, 14, 17, 31), (0, 14, 21, 13)] :: pq_U) B.pre
  have hU : ∀ w ∈ pq_U, w.before _ s = true := fun w h => hts w (List.mem_cons_of_mem _ h)
  have hx := B.exec
  have hb := B.bytes
  have hr := B.returns
  have htab : c.exceptionTable.toList = tableOf [(0, 14, 17, 31), (0, 14, 21, 13)] := vx_table (x := yL_arrives) B (hts _ List.mem_cons_self)
  have hown : s.vm.findClass RL = some m.cls := findClass_of_methodNamed B.named
  have hlk := B.notSynchronized
  have hl := lv_entry ([.ref a0, .int x1, .int x2, .int x3, .int x4, .ref ao]) (n := 7) (Nat.le_of_ble_eq_true rfl)
  rw [lg_entry_eq]
  generalize (lg_sl ([.ref a0, .int x1, .int x2, .int x3, .int x4, .ref ao]) ++ List.replicate (7 - (lg_sl ([.ref a0, .int x1, .int x2, .int x3, .int x4, .ref ao])).length) Slot.unset).toArray = ls at hl ⊢
  have hl : lv_has ls 7 [(0, .ref a0), (1, .int x1), (2, .int x2), (3, .int x3), (4, .int x4), (5, .ref ao)] := hl
  have hE : Ext S0 S0 := Ext.rf _
  refine lv_aload hx hb dL_arrives_0 (lv_at hl 5 rfl) ?_
  refine lv_iconst (v := 0) hx hb dL_arrives_2 (by decide) ?_
  refine lv_aload_n hx hb dL_arrives_3 rfl (lv_at hl 0 rfl) ?_
  refine lv_iload_n hx hb dL_arrives_4 rfl (lv_at hl 1 rfl) ?_
  refine lv_iload_n hx hb dL_arrives_5 rfl (lv_at hl 2 rfl) ?_
  refine lv_iload_n hx hb dL_arrives_6 rfl (lv_at hl 3 rfl) ?_
  refine lv_iload hx hb dL_arrives_7 (lv_at hl 4 rfl) ?_
  refine vx_calli (vx_runV (As := [.int x1, .int x2, .int x3, .int x4]) (rest := [.int 0, .ref ao]) ⟨hx, hb, hml, hown, hU⟩ (cw_X11_arrives l C (XL C ao f) n S0 hw.wf _ a0 x1 x2 x3 x4 Ta0 mc ms hst _ _ hm) (cwV 4 hU (pq_gV tw1058 tw1059 tw1060 tw1 tc_X11_arrives) rfl rfl rfl cd_X11_arrives ⟨Nat.le_of_ble_eq_true rfl, Nat.le_of_ble_eq_true rfl⟩) (pw_preV hw Ta0 (by decide) rfl) rfl rfl hl.1 rfl (lv_room (Nat.le_of_ble_eq_true rfl)) dL_arrives_9 ⟨by show 0 + mc ≤ mc; omega, by show 0 + ms ≤ ms; omega⟩) hw.S (fun q _ h => pw_free hw q h) (pw_free hw) (fun q _ h => pw_free hw q h) (fun Es ce q9 u t H1 locs1 ht hvm hpx hB hz1 hk1 hS hce hcv hcl => ?_) (fun r u t H1 locs1 ht hvm hq hB hz1 hk1 hS => ?_)
  · obtain ⟨k, S1⟩ := u
    obtain ⟨hEu, hF1, hEx⟩ := hpx
    obtain ⟨hes, hB⟩ := hB
    dsimp only at hEu hF1 hEx hes hB
    have hw := pw_xpost hw ht hvm hF1 hB hS
    rcases hEu with hEu | hEu
    · obtain ⟨rfl, hK⟩ := hEu
      have hes : Es = "java/util/NoSuchElementException" := hes
      subst hes
      refine fx_first (own := RL) (name := "java/util/NoSuchElementException") hown _ _ htab (by decide) (by decide) (hU _ tw991) (pq_N.use hw.fx.1.1 _ (List.mem_of_getElem? (i := 189) rfl)) hce hcv hcl ?_
      refine lv_astore (lv' := [(6, .ref q9), (0, .ref a0), (1, .int x1), (2, .int x2), (3, .int x3), (4, .int x4), (5, .ref ao)]) hx hb dL_arrives_17 hl (by decide) rfl (fun ls hl => ?_)
      refine lv_iconst (v := 1) hx hb dL_arrives_19 (by decide) ?_
      exact pw_lret hx hb hr hlk hw hEx hK (by omega) (by omega) dL_arrives_20
    · obtain ⟨rfl, hK⟩ := hEu
      have hes : Es = "java/lang/IllegalArgumentException" := hes
      subst hes
      refine fx_second (own := RL) (nmy := "java/util/NoSuchElementException") (name := "java/lang/IllegalArgumentException") hown _ _ _ htab (by decide) (by decide) (hU _ tw991) hw.fx.1.2.2.1 (by decide) (by decide) (hU _ tw481) (pq_N.use hw.fx.1.1 _ (List.mem_of_getElem? (i := 188) rfl)) hce hcv hcl ?_
      refine lv_astore (lv' := [(6, .ref q9), (0, .ref a0), (1, .int x1), (2, .int x2), (3, .int x3), (4, .int x4), (5, .ref ao)]) hx hb dL_arrives_21 hl (by decide) rfl (fun ls hl => ?_)
      refine lv_iconst (v := 2) hx hb dL_arrives_23 (by decide) ?_
      exact pw_lret hx hb hr hlk hw hEx hK (by omega) (by omega) dL_arrives_24
  · obtain ⟨hK, hF1, hEx⟩ := hq
    have hw := pw_xpost hw ht hvm hF1 hB hS
    refine lv_i2l (v := Int32.toInt64 r) hx hb dL_arrives_12 rfl ?_
    refine pw_last hx hb hw dL_arrives_13 (fun H locs hw => ?_)
    refine lv_goto (tgt := 25) hx hb dL_arrives_14 (by decide) ?_
    refine lv_iconst (v := 0) hx hb dL_arrives_25 (by decide) ?_
    exact pw_lret hx hb hr hlk hw hEx hK (by omega) (by omega) dL_arrives_26
abbrev rl_L_digs (mc ms : Nat) : Room := { frames := 9, cells := mc, slots := ms, locals := 153 }
theorem tc_L_digs : Cond.codeWith yL_digs cL_digs 5 (some .int) [(0, 10, 13, 31), (0, 10, 17, 13)] ∈ pq_U := tw1065
theorem cd_L_digs : yL_digs.cls ≠ "java/lang/invoke/MethodHandle" ∧ yL_digs.cls ≠ "java/lang/invoke/VarHandle" ∧ (parseMethodDescriptor yL_digs.desc).map (fun d => d.parameters.length) = some 4 := by decide +kernel
set_option maxHeartbeats 4000000 in
set_option maxRecDepth 100000 in
theorem cl_L_digs (l : Launch) (C : pq_C) (ao : Nat) (f : Nat → Int64) (n : Nat) (S0 : pq_S) (hF : WF S0) (sz : Nat) (a0 : Nat) (x1 : Int32) (x2 : Int32) (Ta0 : TY S0 a0 11) (mc ms : Nat) (hst : l.stackTraces = false) (K : Int32 → (Nat → Int64) → pq_S → Prop) (hm : wp_X11_digs n a0 x1 x2 S0 mc ms (fun (k : Nat) (S1 : pq_S) => (k = 2 ∧ K 1 f S1) ∨ (k = 1 ∧ K 2 f S1)) (fun r (S1 : pq_S) => K 0 (vp_updL f 0 (Int32.toInt64 r)) S1)) : vx_Met l yL_digs (.codeWith yL_digs cL_digs 5 (some .int) [(0, 10, 13, 31), (0, 10, 17, 13)] :: pq_U) (rl_L_digs mc ms) (va_Pc [.ref a0, .int x1, .int x2, .ref ao] (CPre C (XL C ao f) S0 sz)) (QwL C ao f S0 sz K) (XcN (pq_F C (XL C ao f) S0 sz)) mc ms (pq_F C (XL C ao f) S0 sz) := by
  refine vx_ofWH (cc := cL_digs) (maxL := 5) (ret := (some .int)) (hh := [(0, 10, 13, 31), (0, 10, 17, 13)]) (by decide) rfl ?_
  intro p e s m args below meth c s₁ B hml hv
  obtain ⟨rfl, hv⟩ := hv
  have hsz := hv.1
  subst hsz
  have hw := pw_entry hF hv
  have hts := atoms_spec (ws := .codeWith yL_digs cL_digs 5 (some .int) [(0, 10, 13, 31), (0, 10, 17, 13)] :: pq_U) B.pre
  have hU : ∀ w ∈ pq_U, w.before _ s = true := fun w h => hts w (List.mem_cons_of_mem _ h)
  have hx := B.exec
  have hb := B.bytes
  have hr := B.returns
  have htab : c.exceptionTable.toList = tableOf [(0, 10, 13, 31), (0, 10, 17, 13)] := vx_table (x := yL_digs) B (hts _ List.mem_cons_self)
  have hown : s.vm.findClass RL = some m.cls := findClass_of_methodNamed B.named
  have hlk := B.notSynchronized
  have hl := lv_entry ([.ref a0, .int x1, .int x2, .ref ao]) (n := 5) (Nat.le_of_ble_eq_true rfl)
  rw [lg_entry_eq]
  generalize (lg_sl ([.ref a0, .int x1, .int x2, .ref ao]) ++ List.replicate (5 - (lg_sl ([.ref a0, .int x1, .int x2, .ref ao])).length) Slot.unset).toArray = ls at hl ⊢
  have hl : lv_has ls 5 [(0, .ref a0), (1, .int x1), (2, .int x2), (3, .ref ao)] := hl
  have hE : Ext S0 S0 := Ext.rf _
  refine lv_aload_n hx hb dL_digs_0 rfl (lv_at hl 3 rfl) ?_
  refine lv_iconst (v := 0) hx hb dL_digs_1 (by decide) ?_
  refine lv_aload_n hx hb dL_digs_2 rfl (lv_at hl 0 rfl) ?_
  refine lv_iload_n hx hb dL_digs_3 rfl (lv_at hl 1 rfl) ?_
  refine lv_iload_n hx hb dL_digs_4 rfl (lv_at hl 2 rfl) ?_
  refine vx_calli (vx_runV (As := [.int x1, .int x2]) (rest := [.int 0, .ref ao]) ⟨hx, hb, hml, hown, hU⟩ (cw_X11_digs l C (XL C ao f) n S0 hw.wf _ a0 x1 x2 Ta0 mc ms hst _ _ hm) (cwV 2 hU (pq_gV tw1066 tw1067 tw1068 tw1 tc_X11_digs) rfl rfl rfl cd_X11_digs ⟨Nat.le_of_ble_eq_true rfl, Nat.le_of_ble_eq_true rfl⟩) (pw_preV hw Ta0 (by decide) rfl) rfl rfl hl.1 rfl (lv_room (Nat.le_of_ble_eq_true rfl)) dL_digs_5 ⟨by show 0 + mc ≤ mc; omega, by show 0 + ms ≤ ms; omega⟩) hw.S (fun q _ h => pw_free hw q h) (pw_free hw) (fun q _ h => pw_free hw q h) (fun Es ce q9 u t H1 locs1 ht hvm hpx hB hz1 hk1 hS hce hcv hcl => ?_) (fun r u t H1 locs1 ht hvm hq hB hz1 hk1 hS => ?_)
  · obtain ⟨k, S1⟩ := u
    obtain ⟨hEu, hF1, hEx⟩ := hpx
    obtain ⟨hes, hB⟩ := hB
    dsimp only at hEu hF1 hEx hes hB
    have hw := pw_xpost hw ht hvm hF1 hB hS
    rcases hEu with hEu | hEu
    · obtain ⟨rfl, hK⟩ := hEu
      have hes : Es = "java/util/NoSuchElementException" := hes
      subst hes
      refine fx_first (own := RL) (name := "java/util/NoSuchElementException") hown _ _ htab (by decide) (by decide) (hU _ tw991) (pq_N.use hw.fx.1.1 _ (List.mem_of_getElem? (i := 189) rfl)) hce hcv hcl ?_
      refine lv_astore (lv' := [(4, .ref q9), (0, .ref a0), (1, .int x1), (2, .int x2), (3, .ref ao)]) hx hb dL_digs_13 hl (by decide) rfl (fun ls hl => ?_)
      refine lv_iconst (v := 1) hx hb dL_digs_15 (by decide) ?_
      exact pw_lret hx hb hr hlk hw hEx hK (by omega) (by omega) dL_digs_16
    · obtain ⟨rfl, hK⟩ := hEu
      have hes : Es = "java/lang/IllegalArgumentException" := hes
      subst hes
      refine fx_second (own := RL) (nmy := "java/util/NoSuchElementException") (name := "java/lang/IllegalArgumentException") hown _ _ _ htab (by decide) (by decide) (hU _ tw991) hw.fx.1.2.2.1 (by decide) (by decide) (hU _ tw481) (pq_N.use hw.fx.1.1 _ (List.mem_of_getElem? (i := 188) rfl)) hce hcv hcl ?_
      refine lv_astore (lv' := [(4, .ref q9), (0, .ref a0), (1, .int x1), (2, .int x2), (3, .ref ao)]) hx hb dL_digs_17 hl (by decide) rfl (fun ls hl => ?_)
      refine lv_iconst (v := 2) hx hb dL_digs_19 (by decide) ?_
      exact pw_lret hx hb hr hlk hw hEx hK (by omega) (by omega) dL_digs_20
  · obtain ⟨hK, hF1, hEx⟩ := hq
    have hw := pw_xpost hw ht hvm hF1 hB hS
    refine lv_i2l (v := Int32.toInt64 r) hx hb dL_digs_8 rfl ?_
    refine pw_last hx hb hw dL_digs_9 (fun H locs hw => ?_)
    refine lv_goto (tgt := 21) hx hb dL_digs_10 (by decide) ?_
    refine lv_iconst (v := 0) hx hb dL_digs_21 (by decide) ?_
    exact pw_lret hx hb hr hlk hw hEx hK (by omega) (by omega) dL_digs_22
abbrev rl_L_can (mc ms : Nat) : Room := { frames := 9, cells := mc, slots := ms, locals := 152 }
theorem tc_L_can : Cond.codeWith yL_can cL_can 4 (some .int) [(0, 16, 19, 31)] ∈ pq_U := tw1073
theorem cd_L_can : yL_can.cls ≠ "java/lang/invoke/MethodHandle" ∧ yL_can.cls ≠ "java/lang/invoke/VarHandle" ∧ (parseMethodDescriptor yL_can.desc).map (fun d => d.parameters.length) = some 3 := by decide +kernel
set_option maxHeartbeats 4000000 in
set_option maxRecDepth 100000 in
theorem cl_L_can (l : Launch) (C : pq_C) (ao : Nat) (f : Nat → Int64) (n : Nat) (S0 : pq_S) (hF : WF S0) (sz : Nat) (a0 : Nat) (x1 : Int32) (Ta0 : TY S0 a0 11) (mc ms : Nat) (hst : l.stackTraces = false) (K : Int32 → (Nat → Int64) → pq_S → Prop) (hm : wp_X11_can n a0 x1 S0 mc ms (fun (k : Nat) (S1 : pq_S) => (k = 2 ∧ K 1 f S1)) (fun r (S1 : pq_S) => K 0 (vp_updL f 0 (if r = 0 then 0 else 1)) S1)) : vx_Met l yL_can (.codeWith yL_can cL_can 4 (some .int) [(0, 16, 19, 31)] :: pq_U) (rl_L_can mc ms) (va_Pc [.ref a0, .int x1, .ref ao] (CPre C (XL C ao f) S0 sz)) (QwL C ao f S0 sz K) (XcN (pq_F C (XL C ao f) S0 sz)) mc ms (pq_F C (XL C ao f) S0 sz) := by
  refine vx_ofWH (cc := cL_can) (maxL := 4) (ret := (some .int)) (hh := [(0, 16, 19, 31)]) (by decide) rfl ?_
  intro p e s m args below meth c s₁ B hml hv
  obtain ⟨rfl, hv⟩ := hv
  have hsz := hv.1
  subst hsz
  have hw := pw_entry hF hv
  have hts := atoms_spec (ws := .codeWith yL_can cL_can 4 (some .int) [(0, 16, 19, 31)] :: pq_U) B.pre
  have hU : ∀ w ∈ pq_U, w.before _ s = true := fun w h => hts w (List.mem_cons_of_mem _ h)
  have hx := B.exec
  have hb := B.bytes
  have hr := B.returns
  have htab : c.exceptionTable.toList = tableOf [(0, 16, 19, 31)] := vx_table (x := yL_can) B (hts _ List.mem_cons_self)
  have hown : s.vm.findClass RL = some m.cls := findClass_of_methodNamed B.named
  have hlk := B.notSynchronized
  have hl := lv_entry ([.ref a0, .int x1, .ref ao]) (n := 4) (Nat.le_of_ble_eq_true rfl)
  rw [lg_entry_eq]
  generalize (lg_sl ([.ref a0, .int x1, .ref ao]) ++ List.replicate (4 - (lg_sl ([.ref a0, .int x1, .ref ao])).length) Slot.unset).toArray = ls at hl ⊢
  have hl : lv_has ls 4 [(0, .ref a0), (1, .int x1), (2, .ref ao)] := hl
  have hE : Ext S0 S0 := Ext.rf _
  refine lv_aload_n hx hb dL_can_0 rfl (lv_at hl 2 rfl) ?_
  refine lv_iconst (v := 0) hx hb dL_can_1 (by decide) ?_
  refine lv_aload_n hx hb dL_can_2 rfl (lv_at hl 0 rfl) ?_
  refine lv_iload_n hx hb dL_can_3 rfl (lv_at hl 1 rfl) ?_
  refine vx_calli (vx_runV (As := [.int x1]) (rest := [.int 0, .ref ao]) ⟨hx, hb, hml, hown, hU⟩ (cw_X11_can l C (XL C ao f) n S0 hw.wf _ a0 x1 Ta0 mc ms hst _ _ hm) (cwV 1 hU (pq_gV tw1074 tw1075 tw1076 tw1 tc_X11_can) rfl rfl rfl cd_X11_can ⟨Nat.le_of_ble_eq_true rfl, Nat.le_of_ble_eq_true rfl⟩) (pw_preV hw Ta0 (by decide) rfl) rfl rfl hl.1 rfl (lv_room (Nat.le_of_ble_eq_true rfl)) dL_can_4 ⟨by show 0 + mc ≤ mc; omega, by show 0 + ms ≤ ms; omega⟩) hw.S (fun q _ h => pw_free hw q h) (pw_free hw) (fun q _ h => pw_free hw q h) (fun Es ce q9 u t H1 locs1 ht hvm hpx hB hz1 hk1 hS hce hcv hcl => ?_) (fun r u t H1 locs1 ht hvm hq hB hz1 hk1 hS => ?_)
  · obtain ⟨k, S1⟩ := u
    obtain ⟨hEu, hF1, hEx⟩ := hpx
    obtain ⟨hes, hB⟩ := hB
    dsimp only at hEu hF1 hEx hes hB
    have hw := pw_xpost hw ht hvm hF1 hB hS
    obtain ⟨rfl, hK⟩ := hEu
    have hes : Es = "java/util/NoSuchElementException" := hes
    subst hes
    refine fx_first (own := RL) (name := "java/util/NoSuchElementException") hown _ _ htab (by decide) (by decide) (hU _ tw991) (pq_N.use hw.fx.1.1 _ (List.mem_of_getElem? (i := 189) rfl)) hce hcv hcl ?_
    refine lv_astore_n (lv' := [(3, .ref q9), (0, .ref a0), (1, .int x1), (2, .ref ao)]) hx hb dL_can_19 rfl hl (by decide) rfl (fun ls hl => ?_)
    refine lv_iconst (v := 1) hx hb dL_can_20 (by decide) ?_
    exact pw_lret hx hb hr hlk hw hEx hK (by omega) (by omega) dL_can_21
  · obtain ⟨hK, hz, hF1, hEx⟩ := hq
    have hw := pw_xpost hw ht hvm hF1 hB hS
    refine lv_if_eq (tgt := 14) hx hb dL_can_7 (by decide) (fun h1 => ?_) (fun h1 => ?_)
    · rw [if_pos h1] at hK
      refine lv_lconst (v := 0) hx hb dL_can_14 (by decide) ?_
      refine pw_last hx hb hw dL_can_15 (fun H locs hw => ?_)
      refine lv_goto (tgt := 22) hx hb dL_can_16 (by decide) ?_
      refine lv_iconst (v := 0) hx hb dL_can_22 (by decide) ?_
      exact pw_lret hx hb hr hlk hw hEx hK (by omega) (by omega) dL_can_23
    · rw [if_neg h1] at hK
      refine lv_lconst (v := 1) hx hb dL_can_10 (by decide) ?_
      refine lv_goto (tgt := 15) hx hb dL_can_11 (by decide) ?_
      refine pw_last hx hb hw dL_can_15 (fun H locs hw => ?_)
      refine lv_goto (tgt := 22) hx hb dL_can_16 (by decide) ?_
      refine lv_iconst (v := 0) hx hb dL_can_22 (by decide) ?_
      exact pw_lret hx hb hr hlk hw hEx hK (by omega) (by omega) dL_can_23
abbrev rl_L_sales (mc ms : Nat) : Room := { frames := 70, cells := mc, slots := ms, locals := 1934 }
theorem tc_L_sales : Cond.codeWith yL_sales cL_sales 4 (some .int) [(0, 9, 12, 13)] ∈ pq_U := tw1081
theorem cd_L_sales : yL_sales.cls ≠ "java/lang/invoke/MethodHandle" ∧ yL_sales.cls ≠ "java/lang/invoke/VarHandle" ∧ (parseMethodDescriptor yL_sales.desc).map (fun d => d.parameters.length) = some 3 := by decide +kernel
set_option maxHeartbeats 4000000 in
set_option maxRecDepth 100000 in
theorem cl_L_sales (l : Launch) (C : pq_C) (ao : Nat) (f : Nat → Int64) (n : Nat) (S0 : pq_S) (hF : WF S0) (sz : Nat) (a0 : Nat) (x1 : Int32) (Ta0 : TY S0 a0 11) (mc ms : Nat) (hst : l.stackTraces = false) (K : Int32 → (Nat → Int64) → pq_S → Prop) (hm : wp_X11_sales n a0 x1 S0 mc ms (fun (k : Nat) (S1 : pq_S) => (k = 1 ∧ K 1 f S1)) (fun r (S1 : pq_S) => K 0 (vp_updL f 0 (Int32.toInt64 r)) S1)) : vx_Met l yL_sales (.codeWith yL_sales cL_sales 4 (some .int) [(0, 9, 12, 13)] :: pq_U) (rl_L_sales mc ms) (va_Pc [.ref a0, .int x1, .ref ao] (CPre C (XL C ao f) S0 sz)) (QwL C ao f S0 sz K) (XcN (pq_F C (XL C ao f) S0 sz)) mc ms (pq_F C (XL C ao f) S0 sz) := by
  refine vx_ofWH (cc := cL_sales) (maxL := 4) (ret := (some .int)) (hh := [(0, 9, 12, 13)]) (by decide) rfl ?_
  intro p e s m args below meth c s₁ B hml hv
  obtain ⟨rfl, hv⟩ := hv
  have hsz := hv.1
  subst hsz
  have hw := pw_entry hF hv
  have hts := atoms_spec (ws := .codeWith yL_sales cL_sales 4 (some .int) [(0, 9, 12, 13)] :: pq_U) B.pre
  have hU : ∀ w ∈ pq_U, w.before _ s = true := fun w h => hts w (List.mem_cons_of_mem _ h)
  have hx := B.exec
  have hb := B.bytes
  have hr := B.returns
  have htab : c.exceptionTable.toList = tableOf [(0, 9, 12, 13)] := vx_table (x := yL_sales) B (hts _ List.mem_cons_self)
  have hown : s.vm.findClass RL = some m.cls := findClass_of_methodNamed B.named
  have hlk := B.notSynchronized
  have hl := lv_entry ([.ref a0, .int x1, .ref ao]) (n := 4) (Nat.le_of_ble_eq_true rfl)
  rw [lg_entry_eq]
  generalize (lg_sl ([.ref a0, .int x1, .ref ao]) ++ List.replicate (4 - (lg_sl ([.ref a0, .int x1, .ref ao])).length) Slot.unset).toArray = ls at hl ⊢
  have hl : lv_has ls 4 [(0, .ref a0), (1, .int x1), (2, .ref ao)] := hl
  have hE : Ext S0 S0 := Ext.rf _
  refine lv_aload_n hx hb dL_sales_0 rfl (lv_at hl 2 rfl) ?_
  refine lv_iconst (v := 0) hx hb dL_sales_1 (by decide) ?_
  refine lv_aload_n hx hb dL_sales_2 rfl (lv_at hl 0 rfl) ?_
  refine lv_iload_n hx hb dL_sales_3 rfl (lv_at hl 1 rfl) ?_
  refine vx_calli (vx_runV (As := [.int x1]) (rest := [.int 0, .ref ao]) ⟨hx, hb, hml, hown, hU⟩ (cw_X11_sales l C (XL C ao f) n S0 hw.wf _ a0 x1 Ta0 mc ms hst _ _ hm) (cwV 1 hU (pq_gV tw1082 tw1083 tw1084 tw1 tc_X11_sales) rfl rfl rfl cd_X11_sales ⟨Nat.le_of_ble_eq_true rfl, Nat.le_of_ble_eq_true rfl⟩) (pw_preV hw Ta0 (by decide) rfl) rfl rfl hl.1 rfl (lv_room (Nat.le_of_ble_eq_true rfl)) dL_sales_4 ⟨by show 0 + mc ≤ mc; omega, by show 0 + ms ≤ ms; omega⟩) hw.S (fun q _ h => pw_free hw q h) (pw_free hw) (fun q _ h => pw_free hw q h) (fun Es ce q9 u t H1 locs1 ht hvm hpx hB hz1 hk1 hS hce hcv hcl => ?_) (fun r u t H1 locs1 ht hvm hq hB hz1 hk1 hS => ?_)
  · obtain ⟨k, S1⟩ := u
    obtain ⟨hEu, hF1, hEx⟩ := hpx
    obtain ⟨hes, hB⟩ := hB
    dsimp only at hEu hF1 hEx hes hB
    have hw := pw_xpost hw ht hvm hF1 hB hS
    obtain ⟨rfl, hK⟩ := hEu
    have hes : Es = "java/lang/IllegalArgumentException" := hes
    subst hes
    refine fx_first (own := RL) (name := "java/lang/IllegalArgumentException") hown _ _ htab (by decide) (by decide) (hU _ tw481) (pq_N.use hw.fx.1.1 _ (List.mem_of_getElem? (i := 188) rfl)) hce hcv hcl ?_
    refine lv_astore_n (lv' := [(3, .ref q9), (0, .ref a0), (1, .int x1), (2, .ref ao)]) hx hb dL_sales_12 rfl hl (by decide) rfl (fun ls hl => ?_)
    refine lv_iconst (v := 1) hx hb dL_sales_13 (by decide) ?_
    exact pw_lret hx hb hr hlk hw hEx hK (by omega) (by omega) dL_sales_14
  · obtain ⟨hK, hF1, hEx⟩ := hq
    have hw := pw_xpost hw ht hvm hF1 hB hS
    refine lv_i2l (v := Int32.toInt64 r) hx hb dL_sales_7 rfl ?_
    refine pw_last hx hb hw dL_sales_8 (fun H locs hw => ?_)
    refine lv_goto (tgt := 15) hx hb dL_sales_9 (by decide) ?_
    refine lv_iconst (v := 0) hx hb dL_sales_15 (by decide) ?_
    exact pw_lret hx hb hr hlk hw hEx hK (by omega) (by omega) dL_sales_16
abbrev rl_L_more (mc ms : Nat) : Room := { frames := 70, cells := mc, slots := ms, locals := 1935 }
theorem tc_L_more : Cond.codeWith yL_more cL_more 5 (some .int) [(0, 10, 13, 31), (0, 10, 17, 13)] ∈ pq_U := tw1118
theorem cd_L_more : yL_more.cls ≠ "java/lang/invoke/MethodHandle" ∧ yL_more.cls ≠ "java/lang/invoke/VarHandle" ∧ (parseMethodDescriptor yL_more.desc).map (fun d => d.parameters.length) = some 4 := by decide +kernel
set_option maxHeartbeats 4000000 in
set_option maxRecDepth 100000 in
theorem cl_L_more (l : Launch) (C : pq_C) (ao : Nat) (f : Nat → Int64) (n : Nat) (S0 : pq_S) (hF : WF S0) (sz : Nat) (a0 : Nat) (x1 : Int32) (x2 : Int32) (Ta0 : TY S0 a0 11) (mc ms : Nat) (hst : l.stackTraces = false) (K : Int32 → (Nat → Int64) → pq_S → Prop) (hm : wp_X11_more n a0 x1 x2 S0 mc ms (fun (k : Nat) (S1 : pq_S) => (k = 2 ∧ K 1 f S1) ∨ (k = 1 ∧ K 2 f S1)) (fun r (S1 : pq_S) => K 0 (vp_updL f 0 (Int32.toInt64 r)) S1)) : vx_Met l yL_more (.codeWith yL_more cL_more 5 (some .int) [(0, 10, 13, 31), (0, 10, 17, 13)] :: pq_U) (rl_L_more mc ms) (va_Pc [.ref a0, .int x1, .int x2, .ref ao] (CPre C (XL C ao f) S0 sz)) (QwL C ao f S0 sz K) (XcN (pq_F C (XL C ao f) S0 sz)) mc ms (pq_F C (XL C ao f) S0 sz) := by
  refine vx_ofWH (cc := cL_more) (maxL := 5) (ret := (some .int)) (hh := [(0, 10, 13, 31), (0, 10, 17, 13)]) (by decide) rfl ?_
  intro p e s m args below meth c s₁ B hml hv
  obtain ⟨rfl, hv⟩ := hv
  have hsz := hv.1
  subst hsz
  have hw := pw_entry hF hv
  have hts := atoms_spec (ws := .codeWith yL_more cL_more 5 (some .int) [(0, 10, 13, 31), (0, 10, 17, 13)] :: pq_U) B.pre
  have hU : ∀ w ∈ pq_U, w.before _ s = true := fun w h => hts w (List.mem_cons_of_mem _ h)
  have hx := B.exec
  have hb := B.bytes
  have hr := B.returns
  have htab : c.exceptionTable.toList = tableOf [(0, 10, 13, 31), (0, 10, 17, 13)] := vx_table (x := yL_more) B (hts _ List.mem_cons_self)
  have hown : s.vm.findClass RL = some m.cls := findClass_of_methodNamed B.named
  have hlk := B.notSynchronized
  have hl := lv_entry ([.ref a0, .int x1, .int x2, .ref ao]) (n := 5) (Nat.le_of_ble_eq_true rfl)
  rw [lg_entry_eq]
  generalize (lg_sl ([.ref a0, .int x1, .int x2, .ref ao]) ++ List.replicate (5 - (lg_sl ([.ref a0, .int x1, .int x2, .ref ao])).length) Slot.unset).toArray = ls at hl ⊢
  have hl : lv_has ls 5 [(0, .ref a0), (1, .int x1), (2, .int x2), (3, .ref ao)] := hl
  have hE : Ext S0 S0 := Ext.rf _
  refine lv_aload_n hx hb dL_more_0 rfl (lv_at hl 3 rfl) ?_
  refine lv_iconst (v := 0) hx hb dL_more_1 (by decide) ?_
  refine lv_aload_n hx hb dL_more_2 rfl (lv_at hl 0 rfl) ?_
  refine lv_iload_n hx hb dL_more_3 rfl (lv_at hl 1 rfl) ?_
  refine lv_iload_n hx hb dL_more_4 rfl (lv_at hl 2 rfl) ?_
  refine vx_calli (vx_runV (As := [.int x1, .int x2]) (rest := [.int 0, .ref ao]) ⟨hx, hb, hml, hown, hU⟩ (cw_X11_more l C (XL C ao f) n S0 hw.wf _ a0 x1 x2 Ta0 mc ms hst _ _ hm) (cwV 2 hU (pq_gV tw1119 tw1120 tw1121 tw1 tc_X11_more) rfl rfl rfl cd_X11_more ⟨Nat.le_of_ble_eq_true rfl, Nat.le_of_ble_eq_true rfl⟩) (pw_preV hw Ta0 (by decide) rfl) rfl rfl hl.1 rfl (lv_room (Nat.le_of_ble_eq_true rfl)) dL_more_5 ⟨by show 0 + mc ≤ mc; omega, by show 0 + ms ≤ ms; omega⟩) hw.S (fun q _ h => pw_free hw q h) (pw_free hw) (fun q _ h => pw_free hw q h) (fun Es ce q9 u t H1 locs1 ht hvm hpx hB hz1 hk1 hS hce hcv hcl => ?_) (fun r u t H1 locs1 ht hvm hq hB hz1 hk1 hS => ?_)
  · obtain ⟨k, S1⟩ := u
    obtain ⟨hEu, hF1, hEx⟩ := hpx
    obtain ⟨hes, hB⟩ := hB
    dsimp only at hEu hF1 hEx hes hB
    have hw := pw_xpost hw ht hvm hF1 hB hS
    rcases hEu with hEu | hEu
    · obtain ⟨rfl, hK⟩ := hEu
      have hes : Es = "java/util/NoSuchElementException" := hes
      subst hes
      refine fx_first (own := RL) (name := "java/util/NoSuchElementException") hown _ _ htab (by decide) (by decide) (hU _ tw991) (pq_N.use hw.fx.1.1 _ (List.mem_of_getElem? (i := 189) rfl)) hce hcv hcl ?_
      refine lv_astore (lv' := [(4, .ref q9), (0, .ref a0), (1, .int x1), (2, .int x2), (3, .ref ao)]) hx hb dL_more_13 hl (by decide) rfl (fun ls hl => ?_)
      refine lv_iconst (v := 1) hx hb dL_more_15 (by decide) ?_
      exact pw_lret hx hb hr hlk hw hEx hK (by omega) (by omega) dL_more_16
    · obtain ⟨rfl, hK⟩ := hEu
      have hes : Es = "java/lang/IllegalArgumentException" := hes
      subst hes
      refine fx_second (own := RL) (nmy := "java/util/NoSuchElementException") (name := "java/lang/IllegalArgumentException") hown _ _ _ htab (by decide) (by decide) (hU _ tw991) hw.fx.1.2.2.1 (by decide) (by decide) (hU _ tw481) (pq_N.use hw.fx.1.1 _ (List.mem_of_getElem? (i := 188) rfl)) hce hcv hcl ?_
      refine lv_astore (lv' := [(4, .ref q9), (0, .ref a0), (1, .int x1), (2, .int x2), (3, .ref ao)]) hx hb dL_more_17 hl (by decide) rfl (fun ls hl => ?_)
      refine lv_iconst (v := 2) hx hb dL_more_19 (by decide) ?_
      exact pw_lret hx hb hr hlk hw hEx hK (by omega) (by omega) dL_more_20
  · obtain ⟨hK, hF1, hEx⟩ := hq
    have hw := pw_xpost hw ht hvm hF1 hB hS
    refine lv_i2l (v := Int32.toInt64 r) hx hb dL_more_8 rfl ?_
    refine pw_last hx hb hw dL_more_9 (fun H locs hw => ?_)
    refine lv_goto (tgt := 21) hx hb dL_more_10 (by decide) ?_
    refine lv_iconst (v := 0) hx hb dL_more_21 (by decide) ?_
    exact pw_lret hx hb hr hlk hw hEx hK (by omega) (by omega) dL_more_22
abbrev rl_L_brings (mc ms : Nat) : Room := { frames := 71, cells := mc, slots := ms, locals := 1965 }
theorem tc_L_brings : Cond.codeWith yL_brings cL_brings 6 (some .int) [(0, 12, 15, 31), (0, 12, 19, 13)] ∈ pq_U := tw1125
theorem cd_L_brings : yL_brings.cls ≠ "java/lang/invoke/MethodHandle" ∧ yL_brings.cls ≠ "java/lang/invoke/VarHandle" ∧ (parseMethodDescriptor yL_brings.desc).map (fun d => d.parameters.length) = some 5 := by decide +kernel
set_option maxHeartbeats 4000000 in
set_option maxRecDepth 100000 in
theorem cl_L_brings (l : Launch) (C : pq_C) (ao : Nat) (f : Nat → Int64) (n : Nat) (S0 : pq_S) (hF : WF S0) (sz : Nat) (a0 : Nat) (x1 : Int32) (x2 : Int32) (x3 : Int32) (Ta0 : TY S0 a0 11) (mc ms : Nat) (hst : l.stackTraces = false) (K : Int32 → (Nat → Int64) → pq_S → Prop) (hm : wp_X11_brings n a0 x1 x2 x3 S0 mc ms (fun (k : Nat) (S1 : pq_S) => (k = 2 ∧ K 1 f S1) ∨ (k = 1 ∧ K 2 f S1)) (fun r (S1 : pq_S) => K 0 (vp_updL f 0 (Int32.toInt64 r)) S1)) : vx_Met l yL_brings (.codeWith yL_brings cL_brings 6 (some .int) [(0, 12, 15, 31), (0, 12, 19, 13)] :: pq_U) (rl_L_brings mc ms) (va_Pc [.ref a0, .int x1, .int x2, .int x3, .ref ao] (CPre C (XL C ao f) S0 sz)) (QwL C ao f S0 sz K) (XcN (pq_F C (XL C ao f) S0 sz)) mc ms (pq_F C (XL C ao f) S0 sz) := by
  refine vx_ofWH (cc := cL_brings) (maxL := 6) (ret := (some .int)) (hh := [(0, 12, 15, 31), (0, 12, 19, 13)]) (by decide) rfl ?_
  intro p e s m args below meth c s₁ B hml hv
  obtain ⟨rfl, hv⟩ := hv
  have hsz := hv.1
  subst hsz
  have hw := pw_entry hF hv
  have hts := atoms_spec (ws := .codeWith yL_brings cL_brings 6 (some .int) [(0, 12, 15, 31), (0, 12, 19, 13)] :: pq_U) B.pre
  have hU : ∀ w ∈ pq_U, w.before _ s = true := fun w h => hts w (List.mem_cons_of_mem _ h)
  have hx := B.exec
  have hb := B.bytes
  have hr := B.returns
  have htab : c.exceptionTable.toList = tableOf [(0, 12, 15, 31), (0, 12, 19, 13)] := vx_table (x := yL_brings) B (hts _ List.mem_cons_self)
  have hown : s.vm.findClass RL = some m.cls := findClass_of_methodNamed B.named
  have hlk := B.notSynchronized
  have hl := lv_entry ([.ref a0, .int x1, .int x2, .int x3, .ref ao]) (n := 6) (Nat.le_of_ble_eq_true rfl)
  rw [lg_entry_eq]
  generalize (lg_sl ([.ref a0, .int x1, .int x2, .int x3, .ref ao]) ++ List.replicate (6 - (lg_sl ([.ref a0, .int x1, .int x2, .int x3, .ref ao])).length) Slot.unset).toArray = ls at hl ⊢
  have hl : lv_has ls 6 [(0, .ref a0), (1, .int x1), (2, .int x2), (3, .int x3), (4, .ref ao)] := hl
  have hE : Ext S0 S0 := Ext.rf _
  refine lv_aload hx hb dL_brings_0 (lv_at hl 4 rfl) ?_
  refine lv_iconst (v := 0) hx hb dL_brings_2 (by decide) ?_
  refine lv_aload_n hx hb dL_brings_3 rfl (lv_at hl 0 rfl) ?_
  refine lv_iload_n hx hb dL_brings_4 rfl (lv_at hl 1 rfl) ?_
  refine lv_iload_n hx hb dL_brings_5 rfl (lv_at hl 2 rfl) ?_
  refine lv_iload_n hx hb dL_brings_6 rfl (lv_at hl 3 rfl) ?_
  refine vx_calli (vx_runV (As := [.int x1, .int x2, .int x3]) (rest := [.int 0, .ref ao]) ⟨hx, hb, hml, hown, hU⟩ (cw_X11_brings l C (XL C ao f) n S0 hw.wf _ a0 x1 x2 x3 Ta0 mc ms hst _ _ hm) (cwV 3 hU (pq_gV tw1126 tw1127 tw1128 tw1 tc_X11_brings) rfl rfl rfl cd_X11_brings ⟨Nat.le_of_ble_eq_true rfl, Nat.le_of_ble_eq_true rfl⟩) (pw_preV hw Ta0 (by decide) rfl) rfl rfl hl.1 rfl (lv_room (Nat.le_of_ble_eq_true rfl)) dL_brings_7 ⟨by show 0 + mc ≤ mc; omega, by show 0 + ms ≤ ms; omega⟩) hw.S (fun q _ h => pw_free hw q h) (pw_free hw) (fun q _ h => pw_free hw q h) (fun Es ce q9 u t H1 locs1 ht hvm hpx hB hz1 hk1 hS hce hcv hcl => ?_) (fun r u t H1 locs1 ht hvm hq hB hz1 hk1 hS => ?_)
  · obtain ⟨k, S1⟩ := u
    obtain ⟨hEu, hF1, hEx⟩ := hpx
    obtain ⟨hes, hB⟩ := hB
    dsimp only at hEu hF1 hEx hes hB
    have hw := pw_xpost hw ht hvm hF1 hB hS
    rcases hEu with hEu | hEu
    · obtain ⟨rfl, hK⟩ := hEu
      have hes : Es = "java/util/NoSuchElementException" := hes
      subst hes
      refine fx_first (own := RL) (name := "java/util/NoSuchElementException") hown _ _ htab (by decide) (by decide) (hU _ tw991) (pq_N.use hw.fx.1.1 _ (List.mem_of_getElem? (i := 189) rfl)) hce hcv hcl ?_
      refine lv_astore (lv' := [(5, .ref q9), (0, .ref a0), (1, .int x1), (2, .int x2), (3, .int x3), (4, .ref ao)]) hx hb dL_brings_15 hl (by decide) rfl (fun ls hl => ?_)
      refine lv_iconst (v := 1) hx hb dL_brings_17 (by decide) ?_
      exact pw_lret hx hb hr hlk hw hEx hK (by omega) (by omega) dL_brings_18
    · obtain ⟨rfl, hK⟩ := hEu
      have hes : Es = "java/lang/IllegalArgumentException" := hes
      subst hes
      refine fx_second (own := RL) (nmy := "java/util/NoSuchElementException") (name := "java/lang/IllegalArgumentException") hown _ _ _ htab (by decide) (by decide) (hU _ tw991) hw.fx.1.2.2.1 (by decide) (by decide) (hU _ tw481) (pq_N.use hw.fx.1.1 _ (List.mem_of_getElem? (i := 188) rfl)) hce hcv hcl ?_
      refine lv_astore (lv' := [(5, .ref q9), (0, .ref a0), (1, .int x1), (2, .int x2), (3, .int x3), (4, .ref ao)]) hx hb dL_brings_19 hl (by decide) rfl (fun ls hl => ?_)
      refine lv_iconst (v := 2) hx hb dL_brings_21 (by decide) ?_
      exact pw_lret hx hb hr hlk hw hEx hK (by omega) (by omega) dL_brings_22
  · obtain ⟨hK, hF1, hEx⟩ := hq
    have hw := pw_xpost hw ht hvm hF1 hB hS
    refine lv_i2l (v := Int32.toInt64 r) hx hb dL_brings_10 rfl ?_
    refine pw_last hx hb hw dL_brings_11 (fun H locs hw => ?_)
    refine lv_goto (tgt := 23) hx hb dL_brings_12 (by decide) ?_
    refine lv_iconst (v := 0) hx hb dL_brings_23 (by decide) ?_
    exact pw_lret hx hb hr hlk hw hEx hK (by omega) (by omega) dL_brings_24
abbrev rl_L_price (mc ms : Nat) : Room := { frames := 9, cells := mc, slots := ms, locals := 152 }
theorem tc_L_price : Cond.codeWith yL_price cL_price 4 (some .int) [(0, 9, 12, 31)] ∈ pq_U := tw1138
theorem cd_L_price : yL_price.cls ≠ "java/lang/invoke/MethodHandle" ∧ yL_price.cls ≠ "java/lang/invoke/VarHandle" ∧ (parseMethodDescriptor yL_price.desc).map (fun d => d.parameters.length) = some 3 := by decide +kernel
set_option maxHeartbeats 4000000 in
set_option maxRecDepth 100000 in
theorem cl_L_price (l : Launch) (C : pq_C) (ao : Nat) (f : Nat → Int64) (n : Nat) (S0 : pq_S) (hF : WF S0) (sz : Nat) (a0 : Nat) (x1 : Int32) (Ta0 : TY S0 a0 11) (mc ms : Nat) (hst : l.stackTraces = false) (K : Int32 → (Nat → Int64) → pq_S → Prop) (hm : wp_X11_price n a0 x1 S0 mc ms (fun (k : Nat) (S1 : pq_S) => (k = 2 ∧ K 1 f S1)) (fun r (S1 : pq_S) => K 0 (vp_updL f 0 (Int32.toInt64 r)) S1)) : vx_Met l yL_price (.codeWith yL_price cL_price 4 (some .int) [(0, 9, 12, 31)] :: pq_U) (rl_L_price mc ms) (va_Pc [.ref a0, .int x1, .ref ao] (CPre C (XL C ao f) S0 sz)) (QwL C ao f S0 sz K) (XcN (pq_F C (XL C ao f) S0 sz)) mc ms (pq_F C (XL C ao f) S0 sz) := by
  refine vx_ofWH (cc := cL_price) (maxL := 4) (ret := (some .int)) (hh := [(0, 9, 12, 31)]) (by decide) rfl ?_
  intro p e s m args below meth c s₁ B hml hv
  obtain ⟨rfl, hv⟩ := hv
  have hsz := hv.1
  subst hsz
  have hw := pw_entry hF hv
  have hts := atoms_spec (ws := .codeWith yL_price cL_price 4 (some .int) [(0, 9, 12, 31)] :: pq_U) B.pre
  have hU : ∀ w ∈ pq_U, w.before _ s = true := fun w h => hts w (List.mem_cons_of_mem _ h)
  have hx := B.exec
  have hb := B.bytes
  have hr := B.returns
  have htab : c.exceptionTable.toList = tableOf [(0, 9, 12, 31)] := vx_table (x := yL_price) B (hts _ List.mem_cons_self)
  have hown : s.vm.findClass RL = some m.cls := findClass_of_methodNamed B.named
  have hlk := B.notSynchronized
  have hl := lv_entry ([.ref a0, .int x1, .ref ao]) (n := 4) (Nat.le_of_ble_eq_true rfl)
  rw [lg_entry_eq]
  generalize (lg_sl ([.ref a0, .int x1, .ref ao]) ++ List.replicate (4 - (lg_sl ([.ref a0, .int x1, .ref ao])).length) Slot.unset).toArray = ls at hl ⊢
  have hl : lv_has ls 4 [(0, .ref a0), (1, .int x1), (2, .ref ao)] := hl
  have hE : Ext S0 S0 := Ext.rf _
  refine lv_aload_n hx hb dL_price_0 rfl (lv_at hl 2 rfl) ?_
  refine lv_iconst (v := 0) hx hb dL_price_1 (by decide) ?_
  refine lv_aload_n hx hb dL_price_2 rfl (lv_at hl 0 rfl) ?_
  refine lv_iload_n hx hb dL_price_3 rfl (lv_at hl 1 rfl) ?_
  refine vx_calli (vx_runV (As := [.int x1]) (rest := [.int 0, .ref ao]) ⟨hx, hb, hml, hown, hU⟩ (cw_X11_price l C (XL C ao f) n S0 hw.wf _ a0 x1 Ta0 mc ms hst _ _ hm) (cwV 1 hU (pq_gV tw1139 tw1140 tw1141 tw1 tc_X11_price) rfl rfl rfl cd_X11_price ⟨Nat.le_of_ble_eq_true rfl, Nat.le_of_ble_eq_true rfl⟩) (pw_preV hw Ta0 (by decide) rfl) rfl rfl hl.1 rfl (lv_room (Nat.le_of_ble_eq_true rfl)) dL_price_4 ⟨by show 0 + mc ≤ mc; omega, by show 0 + ms ≤ ms; omega⟩) hw.S (fun q _ h => pw_free hw q h) (pw_free hw) (fun q _ h => pw_free hw q h) (fun Es ce q9 u t H1 locs1 ht hvm hpx hB hz1 hk1 hS hce hcv hcl => ?_) (fun r u t H1 locs1 ht hvm hq hB hz1 hk1 hS => ?_)
  · obtain ⟨k, S1⟩ := u
    obtain ⟨hEu, hF1, hEx⟩ := hpx
    obtain ⟨hes, hB⟩ := hB
    dsimp only at hEu hF1 hEx hes hB
    have hw := pw_xpost hw ht hvm hF1 hB hS
    obtain ⟨rfl, hK⟩ := hEu
    have hes : Es = "java/util/NoSuchElementException" := hes
    subst hes
    refine fx_first (own := RL) (name := "java/util/NoSuchElementException") hown _ _ htab (by decide) (by decide) (hU _ tw991) (pq_N.use hw.fx.1.1 _ (List.mem_of_getElem? (i := 189) rfl)) hce hcv hcl ?_
    refine lv_astore_n (lv' := [(3, .ref q9), (0, .ref a0), (1, .int x1), (2, .ref ao)]) hx hb dL_price_12 rfl hl (by decide) rfl (fun ls hl => ?_)
    refine lv_iconst (v := 1) hx hb dL_price_13 (by decide) ?_
    exact pw_lret hx hb hr hlk hw hEx hK (by omega) (by omega) dL_price_14
  · obtain ⟨hK, hF1, hEx⟩ := hq
    have hw := pw_xpost hw ht hvm hF1 hB hS
    refine lv_i2l (v := Int32.toInt64 r) hx hb dL_price_7 rfl ?_
    refine pw_last hx hb hw dL_price_8 (fun H locs hw => ?_)
    refine lv_goto (tgt := 15) hx hb dL_price_9 (by decide) ?_
    refine lv_iconst (v := 0) hx hb dL_price_15 (by decide) ?_
    exact pw_lret hx hb hr hlk hw hEx hK (by omega) (by omega) dL_price_16
abbrev rl_L_corner (mc ms : Nat) : Room := { frames := 9, cells := mc, slots := ms, locals := 153 }
theorem tc_L_corner : Cond.codeWith yL_corner cL_corner 5 (some .int) [(0, 10, 13, 31), (0, 10, 17, 13)] ∈ pq_U := tw1151
theorem cd_L_corner : yL_corner.cls ≠ "java/lang/invoke/MethodHandle" ∧ yL_corner.cls ≠ "java/lang/invoke/VarHandle" ∧ (parseMethodDescriptor yL_corner.desc).map (fun d => d.parameters.length) = some 4 := by decide +kernel
set_option maxHeartbeats 4000000 in
set_option maxRecDepth 100000 in
theorem cl_L_corner (l : Launch) (C : pq_C) (ao : Nat) (f : Nat → Int64) (n : Nat) (S0 : pq_S) (hF : WF S0) (sz : Nat) (a0 : Nat) (x1 : Int32) (x2 : Int32) (Ta0 : TY S0 a0 11) (mc ms : Nat) (hst : l.stackTraces = false) (K : Int32 → (Nat → Int64) → pq_S → Prop) (hm : wp_X11_corner n a0 x1 x2 S0 mc ms (fun (k : Nat) (S1 : pq_S) => (k = 2 ∧ K 1 f S1) ∨ (k = 1 ∧ K 2 f S1)) (fun r (S1 : pq_S) => K 0 (vp_updL f 0 (Int32.toInt64 r)) S1)) : vx_Met l yL_corner (.codeWith yL_corner cL_corner 5 (some .int) [(0, 10, 13, 31), (0, 10, 17, 13)] :: pq_U) (rl_L_corner mc ms) (va_Pc [.ref a0, .int x1, .int x2, .ref ao] (CPre C (XL C ao f) S0 sz)) (QwL C ao f S0 sz K) (XcN (pq_F C (XL C ao f) S0 sz)) mc ms (pq_F C (XL C ao f) S0 sz) := by
  refine vx_ofWH (cc := cL_corner) (maxL := 5) (ret := (some .int)) (hh := [(0, 10, 13, 31), (0, 10, 17, 13)]) (by decide) rfl ?_
  intro p e s m args below meth c s₁ B hml hv
  obtain ⟨rfl, hv⟩ := hv
  have hsz := hv.1
  subst hsz
  have hw := pw_entry hF hv
  have hts := atoms_spec (ws := .codeWith yL_corner cL_corner 5 (some .int) [(0, 10, 13, 31), (0, 10, 17, 13)] :: pq_U) B.pre
  have hU : ∀ w ∈ pq_U, w.before _ s = true := fun w h => hts w (List.mem_cons_of_mem _ h)
  have hx := B.exec
  have hb := B.bytes
  have hr := B.returns
  have htab : c.exceptionTable.toList = tableOf [(0, 10, 13, 31), (0, 10, 17, 13)] := vx_table (x := yL_corner) B (hts _ List.mem_cons_self)
  have hown : s.vm.findClass RL = some m.cls := findClass_of_methodNamed B.named
  have hlk := B.notSynchronized
  have hl := lv_entry ([.ref a0, .int x1, .int x2, .ref ao]) (n := 5) (Nat.le_of_ble_eq_true rfl)
  rw [lg_entry_eq]
  generalize (lg_sl ([.ref a0, .int x1, .int x2, .ref ao]) ++ List.replicate (5 - (lg_sl ([.ref a0, .int x1, .int x2, .ref ao])).length) Slot.unset).toArray = ls at hl ⊢
  have hl : lv_has ls 5 [(0, .ref a0), (1, .int x1), (2, .int x2), (3, .ref ao)] := hl
  have hE : Ext S0 S0 := Ext.rf _
  refine lv_aload_n hx hb dL_corner_0 rfl (lv_at hl 3 rfl) ?_
  refine lv_iconst (v := 0) hx hb dL_corner_1 (by decide) ?_
  refine lv_aload_n hx hb dL_corner_2 rfl (lv_at hl 0 rfl) ?_
  refine lv_iload_n hx hb dL_corner_3 rfl (lv_at hl 1 rfl) ?_
  refine lv_iload_n hx hb dL_corner_4 rfl (lv_at hl 2 rfl) ?_
  refine vx_calli (vx_runV (As := [.int x1, .int x2]) (rest := [.int 0, .ref ao]) ⟨hx, hb, hml, hown, hU⟩ (cw_X11_corner l C (XL C ao f) n S0 hw.wf _ a0 x1 x2 Ta0 mc ms hst _ _ hm) (cwV 2 hU (pq_gV tw1152 tw1153 tw1154 tw1 tc_X11_corner) rfl rfl rfl cd_X11_corner ⟨Nat.le_of_ble_eq_true rfl, Nat.le_of_ble_eq_true rfl⟩) (pw_preV hw Ta0 (by decide) rfl) rfl rfl hl.1 rfl (lv_room (Nat.le_of_ble_eq_true rfl)) dL_corner_5 ⟨by show 0 + mc ≤ mc; omega, by show 0 + ms ≤ ms; omega⟩) hw.S (fun q _ h => pw_free hw q h) (pw_free hw) (fun q _ h => pw_free hw q h) (fun Es ce q9 u t H1 locs1 ht hvm hpx hB hz1 hk1 hS hce hcv hcl => ?_) (fun r u t H1 locs1 ht hvm hq hB hz1 hk1 hS => ?_)
  · obtain ⟨k, S1⟩ := u
    obtain ⟨hEu, hF1, hEx⟩ := hpx
    obtain ⟨hes, hB⟩ := hB
    dsimp only at hEu hF1 hEx hes hB
    have hw := pw_xpost hw ht hvm hF1 hB hS
    rcases hEu with hEu | hEu
    · obtain ⟨rfl, hK⟩ := hEu
      have hes : Es = "java/util/NoSuchElementException" := hes
      subst hes
      refine fx_first (own := RL) (name := "java/util/NoSuchElementException") hown _ _ htab (by decide) (by decide) (hU _ tw991) (pq_N.use hw.fx.1.1 _ (List.mem_of_getElem? (i := 189) rfl)) hce hcv hcl ?_
      refine lv_astore (lv' := [(4, .ref q9), (0, .ref a0), (1, .int x1), (2, .int x2), (3, .ref ao)]) hx hb dL_corner_13 hl (by decide) rfl (fun ls hl => ?_)
      refine lv_iconst (v := 1) hx hb dL_corner_15 (by decide) ?_
      exact pw_lret hx hb hr hlk hw hEx hK (by omega) (by omega) dL_corner_16
    · obtain ⟨rfl, hK⟩ := hEu
      have hes : Es = "java/lang/IllegalArgumentException" := hes
      subst hes
      refine fx_second (own := RL) (nmy := "java/util/NoSuchElementException") (name := "java/lang/IllegalArgumentException") hown _ _ _ htab (by decide) (by decide) (hU _ tw991) hw.fx.1.2.2.1 (by decide) (by decide) (hU _ tw481) (pq_N.use hw.fx.1.1 _ (List.mem_of_getElem? (i := 188) rfl)) hce hcv hcl ?_
      refine lv_astore (lv' := [(4, .ref q9), (0, .ref a0), (1, .int x1), (2, .int x2), (3, .ref ao)]) hx hb dL_corner_17 hl (by decide) rfl (fun ls hl => ?_)
      refine lv_iconst (v := 2) hx hb dL_corner_19 (by decide) ?_
      exact pw_lret hx hb hr hlk hw hEx hK (by omega) (by omega) dL_corner_20
  · obtain ⟨hK, hF1, hEx⟩ := hq
    have hw := pw_xpost hw ht hvm hF1 hB hS
    refine lv_i2l (v := Int32.toInt64 r) hx hb dL_corner_8 rfl ?_
    refine pw_last hx hb hw dL_corner_9 (fun H locs hw => ?_)
    refine lv_goto (tgt := 21) hx hb dL_corner_10 (by decide) ?_
    refine lv_iconst (v := 0) hx hb dL_corner_21 (by decide) ?_
    exact pw_lret hx hb hr hlk hw hEx hK (by omega) (by omega) dL_corner_22
abbrev rl_L_option (mc ms : Nat) : Room := { frames := 67, cells := mc, slots := ms, locals := 2277 }
theorem tc_L_option : Cond.codeWith yL_option cL_option 10 (some .int) [(0, 19, 22, 13)] ∈ pq_U := tw1162
theorem cd_L_option : yL_option.cls ≠ "java/lang/invoke/MethodHandle" ∧ yL_option.cls ≠ "java/lang/invoke/VarHandle" ∧ (parseMethodDescriptor yL_option.desc).map (fun d => d.parameters.length) = some 9 := by decide +kernel
set_option maxHeartbeats 4000000 in
set_option maxRecDepth 100000 in
theorem cl_L_option (l : Launch) (C : pq_C) (ao : Nat) (f : Nat → Int64) (n : Nat) (S0 : pq_S) (hF : WF S0) (sz : Nat) (a0 : Nat) (x1 : Int32) (x2 : Int32) (x3 : Int32) (x4 : Int32) (x5 : Int32) (x6 : Int32) (x7 : Int32) (Ta0 : TY S0 a0 11) (mc ms : Nat) (hst : l.stackTraces = false) (K : Int32 → (Nat → Int64) → pq_S → Prop) (hm : wp_X11_option n a0 x1 x2 x3 x4 x5 x6 x7 S0 mc ms (fun (k : Nat) (S1 : pq_S) => (k = 1 ∧ K 1 f S1)) (fun r (S1 : pq_S) => K 0 (vp_updL f 0 r) S1)) : vx_Met l yL_option (.codeWith yL_option cL_option 10 (some .int) [(0, 19, 22, 13)] :: pq_U) (rl_L_option mc ms) (va_Pc [.ref a0, .int x1, .int x2, .int x3, .int x4, .int x5, .int x6, .int x7, .ref ao] (CPre C (XL C ao f) S0 sz)) (QwL C ao f S0 sz K) (XcN (pq_F C (XL C ao f) S0 sz)) mc ms (pq_F C (XL C ao f) S0 sz) := by
  refine vx_ofWH (cc := cL_option) (maxL := 10) (ret := (some .int)) (hh := [(0, 19, 22, 13)]) (by decide) rfl ?_
  intro p e s m args below meth c s₁ B hml hv
  obtain ⟨rfl, hv⟩ := hv
  have hsz := hv.1
  subst hsz
  have hw := pw_entry hF hv
  have hts := atoms_spec (ws := .codeWith yL_option cL_option 10 (some .int) [(0, 19, 22, 13)] :: pq_U) B.pre
  have hU : ∀ w ∈ pq_U, w.before _ s = true := fun w h => hts w (List.mem_cons_of_mem _ h)
  have hx := B.exec
  have hb := B.bytes
  have hr := B.returns
  have htab : c.exceptionTable.toList = tableOf [(0, 19, 22, 13)] := vx_table (x := yL_option) B (hts _ List.mem_cons_self)
  have hown : s.vm.findClass RL = some m.cls := findClass_of_methodNamed B.named
  have hlk := B.notSynchronized
  have hl := lv_entry ([.ref a0, .int x1, .int x2, .int x3, .int x4, .int x5, .int x6, .int x7, .ref ao]) (n := 10) (Nat.le_of_ble_eq_true rfl)
  rw [lg_entry_eq]
  generalize (lg_sl ([.ref a0, .int x1, .int x2, .int x3, .int x4, .int x5, .int x6, .int x7, .ref ao]) ++ List.replicate (10 - (lg_sl ([.ref a0, .int x1, .int x2, .int x3, .int x4, .int x5, .int x6, .int x7, .ref ao])).length) Slot.unset).toArray = ls at hl ⊢
  have hl : lv_has ls 10 [(0, .ref a0), (1, .int x1), (2, .int x2), (3, .int x3), (4, .int x4), (5, .int x5), (6, .int x6), (7, .int x7), (8, .ref ao)] := hl
  have hE : Ext S0 S0 := Ext.rf _
  refine lv_aload hx hb dL_option_0 (lv_at hl 8 rfl) ?_
  refine lv_iconst (v := 0) hx hb dL_option_2 (by decide) ?_
  refine lv_aload_n hx hb dL_option_3 rfl (lv_at hl 0 rfl) ?_
  refine lv_iload_n hx hb dL_option_4 rfl (lv_at hl 1 rfl) ?_
  refine lv_iload_n hx hb dL_option_5 rfl (lv_at hl 2 rfl) ?_
  refine lv_iload_n hx hb dL_option_6 rfl (lv_at hl 3 rfl) ?_
  refine lv_iload hx hb dL_option_7 (lv_at hl 4 rfl) ?_
  refine lv_iload hx hb dL_option_9 (lv_at hl 5 rfl) ?_
  refine lv_iload hx hb dL_option_11 (lv_at hl 6 rfl) ?_
  refine lv_iload hx hb dL_option_13 (lv_at hl 7 rfl) ?_
  refine vx_calll (vx_runV (As := [.int x1, .int x2, .int x3, .int x4, .int x5, .int x6, .int x7]) (rest := [.int 0, .ref ao]) ⟨hx, hb, hml, hown, hU⟩ (cw_X11_option l C (XL C ao f) n S0 hw.wf _ a0 x1 x2 x3 x4 x5 x6 x7 Ta0 mc ms hst _ _ hm) (cwV 7 hU (pq_gV tw1163 tw1164 tw1165 tw1 tc_X11_option) rfl rfl rfl cd_X11_option ⟨Nat.le_of_ble_eq_true rfl, Nat.le_of_ble_eq_true rfl⟩) (pw_preV hw Ta0 (by decide) rfl) rfl rfl hl.1 rfl (lv_room (Nat.le_of_ble_eq_true rfl)) dL_option_15 ⟨by show 0 + mc ≤ mc; omega, by show 0 + ms ≤ ms; omega⟩) hw.S (fun q _ h => pw_free hw q h) (pw_free hw) (fun q _ h => pw_free hw q h) (fun Es ce q9 u t H1 locs1 ht hvm hpx hB hz1 hk1 hS hce hcv hcl => ?_) (fun r u t H1 locs1 ht hvm hq hB hz1 hk1 hS => ?_)
  · obtain ⟨k, S1⟩ := u
    obtain ⟨hEu, hF1, hEx⟩ := hpx
    obtain ⟨hes, hB⟩ := hB
    dsimp only at hEu hF1 hEx hes hB
    have hw := pw_xpost hw ht hvm hF1 hB hS
    obtain ⟨rfl, hK⟩ := hEu
    have hes : Es = "java/lang/IllegalArgumentException" := hes
    subst hes
    refine fx_first (own := RL) (name := "java/lang/IllegalArgumentException") hown _ _ htab (by decide) (by decide) (hU _ tw481) (pq_N.use hw.fx.1.1 _ (List.mem_of_getElem? (i := 188) rfl)) hce hcv hcl ?_
    refine lv_astore (lv' := [(9, .ref q9), (0, .ref a0), (1, .int x1), (2, .int x2), (3, .int x3), (4, .int x4), (5, .int x5), (6, .int x6), (7, .int x7), (8, .ref ao)]) hx hb dL_option_22 hl (by decide) rfl (fun ls hl => ?_)
    refine lv_iconst (v := 1) hx hb dL_option_24 (by decide) ?_
    exact pw_lret hx hb hr hlk hw hEx hK (by omega) (by omega) dL_option_25
  · obtain ⟨hK, hF1, hEx⟩ := hq
    have hw := pw_xpost hw ht hvm hF1 hB hS
    refine pw_last hx hb hw dL_option_18 (fun H locs hw => ?_)
    refine lv_goto (tgt := 26) hx hb dL_option_19 (by decide) ?_
    refine lv_iconst (v := 0) hx hb dL_option_26 (by decide) ?_
    exact pw_lret hx hb hr hlk hw hEx hK (by omega) (by omega) dL_option_27
abbrev rl_L_late (mc ms : Nat) : Room := { frames := 67, cells := mc, slots := ms, locals := 2277 }
theorem tc_L_late : Cond.codeWith yL_late cL_late 10 (some .int) [(0, 19, 22, 13)] ∈ pq_U := tw1186
theorem cd_L_late : yL_late.cls ≠ "java/lang/invoke/MethodHandle" ∧ yL_late.cls ≠ "java/lang/invoke/VarHandle" ∧ (parseMethodDescriptor yL_late.desc).map (fun d => d.parameters.length) = some 9 := by decide +kernel
set_option maxHeartbeats 4000000 in
set_option maxRecDepth 100000 in
theorem cl_L_late (l : Launch) (C : pq_C) (ao : Nat) (f : Nat → Int64) (n : Nat) (S0 : pq_S) (hF : WF S0) (sz : Nat) (a0 : Nat) (x1 : Int32) (x2 : Int32) (x3 : Int32) (x4 : Int32) (x5 : Int32) (x6 : Int32) (x7 : Int32) (Ta0 : TY S0 a0 11) (mc ms : Nat) (hst : l.stackTraces = false) (K : Int32 → (Nat → Int64) → pq_S → Prop) (hm : wp_X11_late n a0 x1 x2 x3 x4 x5 x6 x7 S0 mc ms (fun (k : Nat) (S1 : pq_S) => (k = 1 ∧ K 1 f S1)) (fun r (S1 : pq_S) => K 0 (vp_updL f 0 r) S1)) : vx_Met l yL_late (.codeWith yL_late cL_late 10 (some .int) [(0, 19, 22, 13)] :: pq_U) (rl_L_late mc ms) (va_Pc [.ref a0, .int x1, .int x2, .int x3, .int x4, .int x5, .int x6, .int x7, .ref ao] (CPre C (XL C ao f) S0 sz)) (QwL C ao f S0 sz K) (XcN (pq_F C (XL C ao f) S0 sz)) mc ms (pq_F C (XL C ao f) S0 sz) := by
  refine vx_ofWH (cc := cL_late) (maxL := 10) (ret := (some .int)) (hh := [(0, 19, 22, 13)]) (by decide) rfl ?_
  intro p e s m args below meth c s₁ B hml hv
  obtain ⟨rfl, hv⟩ := hv
  have hsz := hv.1
  subst hsz
  have hw := pw_entry hF hv
  have hts := atoms_spec (ws := .codeWith yL_late cL_late 10 (some .int) [(0, 19, 22, 13)] :: pq_U) B.pre
  have hU : ∀ w ∈ pq_U, w.before _ s = true := fun w h => hts w (List.mem_cons_of_mem _ h)
  have hx := B.exec
  have hb := B.bytes
  have hr := B.returns
  have htab : c.exceptionTable.toList = tableOf [(0, 19, 22, 13)] := vx_table (x := yL_late) B (hts _ List.mem_cons_self)
  have hown : s.vm.findClass RL = some m.cls := findClass_of_methodNamed B.named
  have hlk := B.notSynchronized
  have hl := lv_entry ([.ref a0, .int x1, .int x2, .int x3, .int x4, .int x5, .int x6, .int x7, .ref ao]) (n := 10) (Nat.le_of_ble_eq_true rfl)
  rw [lg_entry_eq]
  generalize (lg_sl ([.ref a0, .int x1, .int x2, .int x3, .int x4, .int x5, .int x6, .int x7, .ref ao]) ++ List.replicate (10 - (lg_sl ([.ref a0, .int x1, .int x2, .int x3, .int x4, .int x5, .int x6, .int x7, .ref ao])).length) Slot.unset).toArray = ls at hl ⊢
  have hl : lv_has ls 10 [(0, .ref a0), (1, .int x1), (2, .int x2), (3, .int x3), (4, .int x4), (5, .int x5), (6, .int x6), (7, .int x7), (8, .ref ao)] := hl
  have hE : Ext S0 S0 := Ext.rf _
  refine lv_aload hx hb dL_late_0 (lv_at hl 8 rfl) ?_
  refine lv_iconst (v := 0) hx hb dL_late_2 (by decide) ?_
  refine lv_aload_n hx hb dL_late_3 rfl (lv_at hl 0 rfl) ?_
  refine lv_iload_n hx hb dL_late_4 rfl (lv_at hl 1 rfl) ?_
  refine lv_iload_n hx hb dL_late_5 rfl (lv_at hl 2 rfl) ?_
  refine lv_iload_n hx hb dL_late_6 rfl (lv_at hl 3 rfl) ?_
  refine lv_iload hx hb dL_late_7 (lv_at hl 4 rfl) ?_
  refine lv_iload hx hb dL_late_9 (lv_at hl 5 rfl) ?_
  refine lv_iload hx hb dL_late_11 (lv_at hl 6 rfl) ?_
  refine lv_iload hx hb dL_late_13 (lv_at hl 7 rfl) ?_
  refine vx_calll (vx_runV (As := [.int x1, .int x2, .int x3, .int x4, .int x5, .int x6, .int x7]) (rest := [.int 0, .ref ao]) ⟨hx, hb, hml, hown, hU⟩ (cw_X11_late l C (XL C ao f) n S0 hw.wf _ a0 x1 x2 x3 x4 x5 x6 x7 Ta0 mc ms hst _ _ hm) (cwV 7 hU (pq_gV tw1187 tw1188 tw1189 tw1 tc_X11_late) rfl rfl rfl cd_X11_late ⟨Nat.le_of_ble_eq_true rfl, Nat.le_of_ble_eq_true rfl⟩) (pw_preV hw Ta0 (by decide) rfl) rfl rfl hl.1 rfl (lv_room (Nat.le_of_ble_eq_true rfl)) dL_late_15 ⟨by show 0 + mc ≤ mc; omega, by show 0 + ms ≤ ms; omega⟩) hw.S (fun q _ h => pw_free hw q h) (pw_free hw) (fun q _ h => pw_free hw q h) (fun Es ce q9 u t H1 locs1 ht hvm hpx hB hz1 hk1 hS hce hcv hcl => ?_) (fun r u t H1 locs1 ht hvm hq hB hz1 hk1 hS => ?_)
  · obtain ⟨k, S1⟩ := u
    obtain ⟨hEu, hF1, hEx⟩ := hpx
    obtain ⟨hes, hB⟩ := hB
    dsimp only at hEu hF1 hEx hes hB
    have hw := pw_xpost hw ht hvm hF1 hB hS
    obtain ⟨rfl, hK⟩ := hEu
    have hes : Es = "java/lang/IllegalArgumentException" := hes
    subst hes
    refine fx_first (own := RL) (name := "java/lang/IllegalArgumentException") hown _ _ htab (by decide) (by decide) (hU _ tw481) (pq_N.use hw.fx.1.1 _ (List.mem_of_getElem? (i := 188) rfl)) hce hcv hcl ?_
    refine lv_astore (lv' := [(9, .ref q9), (0, .ref a0), (1, .int x1), (2, .int x2), (3, .int x3), (4, .int x4), (5, .int x5), (6, .int x6), (7, .int x7), (8, .ref ao)]) hx hb dL_late_22 hl (by decide) rfl (fun ls hl => ?_)
    refine lv_iconst (v := 1) hx hb dL_late_24 (by decide) ?_
    exact pw_lret hx hb hr hlk hw hEx hK (by omega) (by omega) dL_late_25
  · obtain ⟨hK, hF1, hEx⟩ := hq
    have hw := pw_xpost hw ht hvm hF1 hB hS
    refine pw_last hx hb hw dL_late_18 (fun H locs hw => ?_)
    refine lv_goto (tgt := 26) hx hb dL_late_19 (by decide) ?_
    refine lv_iconst (v := 0) hx hb dL_late_26 (by decide) ?_
    exact pw_lret hx hb hr hlk hw hEx hK (by omega) (by omega) dL_late_27
abbrev rl_L_now (mc ms : Nat) : Room := { frames := 67, cells := mc, slots := ms, locals := 2276 }
theorem tc_L_now : Cond.codeWith yL_now cL_now 9 (some .int) [(0, 25, 28, 13)] ∈ pq_U := tw1193
theorem cd_L_now : yL_now.cls ≠ "java/lang/invoke/MethodHandle" ∧ yL_now.cls ≠ "java/lang/invoke/VarHandle" ∧ (parseMethodDescriptor yL_now.desc).map (fun d => d.parameters.length) = some 8 := by decide +kernel
set_option maxHeartbeats 4000000 in
set_option maxRecDepth 100000 in
theorem cl_L_now (l : Launch) (C : pq_C) (ao : Nat) (f : Nat → Int64) (n : Nat) (S0 : pq_S) (hF : WF S0) (sz : Nat) (a0 : Nat) (x1 : Int32) (x2 : Int32) (x3 : Int32) (x4 : Int32) (x5 : Int32) (x6 : Int32) (Ta0 : TY S0 a0 11) (mc ms : Nat) (hst : l.stackTraces = false) (K : Int32 → (Nat → Int64) → pq_S → Prop) (hm : wp_X11_now n a0 x1 x2 x3 x4 x5 x6 S0 mc ms (fun (k : Nat) (S1 : pq_S) => (k = 1 ∧ K 1 f S1)) (fun r (S1 : pq_S) => K 0 (vp_updL f 0 (if r = 0 then 0 else 1)) S1)) : vx_Met l yL_now (.codeWith yL_now cL_now 9 (some .int) [(0, 25, 28, 13)] :: pq_U) (rl_L_now mc ms) (va_Pc [.ref a0, .int x1, .int x2, .int x3, .int x4, .int x5, .int x6, .ref ao] (CPre C (XL C ao f) S0 sz)) (QwL C ao f S0 sz K) (XcN (pq_F C (XL C ao f) S0 sz)) mc ms (pq_F C (XL C ao f) S0 sz) := by
  refine vx_ofWH (cc := cL_now) (maxL := 9) (ret := (some .int)) (hh := [(0, 25, 28, 13)]) (by decide) rfl ?_
  intro p e s m args below meth c s₁ B hml hv
  obtain ⟨rfl, hv⟩ := hv
  have hsz := hv.1
  subst hsz
  have hw := pw_entry hF hv
  have hts := atoms_spec (ws := .codeWith yL_now cL_now 9 (some .int) [(0, 25, 28, 13)] :: pq_U) B.pre
  have hU : ∀ w ∈ pq_U, w.before _ s = true := fun w h => hts w (List.mem_cons_of_mem _ h)
  have hx := B.exec
  have hb := B.bytes
  have hr := B.returns
  have htab : c.exceptionTable.toList = tableOf [(0, 25, 28, 13)] := vx_table (x := yL_now) B (hts _ List.mem_cons_self)
  have hown : s.vm.findClass RL = some m.cls := findClass_of_methodNamed B.named
  have hlk := B.notSynchronized
  have hl := lv_entry ([.ref a0, .int x1, .int x2, .int x3, .int x4, .int x5, .int x6, .ref ao]) (n := 9) (Nat.le_of_ble_eq_true rfl)
  rw [lg_entry_eq]
  generalize (lg_sl ([.ref a0, .int x1, .int x2, .int x3, .int x4, .int x5, .int x6, .ref ao]) ++ List.replicate (9 - (lg_sl ([.ref a0, .int x1, .int x2, .int x3, .int x4, .int x5, .int x6, .ref ao])).length) Slot.unset).toArray = ls at hl ⊢
  have hl : lv_has ls 9 [(0, .ref a0), (1, .int x1), (2, .int x2), (3, .int x3), (4, .int x4), (5, .int x5), (6, .int x6), (7, .ref ao)] := hl
  have hE : Ext S0 S0 := Ext.rf _
  refine lv_aload hx hb dL_now_0 (lv_at hl 7 rfl) ?_
  refine lv_iconst (v := 0) hx hb dL_now_2 (by decide) ?_
  refine lv_aload_n hx hb dL_now_3 rfl (lv_at hl 0 rfl) ?_
  refine lv_iload_n hx hb dL_now_4 rfl (lv_at hl 1 rfl) ?_
  refine lv_iload_n hx hb dL_now_5 rfl (lv_at hl 2 rfl) ?_
  refine lv_iload_n hx hb dL_now_6 rfl (lv_at hl 3 rfl) ?_
  refine lv_iload hx hb dL_now_7 (lv_at hl 4 rfl) ?_
  refine lv_iload hx hb dL_now_9 (lv_at hl 5 rfl) ?_
  refine lv_iload hx hb dL_now_11 (lv_at hl 6 rfl) ?_
  refine vx_calli (vx_runV (As := [.int x1, .int x2, .int x3, .int x4, .int x5, .int x6]) (rest := [.int 0, .ref ao]) ⟨hx, hb, hml, hown, hU⟩ (cw_X11_now l C (XL C ao f) n S0 hw.wf _ a0 x1 x2 x3 x4 x5 x6 Ta0 mc ms hst _ _ hm) (cwV 6 hU (pq_gV tw1194 tw1195 tw1196 tw1 tc_X11_now) rfl rfl rfl cd_X11_now ⟨Nat.le_of_ble_eq_true rfl, Nat.le_of_ble_eq_true rfl⟩) (pw_preV hw Ta0 (by decide) rfl) rfl rfl hl.1 rfl (lv_room (Nat.le_of_ble_eq_true rfl)) dL_now_13 ⟨by show 0 + mc ≤ mc; omega, by show 0 + ms ≤ ms; omega⟩) hw.S (fun q _ h => pw_free hw q h) (pw_free hw) (fun q _ h => pw_free hw q h) (fun Es ce q9 u t H1 locs1 ht hvm hpx hB hz1 hk1 hS hce hcv hcl => ?_) (fun r u t H1 locs1 ht hvm hq hB hz1 hk1 hS => ?_)
  · obtain ⟨k, S1⟩ := u
    obtain ⟨hEu, hF1, hEx⟩ := hpx
    obtain ⟨hes, hB⟩ := hB
    dsimp only at hEu hF1 hEx hes hB
    have hw := pw_xpost hw ht hvm hF1 hB hS
    obtain ⟨rfl, hK⟩ := hEu
    have hes : Es = "java/lang/IllegalArgumentException" := hes
    subst hes
    refine fx_first (own := RL) (name := "java/lang/IllegalArgumentException") hown _ _ htab (by decide) (by decide) (hU _ tw481) (pq_N.use hw.fx.1.1 _ (List.mem_of_getElem? (i := 188) rfl)) hce hcv hcl ?_
    refine lv_astore (lv' := [(8, .ref q9), (0, .ref a0), (1, .int x1), (2, .int x2), (3, .int x3), (4, .int x4), (5, .int x5), (6, .int x6), (7, .ref ao)]) hx hb dL_now_28 hl (by decide) rfl (fun ls hl => ?_)
    refine lv_iconst (v := 1) hx hb dL_now_30 (by decide) ?_
    exact pw_lret hx hb hr hlk hw hEx hK (by omega) (by omega) dL_now_31
  · obtain ⟨hK, hz, hF1, hEx⟩ := hq
    have hw := pw_xpost hw ht hvm hF1 hB hS
    refine lv_if_eq (tgt := 23) hx hb dL_now_16 (by decide) (fun h1 => ?_) (fun h1 => ?_)
    · rw [if_pos h1] at hK
      refine lv_lconst (v := 0) hx hb dL_now_23 (by decide) ?_
      refine pw_last hx hb hw dL_now_24 (fun H locs hw => ?_)
      refine lv_goto (tgt := 32) hx hb dL_now_25 (by decide) ?_
      refine lv_iconst (v := 0) hx hb dL_now_32 (by decide) ?_
      exact pw_lret hx hb hr hlk hw hEx hK (by omega) (by omega) dL_now_33
    · rw [if_neg h1] at hK
      refine lv_lconst (v := 1) hx hb dL_now_19 (by decide) ?_
      refine lv_goto (tgt := 24) hx hb dL_now_20 (by decide) ?_
      refine pw_last hx hb hw dL_now_24 (fun H locs hw => ?_)
      refine lv_goto (tgt := 32) hx hb dL_now_25 (by decide) ?_
      refine lv_iconst (v := 0) hx hb dL_now_32 (by decide) ?_
      exact pw_lret hx hb hr hlk hw hEx hK (by omega) (by omega) dL_now_33
abbrev rl_L_nights (mc ms : Nat) : Room := { frames := 9, cells := mc, slots := ms, locals := 169 }
theorem tc_L_nights : Cond.codeWith yL_nights cL_nights 5 (some .int) [(0, 10, 13, 31), (0, 10, 17, 13)] ∈ pq_U := tw1200
theorem cd_L_nights : yL_nights.cls ≠ "java/lang/invoke/MethodHandle" ∧ yL_nights.cls ≠ "java/lang/invoke/VarHandle" ∧ (parseMethodDescriptor yL_nights.desc).map (fun d => d.parameters.length) = some 4 := by decide +kernel
set_option maxHeartbeats 4000000 in
set_option maxRecDepth 100000 in
theorem cl_L_nights (l : Launch) (C : pq_C) (ao : Nat) (f : Nat → Int64) (n : Nat) (S0 : pq_S) (hF : WF S0) (sz : Nat) (a0 : Nat) (x1 : Int32) (x2 : Int32) (Ta0 : TY S0 a0 11) (mc ms : Nat) (hst : l.stackTraces = false) (K : Int32 → (Nat → Int64) → pq_S → Prop) (hm : wp_X11_nights n a0 x1 x2 S0 mc ms (fun (k : Nat) (S1 : pq_S) => (k = 2 ∧ K 1 f S1) ∨ (k = 1 ∧ K 2 f S1)) (fun r (S1 : pq_S) => K 0 (vp_updL f 0 (Int32.toInt64 r)) S1)) : vx_Met l yL_nights (.codeWith yL_nights cL_nights 5 (some .int) [(0, 10, 13, 31), (0, 10, 17, 13)] :: pq_U) (rl_L_nights mc ms) (va_Pc [.ref a0, .int x1, .int x2, .ref ao] (CPre C (XL C ao f) S0 sz)) (QwL C ao f S0 sz K) (XcN (pq_F C (XL C ao f) S0 sz)) mc ms (pq_F C (XL C ao f) S0 sz) := by
  refine vx_ofWH (cc := cL_nights) (maxL := 5) (ret := (some .int)) (hh := [(0, 10, 13, 31), (0, 10, 17, 13)]) (by decide) rfl ?_
  intro p e s m args below meth c s₁ B hml hv
  obtain ⟨rfl, hv⟩ := hv
  have hsz := hv.1
  subst hsz
  have hw := pw_entry hF hv
  have hts := atoms_spec (ws := .codeWith yL_nights cL_nights 5 (some .int) [(0, 10, 13, 31), (0, 10, 17, 13)] :: pq_U) B.pre
  have hU : ∀ w ∈ pq_U, w.before _ s = true := fun w h => hts w (List.mem_cons_of_mem _ h)
  have hx := B.exec
  have hb := B.bytes
  have hr := B.returns
  have htab : c.exceptionTable.toList = tableOf [(0, 10, 13, 31), (0, 10, 17, 13)] := vx_table (x := yL_nights) B (hts _ List.mem_cons_self)
  have hown : s.vm.findClass RL = some m.cls := findClass_of_methodNamed B.named
  have hlk := B.notSynchronized
  have hl := lv_entry ([.ref a0, .int x1, .int x2, .ref ao]) (n := 5) (Nat.le_of_ble_eq_true rfl)
  rw [lg_entry_eq]
  generalize (lg_sl ([.ref a0, .int x1, .int x2, .ref ao]) ++ List.replicate (5 - (lg_sl ([.ref a0, .int x1, .int x2, .ref ao])).length) Slot.unset).toArray = ls at hl ⊢
  have hl : lv_has ls 5 [(0, .ref a0), (1, .int x1), (2, .int x2), (3, .ref ao)] := hl
  have hE : Ext S0 S0 := Ext.rf _
  refine lv_aload_n hx hb dL_nights_0 rfl (lv_at hl 3 rfl) ?_
  refine lv_iconst (v := 0) hx hb dL_nights_1 (by decide) ?_
  refine lv_aload_n hx hb dL_nights_2 rfl (lv_at hl 0 rfl) ?_
  refine lv_iload_n hx hb dL_nights_3 rfl (lv_at hl 1 rfl) ?_
  refine lv_iload_n hx hb dL_nights_4 rfl (lv_at hl 2 rfl) ?_
  refine vx_calli (vx_runV (As := [.int x1, .int x2]) (rest := [.int 0, .ref ao]) ⟨hx, hb, hml, hown, hU⟩ (cw_X11_nights l C (XL C ao f) n S0 hw.wf _ a0 x1 x2 Ta0 mc ms hst _ _ hm) (cwV 2 hU (pq_gV tw1201 tw1202 tw1203 tw1 tc_X11_nights) rfl rfl rfl cd_X11_nights ⟨Nat.le_of_ble_eq_true rfl, Nat.le_of_ble_eq_true rfl⟩) (pw_preV hw Ta0 (by decide) rfl) rfl rfl hl.1 rfl (lv_room (Nat.le_of_ble_eq_true rfl)) dL_nights_5 ⟨by show 0 + mc ≤ mc; omega, by show 0 + ms ≤ ms; omega⟩) hw.S (fun q _ h => pw_free hw q h) (pw_free hw) (fun q _ h => pw_free hw q h) (fun Es ce q9 u t H1 locs1 ht hvm hpx hB hz1 hk1 hS hce hcv hcl => ?_) (fun r u t H1 locs1 ht hvm hq hB hz1 hk1 hS => ?_)
  · obtain ⟨k, S1⟩ := u
    obtain ⟨hEu, hF1, hEx⟩ := hpx
    obtain ⟨hes, hB⟩ := hB
    dsimp only at hEu hF1 hEx hes hB
    have hw := pw_xpost hw ht hvm hF1 hB hS
    rcases hEu with hEu | hEu
    · obtain ⟨rfl, hK⟩ := hEu
      have hes : Es = "java/util/NoSuchElementException" := hes
      subst hes
      refine fx_first (own := RL) (name := "java/util/NoSuchElementException") hown _ _ htab (by decide) (by decide) (hU _ tw991) (pq_N.use hw.fx.1.1 _ (List.mem_of_getElem? (i := 189) rfl)) hce hcv hcl ?_
      refine lv_astore (lv' := [(4, .ref q9), (0, .ref a0), (1, .int x1), (2, .int x2), (3, .ref ao)]) hx hb dL_nights_13 hl (by decide) rfl (fun ls hl => ?_)
      refine lv_iconst (v := 1) hx hb dL_nights_15 (by decide) ?_
      exact pw_lret hx hb hr hlk hw hEx hK (by omega) (by omega) dL_nights_16
    · obtain ⟨rfl, hK⟩ := hEu
      have hes : Es = "java/lang/IllegalArgumentException" := hes
      subst hes
      refine fx_second (own := RL) (nmy := "java/util/NoSuchElementException") (name := "java/lang/IllegalArgumentException") hown _ _ _ htab (by decide) (by decide) (hU _ tw991) hw.fx.1.2.2.1 (by decide) (by decide) (hU _ tw481) (pq_N.use hw.fx.1.1 _ (List.mem_of_getElem? (i := 188) rfl)) hce hcv hcl ?_
      refine lv_astore (lv' := [(4, .ref q9), (0, .ref a0), (1, .int x1), (2, .int x2), (3, .ref ao)]) hx hb dL_nights_17 hl (by decide) rfl (fun ls hl => ?_)
      refine lv_iconst (v := 2) hx hb dL_nights_19 (by decide) ?_
      exact pw_lret hx hb hr hlk hw hEx hK (by omega) (by omega) dL_nights_20
  · obtain ⟨hK, hF1, hEx⟩ := hq
    have hw := pw_xpost hw ht hvm hF1 hB hS
    refine lv_i2l (v := Int32.toInt64 r) hx hb dL_nights_8 rfl ?_
    refine pw_last hx hb hw dL_nights_9 (fun H locs hw => ?_)
    refine lv_goto (tgt := 21) hx hb dL_nights_10 (by decide) ?_
    refine lv_iconst (v := 0) hx hb dL_nights_21 (by decide) ?_
    exact pw_lret hx hb hr hlk hw hEx hK (by omega) (by omega) dL_nights_22
abbrev rl_L_night (mc ms : Nat) : Room := { frames := 9, cells := mc, slots := ms, locals := 169 }
theorem tc_L_night : Cond.codeWith yL_night cL_night 5 (some .int) [(0, 10, 13, 31), (0, 10, 17, 13)] ∈ pq_U := tw1246
theorem cd_L_night : yL_night.cls ≠ "java/lang/invoke/MethodHandle" ∧ yL_night.cls ≠ "java/lang/invoke/VarHandle" ∧ (parseMethodDescriptor yL_night.desc).map (fun d => d.parameters.length) = some 4 := by decide +kernel
set_option maxHeartbeats 4000000 in
set_option maxRecDepth 100000 in
theorem cl_L_night (l : Launch) (C : pq_C) (ao : Nat) (f : Nat → Int64) (n : Nat) (S0 : pq_S) (hF : WF S0) (sz : Nat) (a0 : Nat) (x1 : Int32) (x2 : Int32) (Ta0 : TY S0 a0 11) (mc ms : Nat) (hst : l.stackTraces = false) (K : Int32 → (Nat → Int64) → pq_S → Prop) (hm : wp_X11_night n a0 x1 x2 S0 mc ms (fun (k : Nat) (S1 : pq_S) => (k = 2 ∧ K 1 f S1) ∨ (k = 1 ∧ K 2 f S1)) (fun r (S1 : pq_S) => K 0 (vp_updL f 0 (Int32.toInt64 r)) S1)) : vx_Met l yL_night (.codeWith yL_night cL_night 5 (some .int) [(0, 10, 13, 31), (0, 10, 17, 13)] :: pq_U) (rl_L_night mc ms) (va_Pc [.ref a0, .int x1, .int x2, .ref ao] (CPre C (XL C ao f) S0 sz)) (QwL C ao f S0 sz K) (XcN (pq_F C (XL C ao f) S0 sz)) mc ms (pq_F C (XL C ao f) S0 sz) := by
  refine vx_ofWH (cc := cL_night) (maxL := 5) (ret := (some .int)) (hh := [(0, 10, 13, 31), (0, 10, 17, 13)]) (by decide) rfl ?_
  intro p e s m args below meth c s₁ B hml hv
  obtain ⟨rfl, hv⟩ := hv
  have hsz := hv.1
  subst hsz
  have hw := pw_entry hF hv
  have hts := atoms_spec (ws := .codeWith yL_night cL_night 5 (some .int) [(0, 10, 13, 31), (0, 10, 17, 13)] :: pq_U) B.pre
  have hU : ∀ w ∈ pq_U, w.before _ s = true := fun w h => hts w (List.mem_cons_of_mem _ h)
  have hx := B.exec
  have hb := B.bytes
  have hr := B.returns
  have htab : c.exceptionTable.toList = tableOf [(0, 10, 13, 31), (0, 10, 17, 13)] := vx_table (x := yL_night) B (hts _ List.mem_cons_self)
  have hown : s.vm.findClass RL = some m.cls := findClass_of_methodNamed B.named
  have hlk := B.notSynchronized
  have hl := lv_entry ([.ref a0, .int x1, .int x2, .ref ao]) (n := 5) (Nat.le_of_ble_eq_true rfl)
  rw [lg_entry_eq]
  generalize (lg_sl ([.ref a0, .int x1, .int x2, .ref ao]) ++ List.replicate (5 - (lg_sl ([.ref a0, .int x1, .int x2, .ref ao])).length) Slot.unset).toArray = ls at hl ⊢
  have hl : lv_has ls 5 [(0, .ref a0), (1, .int x1), (2, .int x2), (3, .ref ao)] := hl
  have hE : Ext S0 S0 := Ext.rf _
  refine lv_aload_n hx hb dL_night_0 rfl (lv_at hl 3 rfl) ?_
  refine lv_iconst (v := 0) hx hb dL_night_1 (by decide) ?_
  refine lv_aload_n hx hb dL_night_2 rfl (lv_at hl 0 rfl) ?_
  refine lv_iload_n hx hb dL_night_3 rfl (lv_at hl 1 rfl) ?_
  refine lv_iload_n hx hb dL_night_4 rfl (lv_at hl 2 rfl) ?_
  refine vx_calli (vx_runV (As := [.int x1, .int x2]) (rest := [.int 0, .ref ao]) ⟨hx, hb, hml, hown, hU⟩ (cw_X11_night l C (XL C ao f) n S0 hw.wf _ a0 x1 x2 Ta0 mc ms hst _ _ hm) (cwV 2 hU (pq_gV tw1247 tw1248 tw1249 tw1 tc_X11_night) rfl rfl rfl cd_X11_night ⟨Nat.le_of_ble_eq_true rfl, Nat.le_of_ble_eq_true rfl⟩) (pw_preV hw Ta0 (by decide) rfl) rfl rfl hl.1 rfl (lv_room (Nat.le_of_ble_eq_true rfl)) dL_night_5 ⟨by show 0 + mc ≤ mc; omega, by show 0 + ms ≤ ms; omega⟩) hw.S (fun q _ h => pw_free hw q h) (pw_free hw) (fun q _ h => pw_free hw q h) (fun Es ce q9 u t H1 locs1 ht hvm hpx hB hz1 hk1 hS hce hcv hcl => ?_) (fun r u t H1 locs1 ht hvm hq hB hz1 hk1 hS => ?_)
  · obtain ⟨k, S1⟩ := u
    obtain ⟨hEu, hF1, hEx⟩ := hpx
    obtain ⟨hes, hB⟩ := hB
    dsimp only at hEu hF1 hEx hes hB
    have hw := pw_xpost hw ht hvm hF1 hB hS
    rcases hEu with hEu | hEu
    · obtain ⟨rfl, hK⟩ := hEu
      have hes : Es = "java/util/NoSuchElementException" := hes
      subst hes
      refine fx_first (own := RL) (name := "java/util/NoSuchElementException") hown _ _ htab (by decide) (by decide) (hU _ tw991) (pq_N.use hw.fx.1.1 _ (List.mem_of_getElem? (i := 189) rfl)) hce hcv hcl ?_
      refine lv_astore (lv' := [(4, .ref q9), (0, .ref a0), (1, .int x1), (2, .int x2), (3, .ref ao)]) hx hb dL_night_13 hl (by decide) rfl (fun ls hl => ?_)
      refine lv_iconst (v := 1) hx hb dL_night_15 (by decide) ?_
      exact pw_lret hx hb hr hlk hw hEx hK (by omega) (by omega) dL_night_16
    · obtain ⟨rfl, hK⟩ := hEu
      have hes : Es = "java/lang/IllegalArgumentException" := hes
      subst hes
      refine fx_second (own := RL) (nmy := "java/util/NoSuchElementException") (name := "java/lang/IllegalArgumentException") hown _ _ _ htab (by decide) (by decide) (hU _ tw991) hw.fx.1.2.2.1 (by decide) (by decide) (hU _ tw481) (pq_N.use hw.fx.1.1 _ (List.mem_of_getElem? (i := 188) rfl)) hce hcv hcl ?_
      refine lv_astore (lv' := [(4, .ref q9), (0, .ref a0), (1, .int x1), (2, .int x2), (3, .ref ao)]) hx hb dL_night_17 hl (by decide) rfl (fun ls hl => ?_)
      refine lv_iconst (v := 2) hx hb dL_night_19 (by decide) ?_
      exact pw_lret hx hb hr hlk hw hEx hK (by omega) (by omega) dL_night_20
  · obtain ⟨hK, hF1, hEx⟩ := hq
    have hw := pw_xpost hw ht hvm hF1 hB hS
    refine lv_i2l (v := Int32.toInt64 r) hx hb dL_night_8 rfl ?_
    refine pw_last hx hb hw dL_night_9 (fun H locs hw => ?_)
    refine lv_goto (tgt := 21) hx hb dL_night_10 (by decide) ?_
    refine lv_iconst (v := 0) hx hb dL_night_21 (by decide) ?_
    exact pw_lret hx hb hr hlk hw hEx hK (by omega) (by omega) dL_night_22
abbrev rl_L_looks (mc ms : Nat) : Room := { frames := 8, cells := mc, slots := ms, locals := 135 }
theorem tc_L_looks : Cond.codeWith yL_looks cL_looks 6 (some .int) [(0, 12, 15, 13)] ∈ pq_U := tw1257
theorem cd_L_looks : yL_looks.cls ≠ "java/lang/invoke/MethodHandle" ∧ yL_looks.cls ≠ "java/lang/invoke/VarHandle" ∧ (parseMethodDescriptor yL_looks.desc).map (fun d => d.parameters.length) = some 5 := by decide +kernel
set_option maxHeartbeats 4000000 in
set_option maxRecDepth 100000 in
theorem cl_L_looks (l : Launch) (C : pq_C) (ao : Nat) (f : Nat → Int64) (n : Nat) (S0 : pq_S) (hF : WF S0) (sz : Nat) (a0 : Nat) (x1 : Int32) (x2 : Int32) (x3 : Int32) (Ta0 : TY S0 a0 11) (mc ms : Nat) (hst : l.stackTraces = false) (K : Int32 → (Nat → Int64) → pq_S → Prop) (hm : wp_X11_looks n a0 x1 x2 x3 S0 mc ms (fun (k : Nat) (S1 : pq_S) => (k = 1 ∧ K 1 f S1)) (fun r (S1 : pq_S) => K 0 (vp_updL f 0 (Int32.toInt64 r)) S1)) : vx_Met l yL_looks (.codeWith yL_looks cL_looks 6 (some .int) [(0, 12, 15, 13)] :: pq_U) (rl_L_looks mc ms) (va_Pc [.ref a0, .int x1, .int x2, .int x3, .ref ao] (CPre C (XL C ao f) S0 sz)) (QwL C ao f S0 sz K) (XcN (pq_F C (XL C ao f) S0 sz)) mc ms (pq_F C (XL C ao f) S0 sz) := by
  refine vx_ofWH (cc := cL_looks) (maxL := 6) (ret := (some .int)) (hh := [(0, 12, 15, 13)]) (by decide) rfl ?_
  intro p e s m args below meth c s₁ B hml hv
  obtain ⟨rfl, hv⟩ := hv
  have hsz := hv.1
  subst hsz
  have hw := pw_entry hF hv
  have hts := atoms_spec (ws := .codeWith yL_looks cL_looks 6 (some .int) [(0, 12, 15, 13)] :: pq_U) B.pre
  have hU : ∀ w ∈ pq_U, w.before _ s = true := fun w h => hts w (List.mem_cons_of_mem _ h)
  have hx := B.exec
  have hb := B.bytes
  have hr := B.returns
  have htab : c.exceptionTable.toList = tableOf [(0, 12, 15, 13)] := vx_table (x := yL_looks) B (hts _ List.mem_cons_self)
  have hown : s.vm.findClass RL = some m.cls := findClass_of_methodNamed B.named
  have hlk := B.notSynchronized
  have hl := lv_entry ([.ref a0, .int x1, .int x2, .int x3, .ref ao]) (n := 6) (Nat.le_of_ble_eq_true rfl)
  rw [lg_entry_eq]
  generalize (lg_sl ([.ref a0, .int x1, .int x2, .int x3, .ref ao]) ++ List.replicate (6 - (lg_sl ([.ref a0, .int x1, .int x2, .int x3, .ref ao])).length) Slot.unset).toArray = ls at hl ⊢
  have hl : lv_has ls 6 [(0, .ref a0), (1, .int x1), (2, .int x2), (3, .int x3), (4, .ref ao)] := hl
  have hE : Ext S0 S0 := Ext.rf _
  refine lv_aload hx hb dL_looks_0 (lv_at hl 4 rfl) ?_
  refine lv_iconst (v := 0) hx hb dL_looks_2 (by decide) ?_
  refine lv_aload_n hx hb dL_looks_3 rfl (lv_at hl 0 rfl) ?_
  refine lv_iload_n hx hb dL_looks_4 rfl (lv_at hl 1 rfl) ?_
  refine lv_iload_n hx hb dL_looks_5 rfl (lv_at hl 2 rfl) ?_
  refine lv_iload_n hx hb dL_looks_6 rfl (lv_at hl 3 rfl) ?_
  refine vx_calli (vx_runV (As := [.int x1, .int x2, .int x3]) (rest := [.int 0, .ref ao]) ⟨hx, hb, hml, hown, hU⟩ (cw_X11_looks l C (XL C ao f) n S0 hw.wf _ a0 x1 x2 x3 Ta0 mc ms hst _ _ hm) (cwV 3 hU (pq_gV tw1258 tw1259 tw1260 tw1 tc_X11_looks) rfl rfl rfl cd_X11_looks ⟨Nat.le_of_ble_eq_true rfl, Nat.le_of_ble_eq_true rfl⟩) (pw_preV hw Ta0 (by decide) rfl) rfl rfl hl.1 rfl (lv_room (Nat.le_of_ble_eq_true rfl)) dL_looks_7 ⟨by show 0 + mc ≤ mc; omega, by show 0 + ms ≤ ms; omega⟩) hw.S (fun q _ h => pw_free hw q h) (pw_free hw) (fun q _ h => pw_free hw q h) (fun Es ce q9 u t H1 locs1 ht hvm hpx hB hz1 hk1 hS hce hcv hcl => ?_) (fun r u t H1 locs1 ht hvm hq hB hz1 hk1 hS => ?_)
  · obtain ⟨k, S1⟩ := u
    obtain ⟨hEu, hF1, hEx⟩ := hpx
    obtain ⟨hes, hB⟩ := hB
    dsimp only at hEu hF1 hEx hes hB
    have hw := pw_xpost hw ht hvm hF1 hB hS
    obtain ⟨rfl, hK⟩ := hEu
    have hes : Es = "java/lang/IllegalArgumentException" := hes
    subst hes
    refine fx_first (own := RL) (name := "java/lang/IllegalArgumentException") hown _ _ htab (by decide) (by decide) (hU _ tw481) (pq_N.use hw.fx.1.1 _ (List.mem_of_getElem? (i := 188) rfl)) hce hcv hcl ?_
    refine lv_astore (lv' := [(5, .ref q9), (0, .ref a0), (1, .int x1), (2, .int x2), (3, .int x3), (4, .ref ao)]) hx hb dL_looks_15 hl (by decide) rfl (fun ls hl => ?_)
    refine lv_iconst (v := 1) hx hb dL_looks_17 (by decide) ?_
    exact pw_lret hx hb hr hlk hw hEx hK (by omega) (by omega) dL_looks_18
  · obtain ⟨hK, hF1, hEx⟩ := hq
    have hw := pw_xpost hw ht hvm hF1 hB hS
    refine lv_i2l (v := Int32.toInt64 r) hx hb dL_looks_10 rfl ?_
    refine pw_last hx hb hw dL_looks_11 (fun H locs hw => ?_)
    refine lv_goto (tgt := 19) hx hb dL_looks_12 (by decide) ?_
    refine lv_iconst (v := 0) hx hb dL_looks_19 (by decide) ?_
    exact pw_lret hx hb hr hlk hw hEx hK (by omega) (by omega) dL_looks_20
abbrev rl_L_leaky (mc ms : Nat) : Room := { frames := 8, cells := mc, slots := ms, locals := 165 }
theorem tc_L_leaky : Cond.codeWith yL_leaky cL_leaky 4 (some .int) [(0, 9, 12, 13)] ∈ pq_U := tw1272
theorem cd_L_leaky : yL_leaky.cls ≠ "java/lang/invoke/MethodHandle" ∧ yL_leaky.cls ≠ "java/lang/invoke/VarHandle" ∧ (parseMethodDescriptor yL_leaky.desc).map (fun d => d.parameters.length) = some 3 := by decide +kernel
set_option maxHeartbeats 4000000 in
set_option maxRecDepth 100000 in
theorem cl_L_leaky (l : Launch) (C : pq_C) (ao : Nat) (f : Nat → Int64) (n : Nat) (S0 : pq_S) (hF : WF S0) (sz : Nat) (a0 : Nat) (x1 : Int32) (Ta0 : TY S0 a0 11) (mc ms : Nat) (hst : l.stackTraces = false) (K : Int32 → (Nat → Int64) → pq_S → Prop) (hm : wp_X11_leaky n a0 x1 S0 mc ms (fun (k : Nat) (S1 : pq_S) => (k = 1 ∧ K 1 f S1)) (fun r (S1 : pq_S) => K 0 (vp_updL f 0 (Int32.toInt64 r)) S1)) : vx_Met l yL_leaky (.codeWith yL_leaky cL_leaky 4 (some .int) [(0, 9, 12, 13)] :: pq_U) (rl_L_leaky mc ms) (va_Pc [.ref a0, .int x1, .ref ao] (CPre C (XL C ao f) S0 sz)) (QwL C ao f S0 sz K) (XcN (pq_F C (XL C ao f) S0 sz)) mc ms (pq_F C (XL C ao f) S0 sz) := by
  refine vx_ofWH (cc := cL_leaky) (maxL := 4) (ret := (some .int)) (hh := [(0, 9, 12, 13)]) (by decide) rfl ?_
  intro p e s m args below meth c s₁ B hml hv
  obtain ⟨rfl, hv⟩ := hv
  have hsz := hv.1
  subst hsz
  have hw := pw_entry hF hv
  have hts := atoms_spec (ws := .codeWith yL_leaky cL_leaky 4 (some .int) [(0, 9, 12, 13)] :: pq_U) B.pre
  have hU : ∀ w ∈ pq_U, w.before _ s = true := fun w h => hts w (List.mem_cons_of_mem _ h)
  have hx := B.exec
  have hb := B.bytes
  have hr := B.returns
  have htab : c.exceptionTable.toList = tableOf [(0, 9, 12, 13)] := vx_table (x := yL_leaky) B (hts _ List.mem_cons_self)
  have hown : s.vm.findClass RL = some m.cls := findClass_of_methodNamed B.named
  have hlk := B.notSynchronized
  have hl := lv_entry ([.ref a0, .int x1, .ref ao]) (n := 4) (Nat.le_of_ble_eq_true rfl)
  rw [lg_entry_eq]
  generalize (lg_sl ([.ref a0, .int x1, .ref ao]) ++ List.replicate (4 - (lg_sl ([.ref a0, .int x1, .ref ao])).length) Slot.unset).toArray = ls at hl ⊢
  have hl : lv_has ls 4 [(0, .ref a0), (1, .int x1), (2, .ref ao)] := hl
  have hE : Ext S0 S0 := Ext.rf _
  refine lv_aload_n hx hb dL_leaky_0 rfl (lv_at hl 2 rfl) ?_
  refine lv_iconst (v := 0) hx hb dL_leaky_1 (by decide) ?_
  refine lv_aload_n hx hb dL_leaky_2 rfl (lv_at hl 0 rfl) ?_
  refine lv_iload_n hx hb dL_leaky_3 rfl (lv_at hl 1 rfl) ?_
  refine vx_calli (vx_runV (As := [.int x1]) (rest := [.int 0, .ref ao]) ⟨hx, hb, hml, hown, hU⟩ (cw_X11_leaky l C (XL C ao f) n S0 hw.wf _ a0 x1 Ta0 mc ms hst _ _ hm) (cwV 1 hU (pq_gV tw1273 tw1274 tw1275 tw1 tc_X11_leaky) rfl rfl rfl cd_X11_leaky ⟨Nat.le_of_ble_eq_true rfl, Nat.le_of_ble_eq_true rfl⟩) (pw_preV hw Ta0 (by decide) rfl) rfl rfl hl.1 rfl (lv_room (Nat.le_of_ble_eq_true rfl)) dL_leaky_4 ⟨by show 0 + mc ≤ mc; omega, by show 0 + ms ≤ ms; omega⟩) hw.S (fun q _ h => pw_free hw q h) (pw_free hw) (fun q _ h => pw_free hw q h) (fun Es ce q9 u t H1 locs1 ht hvm hpx hB hz1 hk1 hS hce hcv hcl => ?_) (fun r u t H1 locs1 ht hvm hq hB hz1 hk1 hS => ?_)
  · obtain ⟨k, S1⟩ := u
    obtain ⟨hEu, hF1, hEx⟩ := hpx
    obtain ⟨hes, hB⟩ := hB
    dsimp only at hEu hF1 hEx hes hB
    have hw := pw_xpost hw ht hvm hF1 hB hS
    obtain ⟨rfl, hK⟩ := hEu
    have hes : Es = "java/lang/IllegalArgumentException" := hes
    subst hes
    refine fx_first (own := RL) (name := "java/lang/IllegalArgumentException") hown _ _ htab (by decide) (by decide) (hU _ tw481) (pq_N.use hw.fx.1.1 _ (List.mem_of_getElem? (i := 188) rfl)) hce hcv hcl ?_
    refine lv_astore_n (lv' := [(3, .ref q9), (0, .ref a0), (1, .int x1), (2, .ref ao)]) hx hb dL_leaky_12 rfl hl (by decide) rfl (fun ls hl => ?_)
    refine lv_iconst (v := 1) hx hb dL_leaky_13 (by decide) ?_
    exact pw_lret hx hb hr hlk hw hEx hK (by omega) (by omega) dL_leaky_14
  · obtain ⟨hK, hF1, hEx⟩ := hq
    have hw := pw_xpost hw ht hvm hF1 hB hS
    refine lv_i2l (v := Int32.toInt64 r) hx hb dL_leaky_7 rfl ?_
    refine pw_last hx hb hw dL_leaky_8 (fun H locs hw => ?_)
    refine lv_goto (tgt := 15) hx hb dL_leaky_9 (by decide) ?_
    refine lv_iconst (v := 0) hx hb dL_leaky_15 (by decide) ?_
    exact pw_lret hx hb hr hlk hw hEx hK (by omega) (by omega) dL_leaky_16
abbrev rl_L_misses (mc ms : Nat) : Room := { frames := 9, cells := mc, slots := ms, locals := 153 }
theorem tc_L_misses : Cond.codeWith yL_misses cL_misses 5 (some .int) [(0, 10, 13, 31), (0, 10, 17, 13)] ∈ pq_U := tw1302
theorem cd_L_misses : yL_misses.cls ≠ "java/lang/invoke/MethodHandle" ∧ yL_misses.cls ≠ "java/lang/invoke/VarHandle" ∧ (parseMethodDescriptor yL_misses.desc).map (fun d => d.parameters.length) = some 4 := by decide +kernel
set_option maxHeartbeats 4000000 in
set_option maxRecDepth 100000 in
theorem cl_L_misses (l : Launch) (C : pq_C) (ao : Nat) (f : Nat → Int64) (n : Nat) (S0 : pq_S) (hF : WF S0) (sz : Nat) (a0 : Nat) (x1 : Int32) (x2 : Int32) (Ta0 : TY S0 a0 11) (mc ms : Nat) (hst : l.stackTraces = false) (K : Int32 → (Nat → Int64) → pq_S → Prop) (hm : wp_X11_misses n a0 x1 x2 S0 mc ms (fun (k : Nat) (S1 : pq_S) => (k = 2 ∧ K 1 f S1) ∨ (k = 1 ∧ K 2 f S1)) (fun r (S1 : pq_S) => K 0 (vp_updL f 0 (Int32.toInt64 r)) S1)) : vx_Met l yL_misses (.codeWith yL_misses cL_misses 5 (some .int) [(0, 10, 13, 31), (0, 10, 17, 13)] :: pq_U) (rl_L_misses mc ms) (va_Pc [.ref a0, .int x1, .int x2, .ref ao] (CPre C (XL C ao f) S0 sz)) (QwL C ao f S0 sz K) (XcN (pq_F C (XL C ao f) S0 sz)) mc ms (pq_F C (XL C ao f) S0 sz) := by
  refine vx_ofWH (cc := cL_misses) (maxL := 5) (ret := (some .int)) (hh := [(0, 10, 13, 31), (0, 10, 17, 13)]) (by decide) rfl ?_
  intro p e s m args below meth c s₁ B hml hv
  obtain ⟨rfl, hv⟩ := hv
  have hsz := hv.1
  subst hsz
  have hw := pw_entry hF hv
  have hts := atoms_spec (ws := .codeWith yL_misses cL_misses 5 (some .int) [(0, 10, 13, 31), (0, 10, 17, 13)] :: pq_U) B.pre
  have hU : ∀ w ∈ pq_U, w.before _ s = true := fun w h => hts w (List.mem_cons_of_mem _ h)
  have hx := B.exec
  have hb := B.bytes
  have hr := B.returns
  have htab : c.exceptionTable.toList = tableOf [(0, 10, 13, 31), (0, 10, 17, 13)] := vx_table (x := yL_misses) B (hts _ List.mem_cons_self)
  have hown : s.vm.findClass RL = some m.cls := findClass_of_methodNamed B.named
  have hlk := B.notSynchronized
  have hl := lv_entry ([.ref a0, .int x1, .int x2, .ref ao]) (n := 5) (Nat.le_of_ble_eq_true rfl)
  rw [lg_entry_eq]
  generalize (lg_sl ([.ref a0, .int x1, .int x2, .ref ao]) ++ List.replicate (5 - (lg_sl ([.ref a0, .int x1, .int x2, .ref ao])).length) Slot.unset).toArray = ls at hl ⊢
  have hl : lv_has ls 5 [(0, .ref a0), (1, .int x1), (2, .int x2), (3, .ref ao)] := hl
  have hE : Ext S0 S0 := Ext.rf _
  refine lv_aload_n hx hb dL_misses_0 rfl (lv_at hl 3 rfl) ?_
  refine lv_iconst (v := 0) hx hb dL_misses_1 (by decide) ?_
  refine lv_aload_n hx hb dL_misses_2 rfl (lv_at hl 0 rfl) ?_
  refine lv_iload_n hx hb dL_misses_3 rfl (lv_at hl 1 rfl) ?_
  refine lv_iload_n hx hb dL_misses_4 rfl (lv_at hl 2 rfl) ?_
  refine vx_calli (vx_runV (As := [.int x1, .int x2]) (rest := [.int 0, .ref ao]) ⟨hx, hb, hml, hown, hU⟩ (cw_X11_misses l C (XL C ao f) n S0 hw.wf _ a0 x1 x2 Ta0 mc ms hst _ _ hm) (cwV 2 hU (pq_gV tw1303 tw1304 tw1305 tw1 tc_X11_misses) rfl rfl rfl cd_X11_misses ⟨Nat.le_of_ble_eq_true rfl, Nat.le_of_ble_eq_true rfl⟩) (pw_preV hw Ta0 (by decide) rfl) rfl rfl hl.1 rfl (lv_room (Nat.le_of_ble_eq_true rfl)) dL_misses_5 ⟨by show 0 + mc ≤ mc; omega, by show 0 + ms ≤ ms; omega⟩) hw.S (fun q _ h => pw_free hw q h) (pw_free hw) (fun q _ h => pw_free hw q h) (fun Es ce q9 u t H1 locs1 ht hvm hpx hB hz1 hk1 hS hce hcv hcl => ?_) (fun r u t H1 locs1 ht hvm hq hB hz1 hk1 hS => ?_)
  · obtain ⟨k, S1⟩ := u
    obtain ⟨hEu, hF1, hEx⟩ := hpx
    obtain ⟨hes, hB⟩ := hB
    dsimp only at hEu hF1 hEx hes hB
    have hw := pw_xpost hw ht hvm hF1 hB hS
    rcases hEu with hEu | hEu
    · obtain ⟨rfl, hK⟩ := hEu
      have hes : Es = "java/util/NoSuchElementException" := hes
      subst hes
      refine fx_first (own := RL) (name := "java/util/NoSuchElementException") hown _ _ htab (by decide) (by decide) (hU _ tw991) (pq_N.use hw.fx.1.1 _ (List.mem_of_getElem? (i := 189) rfl)) hce hcv hcl ?_
      refine lv_astore (lv' := [(4, .ref q9), (0, .ref a0), (1, .int x1), (2, .int x2), (3, .ref ao)]) hx hb dL_misses_13 hl (by decide) rfl (fun ls hl => ?_)
      refine lv_iconst (v := 1) hx hb dL_misses_15 (by decide) ?_
      exact pw_lret hx hb hr hlk hw hEx hK (by omega) (by omega) dL_misses_16
    · obtain ⟨rfl, hK⟩ := hEu
      have hes : Es = "java/lang/IllegalArgumentException" := hes
      subst hes
      refine fx_second (own := RL) (nmy := "java/util/NoSuchElementException") (name := "java/lang/IllegalArgumentException") hown _ _ _ htab (by decide) (by decide) (hU _ tw991) hw.fx.1.2.2.1 (by decide) (by decide) (hU _ tw481) (pq_N.use hw.fx.1.1 _ (List.mem_of_getElem? (i := 188) rfl)) hce hcv hcl ?_
      refine lv_astore (lv' := [(4, .ref q9), (0, .ref a0), (1, .int x1), (2, .int x2), (3, .ref ao)]) hx hb dL_misses_17 hl (by decide) rfl (fun ls hl => ?_)
      refine lv_iconst (v := 2) hx hb dL_misses_19 (by decide) ?_
      exact pw_lret hx hb hr hlk hw hEx hK (by omega) (by omega) dL_misses_20
  · obtain ⟨hK, hF1, hEx⟩ := hq
    have hw := pw_xpost hw ht hvm hF1 hB hS
    refine lv_i2l (v := Int32.toInt64 r) hx hb dL_misses_8 rfl ?_
    refine pw_last hx hb hw dL_misses_9 (fun H locs hw => ?_)
    refine lv_goto (tgt := 21) hx hb dL_misses_10 (by decide) ?_
    refine lv_iconst (v := 0) hx hb dL_misses_21 (by decide) ?_
    exact pw_lret hx hb hr hlk hw hEx hK (by omega) (by omega) dL_misses_22
abbrev rl_L_seam (mc ms : Nat) : Room := { frames := 71, cells := mc, slots := ms, locals := 2177 }
theorem tc_L_seam : Cond.codeWith yL_seam cL_seam 7 (some .int) [(0, 14, 17, 31), (0, 14, 21, 13)] ∈ pq_U := tw1310
theorem cd_L_seam : yL_seam.cls ≠ "java/lang/invoke/MethodHandle" ∧ yL_seam.cls ≠ "java/lang/invoke/VarHandle" ∧ (parseMethodDescriptor yL_seam.desc).map (fun d => d.parameters.length) = some 6 := by decide +kernel
set_option maxHeartbeats 4000000 in
set_option maxRecDepth 100000 in
theorem cl_L_seam (l : Launch) (C : pq_C) (ao : Nat) (f : Nat → Int64) (n : Nat) (S0 : pq_S) (hF : WF S0) (sz : Nat) (a0 : Nat) (x1 : Int32) (x2 : Int32) (x3 : Int32) (x4 : Int32) (Ta0 : TY S0 a0 11) (mc ms : Nat) (hst : l.stackTraces = false) (K : Int32 → (Nat → Int64) → pq_S → Prop) (hm : wp_X11_seam n a0 x1 x2 x3 x4 S0 mc ms (fun (k : Nat) (S1 : pq_S) => (k = 2 ∧ K 1 f S1) ∨ (k = 1 ∧ K 2 f S1)) (fun r (S1 : pq_S) => K 0 (vp_updL f 0 (Int32.toInt64 r)) S1)) : vx_Met l yL_seam (.codeWith yL_seam cL_seam 7 (some .int) [(0, 14, 17, 31), (0, 14, 21, 13)] :: pq_U) (rl_L_seam mc ms) (va_Pc [.ref a0, .int x1, .int x2, .int x3, .int x4, .ref ao] (CPre C (XL C ao f) S0 sz)) (QwL C ao f S0 sz K) (XcN (pq_F C (XL C ao f) S0 sz)) mc ms (pq_F C (XL C ao f) S0 sz) := by
  refine vx_ofWH (cc := cL_seam) (maxL := 7) (ret := (some .int)) (hh := [(0, 14, 17, 31), (0, 14, 21, 13)]) (by decide) rfl ?_
  intro p e s m args below meth c s₁ B hml hv
  obtain ⟨rfl, hv⟩ := hv
  have hsz := hv.1
  subst hsz
  have hw := pw_entry hF hv
  have hts := atoms_spec (ws := .codeWith yL_seam cL_seam 7 (some .int) [(0, 14, 17, 31), (0, 14, 21, 13)] :: pq_U) B.pre
  have hU : ∀ w ∈ pq_U, w.before _ s = true := fun w h => hts w (List.mem_cons_of_mem _ h)
  have hx := B.exec
  have hb := B.bytes
  have hr := B.returns
  have htab : c.exceptionTable.toList = tableOf [(0, 14, 17, 31), (0, 14, 21, 13)] := vx_table (x := yL_seam) B (hts _ List.mem_cons_self)
  have hown : s.vm.findClass RL = some m.cls := findClass_of_methodNamed B.named
  have hlk := B.notSynchronized
  have hl := lv_entry ([.ref a0, .int x1, .int x2, .int x3, .int x4, .ref ao]) (n := 7) (Nat.le_of_ble_eq_true rfl)
  rw [lg_entry_eq]
  generalize (lg_sl ([.ref a0, .int x1, .int x2, .int x3, .int x4, .ref ao]) ++ List.replicate (7 - (lg_sl ([.ref a0, .int x1, .int x2, .int x3, .int x4, .ref ao])).length) Slot.unset).toArray = ls at hl ⊢
  have hl : lv_has ls 7 [(0, .ref a0), (1, .int x1), (2, .int x2), (3, .int x3), (4, .int x4), (5, .ref ao)] := hl
  have hE : Ext S0 S0 := Ext.rf _
  refine lv_aload hx hb dL_seam_0 (lv_at hl 5 rfl) ?_
  refine lv_iconst (v := 0) hx hb dL_seam_2 (by decide) ?_
  refine lv_aload_n hx hb dL_seam_3 rfl (lv_at hl 0 rfl) ?_
  refine lv_iload_n hx hb dL_seam_4 rfl (lv_at hl 1 rfl) ?_
  refine lv_iload_n hx hb dL_seam_5 rfl (lv_at hl 2 rfl) ?_
  refine lv_iload_n hx hb dL_seam_6 rfl (lv_at hl 3 rfl) ?_
  refine lv_iload hx hb dL_seam_7 (lv_at hl 4 rfl) ?_
  refine vx_calli (vx_runV (As := [.int x1, .int x2, .int x3, .int x4]) (rest := [.int 0, .ref ao]) ⟨hx, hb, hml, hown, hU⟩ (cw_X11_seam l C (XL C ao f) n S0 hw.wf _ a0 x1 x2 x3 x4 Ta0 mc ms hst _ _ hm) (cwV 4 hU (pq_gV tw1311 tw1312 tw1313 tw1 tc_X11_seam) rfl rfl rfl cd_X11_seam ⟨Nat.le_of_ble_eq_true rfl, Nat.le_of_ble_eq_true rfl⟩) (pw_preV hw Ta0 (by decide) rfl) rfl rfl hl.1 rfl (lv_room (Nat.le_of_ble_eq_true rfl)) dL_seam_9 ⟨by show 0 + mc ≤ mc; omega, by show 0 + ms ≤ ms; omega⟩) hw.S (fun q _ h => pw_free hw q h) (pw_free hw) (fun q _ h => pw_free hw q h) (fun Es ce q9 u t H1 locs1 ht hvm hpx hB hz1 hk1 hS hce hcv hcl => ?_) (fun r u t H1 locs1 ht hvm hq hB hz1 hk1 hS => ?_)
  · obtain ⟨k, S1⟩ := u
    obtain ⟨hEu, hF1, hEx⟩ := hpx
    obtain ⟨hes, hB⟩ := hB
    dsimp only at hEu hF1 hEx hes hB
    have hw := pw_xpost hw ht hvm hF1 hB hS
    rcases hEu with hEu | hEu
    · obtain ⟨rfl, hK⟩ := hEu
      have hes : Es = "java/util/NoSuchElementException" := hes
      subst hes
      refine fx_first (own := RL) (name := "java/util/NoSuchElementException") hown _ _ htab (by decide) (by decide) (hU _ tw991) (pq_N.use hw.fx.1.1 _ (List.mem_of_getElem? (i := 189) rfl)) hce hcv hcl ?_
      refine lv_astore (lv' := [(6, .ref q9), (0, .ref a0), (1, .int x1), (2, .int x2), (3, .int x3), (4, .int x4), (5, .ref ao)]) hx hb dL_seam_17 hl (by decide) rfl (fun ls hl => ?_)
      refine lv_iconst (v := 1) hx hb dL_seam_19 (by decide) ?_
      exact pw_lret hx hb hr hlk hw hEx hK (by omega) (by omega) dL_seam_20
    · obtain ⟨rfl, hK⟩ := hEu
      have hes : Es = "java/lang/IllegalArgumentException" := hes
      subst hes
      refine fx_second (own := RL) (nmy := "java/util/NoSuchElementException") (name := "java/lang/IllegalArgumentException") hown _ _ _ htab (by decide) (by decide) (hU _ tw991) hw.fx.1.2.2.1 (by decide) (by decide) (hU _ tw481) (pq_N.use hw.fx.1.1 _ (List.mem_of_getElem? (i := 188) rfl)) hce hcv hcl ?_
      refine lv_astore (lv' := [(6, .ref q9), (0, .ref a0), (1, .int x1), (2, .int x2), (3, .int x3), (4, .int x4), (5, .ref ao)]) hx hb dL_seam_21 hl (by decide) rfl (fun ls hl => ?_)
      refine lv_iconst (v := 2) hx hb dL_seam_23 (by decide) ?_
      exact pw_lret hx hb hr hlk hw hEx hK (by omega) (by omega) dL_seam_24
  · obtain ⟨hK, hF1, hEx⟩ := hq
    have hw := pw_xpost hw ht hvm hF1 hB hS
    refine lv_i2l (v := Int32.toInt64 r) hx hb dL_seam_12 rfl ?_
    refine pw_last hx hb hw dL_seam_13 (fun H locs hw => ?_)
    refine lv_goto (tgt := 25) hx hb dL_seam_14 (by decide) ?_
    refine lv_iconst (v := 0) hx hb dL_seam_25 (by decide) ?_
    exact pw_lret hx hb hr hlk hw hEx hK (by omega) (by omega) dL_seam_26
abbrev rl_L_sellers (mc ms : Nat) : Room := { frames := 9, cells := mc, slots := ms, locals := 164 }
theorem tc_L_sellers : Cond.codeWith yL_sellers cL_sellers 6 (some .int) [(0, 12, 15, 31), (0, 12, 19, 13)] ∈ pq_U := tw1325
theorem cd_L_sellers : yL_sellers.cls ≠ "java/lang/invoke/MethodHandle" ∧ yL_sellers.cls ≠ "java/lang/invoke/VarHandle" ∧ (parseMethodDescriptor yL_sellers.desc).map (fun d => d.parameters.length) = some 5 := by decide +kernel
set_option maxHeartbeats 4000000 in
set_option maxRecDepth 100000 in
theorem cl_L_sellers (l : Launch) (C : pq_C) (ao : Nat) (f : Nat → Int64) (n : Nat) (S0 : pq_S) (hF : WF S0) (sz : Nat) (a0 : Nat) (x1 : Int32) (x2 : Int32) (x3 : Int32) (Ta0 : TY S0 a0 11) (mc ms : Nat) (hst : l.stackTraces = false) (K : Int32 → (Nat → Int64) → pq_S → Prop) (hm : wp_X11_sellers n a0 x1 x2 x3 S0 mc ms (fun (k : Nat) (S1 : pq_S) => (k = 2 ∧ K 1 f S1) ∨ (k = 1 ∧ K 2 f S1)) (fun r (S1 : pq_S) => K 0 (vp_updL f 0 (Int32.toInt64 r)) S1)) : vx_Met l yL_sellers (.codeWith yL_sellers cL_sellers 6 (some .int) [(0, 12, 15, 31), (0, 12, 19, 13)] :: pq_U) (rl_L_sellers mc ms) (va_Pc [.ref a0, .int x1, .int x2, .int x3, .ref ao] (CPre C (XL C ao f) S0 sz)) (QwL C ao f S0 sz K) (XcN (pq_F C (XL C ao f) S0 sz)) mc ms (pq_F C (XL C ao f) S0 sz) := by
  refine vx_ofWH (cc := cL_sellers) (maxL := 6) (ret := (some .int)) (hh := [(0, 12, 15, 31), (0, 12, 19, 13)]) (by decide) rfl ?_
  intro p e s m args below meth c s₁ B hml hv
  obtain ⟨rfl, hv⟩ := hv
  have hsz := hv.1
  subst hsz
  have hw := pw_entry hF hv
  have hts := atoms_spec (ws := .codeWith yL_sellers cL_sellers 6 (some .int) [(0, 12, 15, 31), (0, 12, 19, 13)] :: pq_U) B.pre
  have hU : ∀ w ∈ pq_U, w.before _ s = true := fun w h => hts w (List.mem_cons_of_mem _ h)
  have hx := B.exec
  have hb := B.bytes
  have hr := B.returns
  have htab : c.exceptionTable.toList = tableOf [(0, 12, 15, 31), (0, 12, 19, 13)] := vx_table (x := yL_sellers) B (hts _ List.mem_cons_self)
  have hown : s.vm.findClass RL = some m.cls := findClass_of_methodNamed B.named
  have hlk := B.notSynchronized
  have hl := lv_entry ([.ref a0, .int x1, .int x2, .int x3, .ref ao]) (n := 6) (Nat.le_of_ble_eq_true rfl)
  rw [lg_entry_eq]
  generalize (lg_sl ([.ref a0, .int x1, .int x2, .int x3, .ref ao]) ++ List.replicate (6 - (lg_sl ([.ref a0, .int x1, .int x2, .int x3, .ref ao])).length) Slot.unset).toArray = ls at hl ⊢
  have hl : lv_has ls 6 [(0, .ref a0), (1, .int x1), (2, .int x2), (3, .int x3), (4, .ref ao)] := hl
  have hE : Ext S0 S0 := Ext.rf _
  refine lv_aload hx hb dL_sellers_0 (lv_at hl 4 rfl) ?_
  refine lv_iconst (v := 0) hx hb dL_sellers_2 (by decide) ?_
  refine lv_aload_n hx hb dL_sellers_3 rfl (lv_at hl 0 rfl) ?_
  refine lv_iload_n hx hb dL_sellers_4 rfl (lv_at hl 1 rfl) ?_
  refine lv_iload_n hx hb dL_sellers_5 rfl (lv_at hl 2 rfl) ?_
  refine lv_iload_n hx hb dL_sellers_6 rfl (lv_at hl 3 rfl) ?_
  refine vx_calli (vx_runV (As := [.int x1, .int x2, .int x3]) (rest := [.int 0, .ref ao]) ⟨hx, hb, hml, hown, hU⟩ (cw_X11_sellers l C (XL C ao f) n S0 hw.wf _ a0 x1 x2 x3 Ta0 mc ms hst _ _ hm) (cwV 3 hU (pq_gV tw1326 tw1327 tw1328 tw1 tc_X11_sellers) rfl rfl rfl cd_X11_sellers ⟨Nat.le_of_ble_eq_true rfl, Nat.le_of_ble_eq_true rfl⟩) (pw_preV hw Ta0 (by decide) rfl) rfl rfl hl.1 rfl (lv_room (Nat.le_of_ble_eq_true rfl)) dL_sellers_7 ⟨by show 0 + mc ≤ mc; omega, by show 0 + ms ≤ ms; omega⟩) hw.S (fun q _ h => pw_free hw q h) (pw_free hw) (fun q _ h => pw_free hw q h) (fun Es ce q9 u t H1 locs1 ht hvm hpx hB hz1 hk1 hS hce hcv hcl => ?_) (fun r u t H1 locs1 ht hvm hq hB hz1 hk1 hS => ?_)
  · obtain ⟨k, S1⟩ := u
    obtain ⟨hEu, hF1, hEx⟩ := hpx
    obtain ⟨hes, hB⟩ := hB
    dsimp only at hEu hF1 hEx hes hB
    have hw := pw_xpost hw ht hvm hF1 hB hS
    rcases hEu with hEu | hEu
    · obtain ⟨rfl, hK⟩ := hEu
      have hes : Es = "java/util/NoSuchElementException" := hes
      subst hes
      refine fx_first (own := RL) (name := "java/util/NoSuchElementException") hown _ _ htab (by decide) (by decide) (hU _ tw991) (pq_N.use hw.fx.1.1 _ (List.mem_of_getElem? (i := 189) rfl)) hce hcv hcl ?_
      refine lv_astore (lv' := [(5, .ref q9), (0, .ref a0), (1, .int x1), (2, .int x2), (3, .int x3), (4, .ref ao)]) hx hb dL_sellers_15 hl (by decide) rfl (fun ls hl => ?_)
      refine lv_iconst (v := 1) hx hb dL_sellers_17 (by decide) ?_
      exact pw_lret hx hb hr hlk hw hEx hK (by omega) (by omega) dL_sellers_18
    · obtain ⟨rfl, hK⟩ := hEu
      have hes : Es = "java/lang/IllegalArgumentException" := hes
      subst hes
      refine fx_second (own := RL) (nmy := "java/util/NoSuchElementException") (name := "java/lang/IllegalArgumentException") hown _ _ _ htab (by decide) (by decide) (hU _ tw991) hw.fx.1.2.2.1 (by decide) (by decide) (hU _ tw481) (pq_N.use hw.fx.1.1 _ (List.mem_of_getElem? (i := 188) rfl)) hce hcv hcl ?_
      refine lv_astore (lv' := [(5, .ref q9), (0, .ref a0), (1, .int x1), (2, .int x2), (3, .int x3), (4, .ref ao)]) hx hb dL_sellers_19 hl (by decide) rfl (fun ls hl => ?_)
      refine lv_iconst (v := 2) hx hb dL_sellers_21 (by decide) ?_
      exact pw_lret hx hb hr hlk hw hEx hK (by omega) (by omega) dL_sellers_22
  · obtain ⟨hK, hF1, hEx⟩ := hq
    have hw := pw_xpost hw ht hvm hF1 hB hS
    refine lv_i2l (v := Int32.toInt64 r) hx hb dL_sellers_10 rfl ?_
    refine pw_last hx hb hw dL_sellers_11 (fun H locs hw => ?_)
    refine lv_goto (tgt := 23) hx hb dL_sellers_12 (by decide) ?_
    refine lv_iconst (v := 0) hx hb dL_sellers_23 (by decide) ?_
    exact pw_lret hx hb hr hlk hw hEx hK (by omega) (by omega) dL_sellers_24
abbrev rl_L_gets (mc ms : Nat) : Room := { frames := 9, cells := mc, slots := ms, locals := 154 }
theorem tc_L_gets : Cond.codeWith yL_gets cL_gets 6 (some .int) [(0, 12, 15, 31), (0, 12, 19, 13)] ∈ pq_U := tw1352
theorem cd_L_gets : yL_gets.cls ≠ "java/lang/invoke/MethodHandle" ∧ yL_gets.cls ≠ "java/lang/invoke/VarHandle" ∧ (parseMethodDescriptor yL_gets.desc).map (fun d => d.parameters.length) = some 5 := by decide +kernel
set_option maxHeartbeats 4000000 in
set_option maxRecDepth 100000 in
theorem cl_L_gets (l : Launch) (C : pq_C) (ao : Nat) (f : Nat → Int64) (n : Nat) (S0 : pq_S) (hF : WF S0) (sz : Nat) (a0 : Nat) (x1 : Int32) (x2 : Int32) (x3 : Int32) (Ta0 : TY S0 a0 11) (mc ms : Nat) (hst : l.stackTraces = false) (K : Int32 → (Nat → Int64) → pq_S → Prop) (hm : wp_X11_gets n a0 x1 x2 x3 S0 mc ms (fun (k : Nat) (S1 : pq_S) => (k = 2 ∧ K 1 f S1) ∨ (k = 1 ∧ K 2 f S1)) (fun r (S1 : pq_S) => K 0 (vp_updL f 0 (Int32.toInt64 r)) S1)) : vx_Met l yL_gets (.codeWith yL_gets cL_gets 6 (some .int) [(0, 12, 15, 31), (0, 12, 19, 13)] :: pq_U) (rl_L_gets mc ms) (va_Pc [.ref a0, .int x1, .int x2, .int x3, .ref ao] (CPre C (XL C ao f) S0 sz)) (QwL C ao f S0 sz K) (XcN (pq_F C (XL C ao f) S0 sz)) mc ms (pq_F C (XL C ao f) S0 sz) := by
  refine vx_ofWH (cc := cL_gets) (maxL := 6) (ret := (some .int)) (hh := [(0, 12, 15, 31), (0, 12, 19, 13)]) (by decide) rfl ?_
  intro p e s m args below meth c s₁ B hml hv
  obtain ⟨rfl, hv⟩ := hv
  have hsz := hv.1
  subst hsz
  have hw := pw_entry hF hv
  have hts := atoms_spec (ws := .codeWith yL_gets cL_gets 6 (some .int) [(0, 12, 15, 31), (0, 12, 19, 13)] :: pq_U) B.pre
  have hU : ∀ w ∈ pq_U, w.before _ s = true := fun w h => hts w (List.mem_cons_of_mem _ h)
  have hx := B.exec
  have hb := B.bytes
  have hr := B.returns
  have htab : c.exceptionTable.toList = tableOf [(0, 12, 15, 31), (0, 12, 19, 13)] := vx_table (x := yL_gets) B (hts _ List.mem_cons_self)
  have hown : s.vm.findClass RL = some m.cls := findClass_of_methodNamed B.named
  have hlk := B.notSynchronized
  have hl := lv_entry ([.ref a0, .int x1, .int x2, .int x3, .ref ao]) (n := 6) (Nat.le_of_ble_eq_true rfl)
  rw [lg_entry_eq]
  generalize (lg_sl ([.ref a0, .int x1, .int x2, .int x3, .ref ao]) ++ List.replicate (6 - (lg_sl ([.ref a0, .int x1, .int x2, .int x3, .ref ao])).length) Slot.unset).toArray = ls at hl ⊢
  have hl : lv_has ls 6 [(0, .ref a0), (1, .int x1), (2, .int x2), (3, .int x3), (4, .ref ao)] := hl
  have hE : Ext S0 S0 := Ext.rf _
  refine lv_aload hx hb dL_gets_0 (lv_at hl 4 rfl) ?_
  refine lv_iconst (v := 0) hx hb dL_gets_2 (by decide) ?_
  refine lv_aload_n hx hb dL_gets_3 rfl (lv_at hl 0 rfl) ?_
  refine lv_iload_n hx hb dL_gets_4 rfl (lv_at hl 1 rfl) ?_
  refine lv_iload_n hx hb dL_gets_5 rfl (lv_at hl 2 rfl) ?_
  refine lv_iload_n hx hb dL_gets_6 rfl (lv_at hl 3 rfl) ?_
  refine vx_calli (vx_runV (As := [.int x1, .int x2, .int x3]) (rest := [.int 0, .ref ao]) ⟨hx, hb, hml, hown, hU⟩ (cw_X11_gets l C (XL C ao f) n S0 hw.wf _ a0 x1 x2 x3 Ta0 mc ms hst _ _ hm) (cwV 3 hU (pq_gV tw1353 tw1354 tw1355 tw1 tc_X11_gets) rfl rfl rfl cd_X11_gets ⟨Nat.le_of_ble_eq_true rfl, Nat.le_of_ble_eq_true rfl⟩) (pw_preV hw Ta0 (by decide) rfl) rfl rfl hl.1 rfl (lv_room (Nat.le_of_ble_eq_true rfl)) dL_gets_7 ⟨by show 0 + mc ≤ mc; omega, by show 0 + ms ≤ ms; omega⟩) hw.S (fun q _ h => pw_free hw q h) (pw_free hw) (fun q _ h => pw_free hw q h) (fun Es ce q9 u t H1 locs1 ht hvm hpx hB hz1 hk1 hS hce hcv hcl => ?_) (fun r u t H1 locs1 ht hvm hq hB hz1 hk1 hS => ?_)
  · obtain ⟨k, S1⟩ := u
    obtain ⟨hEu, hF1, hEx⟩ := hpx
    obtain ⟨hes, hB⟩ := hB
    dsimp only at hEu hF1 hEx hes hB
    have hw := pw_xpost hw ht hvm hF1 hB hS
    rcases hEu with hEu | hEu
    · obtain ⟨rfl, hK⟩ := hEu
      have hes : Es = "java/util/NoSuchElementException" := hes
      subst hes
      refine fx_first (own := RL) (name := "java/util/NoSuchElementException") hown _ _ htab (by decide) (by decide) (hU _ tw991) (pq_N.use hw.fx.1.1 _ (List.mem_of_getElem? (i := 189) rfl)) hce hcv hcl ?_
      refine lv_astore (lv' := [(5, .ref q9), (0, .ref a0), (1, .int x1), (2, .int x2), (3, .int x3), (4, .ref ao)]) hx hb dL_gets_15 hl (by decide) rfl (fun ls hl => ?_)
      refine lv_iconst (v := 1) hx hb dL_gets_17 (by decide) ?_
      exact pw_lret hx hb hr hlk hw hEx hK (by omega) (by omega) dL_gets_18
    · obtain ⟨rfl, hK⟩ := hEu
      have hes : Es = "java/lang/IllegalArgumentException" := hes
      subst hes
      refine fx_second (own := RL) (nmy := "java/util/NoSuchElementException") (name := "java/lang/IllegalArgumentException") hown _ _ _ htab (by decide) (by decide) (hU _ tw991) hw.fx.1.2.2.1 (by decide) (by decide) (hU _ tw481) (pq_N.use hw.fx.1.1 _ (List.mem_of_getElem? (i := 188) rfl)) hce hcv hcl ?_
      refine lv_astore (lv' := [(5, .ref q9), (0, .ref a0), (1, .int x1), (2, .int x2), (3, .int x3), (4, .ref ao)]) hx hb dL_gets_19 hl (by decide) rfl (fun ls hl => ?_)
      refine lv_iconst (v := 2) hx hb dL_gets_21 (by decide) ?_
      exact pw_lret hx hb hr hlk hw hEx hK (by omega) (by omega) dL_gets_22
  · obtain ⟨hK, hF1, hEx⟩ := hq
    have hw := pw_xpost hw ht hvm hF1 hB hS
    refine lv_i2l (v := Int32.toInt64 r) hx hb dL_gets_10 rfl ?_
    refine pw_last hx hb hw dL_gets_11 (fun H locs hw => ?_)
    refine lv_goto (tgt := 23) hx hb dL_gets_12 (by decide) ?_
    refine lv_iconst (v := 0) hx hb dL_gets_23 (by decide) ?_
    exact pw_lret hx hb hr hlk hw hEx hK (by omega) (by omega) dL_gets_24
abbrev rl_L_moons (mc ms : Nat) : Room := { frames := 8, cells := mc, slots := ms, locals := 131 }
theorem tc_L_moons : Cond.codeWith yL_moons cL_moons 4 (some .int) [(0, 9, 12, 13)] ∈ pq_U := tw1360
theorem cd_L_moons : yL_moons.cls ≠ "java/lang/invoke/MethodHandle" ∧ yL_moons.cls ≠ "java/lang/invoke/VarHandle" ∧ (parseMethodDescriptor yL_moons.desc).map (fun d => d.parameters.length) = some 3 := by decide +kernel
set_option maxHeartbeats 4000000 in
set_option maxRecDepth 100000 in
theorem cl_L_moons (l : Launch) (C : pq_C) (ao : Nat) (f : Nat → Int64) (n : Nat) (S0 : pq_S) (hF : WF S0) (sz : Nat) (a0 : Nat) (x1 : Int32) (Ta0 : TY S0 a0 11) (mc ms : Nat) (hst : l.stackTraces = false) (K : Int32 → (Nat → Int64) → pq_S → Prop) (hm : wp_X11_moons n a0 x1 S0 mc ms (fun (k : Nat) (S1 : pq_S) => (k = 1 ∧ K 1 f S1)) (fun r (S1 : pq_S) => K 0 (vp_updL f 0 (Int32.toInt64 r)) S1)) : vx_Met l yL_moons (.codeWith yL_moons cL_moons 4 (some .int) [(0, 9, 12, 13)] :: pq_U) (rl_L_moons mc ms) (va_Pc [.ref a0, .int x1, .ref ao] (CPre C (XL C ao f) S0 sz)) (QwL C ao f S0 sz K) (XcN (pq_F C (XL C ao f) S0 sz)) mc ms (pq_F C (XL C ao f) S0 sz) := by
  refine vx_ofWH (cc := cL_moons) (maxL := 4) (ret := (some .int)) (hh := [(0, 9, 12, 13)]) (by decide) rfl ?_
  intro p e s m args below meth c s₁ B hml hv
  obtain ⟨rfl, hv⟩ := hv
  have hsz := hv.1
  subst hsz
  have hw := pw_entry hF hv
  have hts := atoms_spec (ws := .codeWith yL_moons cL_moons 4 (some .int) [(0, 9, 12, 13)] :: pq_U) B.pre
  have hU : ∀ w ∈ pq_U, w.before _ s = true := fun w h => hts w (List.mem_cons_of_mem _ h)
  have hx := B.exec
  have hb := B.bytes
  have hr := B.returns
  have htab : c.exceptionTable.toList = tableOf [(0, 9, 12, 13)] := vx_table (x := yL_moons) B (hts _ List.mem_cons_self)
  have hown : s.vm.findClass RL = some m.cls := findClass_of_methodNamed B.named
  have hlk := B.notSynchronized
  have hl := lv_entry ([.ref a0, .int x1, .ref ao]) (n := 4) (Nat.le_of_ble_eq_true rfl)
  rw [lg_entry_eq]
  generalize (lg_sl ([.ref a0, .int x1, .ref ao]) ++ List.replicate (4 - (lg_sl ([.ref a0, .int x1, .ref ao])).length) Slot.unset).toArray = ls at hl ⊢
  have hl : lv_has ls 4 [(0, .ref a0), (1, .int x1), (2, .ref ao)] := hl
  have hE : Ext S0 S0 := Ext.rf _
  refine lv_aload_n hx hb dL_moons_0 rfl (lv_at hl 2 rfl) ?_
  refine lv_iconst (v := 0) hx hb dL_moons_1 (by decide) ?_
  refine lv_aload_n hx hb dL_moons_2 rfl (lv_at hl 0 rfl) ?_
  refine lv_iload_n hx hb dL_moons_3 rfl (lv_at hl 1 rfl) ?_
  refine vx_calli (vx_runV (As := [.int x1]) (rest := [.int 0, .ref ao]) ⟨hx, hb, hml, hown, hU⟩ (cw_X11_moons l C (XL C ao f) n S0 hw.wf _ a0 x1 Ta0 mc ms hst _ _ hm) (cwV 1 hU (pq_gV tw1361 tw1362 tw1363 tw1 tc_X11_moons) rfl rfl rfl cd_X11_moons ⟨Nat.le_of_ble_eq_true rfl, Nat.le_of_ble_eq_true rfl⟩) (pw_preV hw Ta0 (by decide) rfl) rfl rfl hl.1 rfl (lv_room (Nat.le_of_ble_eq_true rfl)) dL_moons_4 ⟨by show 0 + mc ≤ mc; omega, by show 0 + ms ≤ ms; omega⟩) hw.S (fun q _ h => pw_free hw q h) (pw_free hw) (fun q _ h => pw_free hw q h) (fun Es ce q9 u t H1 locs1 ht hvm hpx hB hz1 hk1 hS hce hcv hcl => ?_) (fun r u t H1 locs1 ht hvm hq hB hz1 hk1 hS => ?_)
  · obtain ⟨k, S1⟩ := u
    obtain ⟨hEu, hF1, hEx⟩ := hpx
    obtain ⟨hes, hB⟩ := hB
    dsimp only at hEu hF1 hEx hes hB
    have hw := pw_xpost hw ht hvm hF1 hB hS
    obtain ⟨rfl, hK⟩ := hEu
    have hes : Es = "java/lang/IllegalArgumentException" := hes
    subst hes
    refine fx_first (own := RL) (name := "java/lang/IllegalArgumentException") hown _ _ htab (by decide) (by decide) (hU _ tw481) (pq_N.use hw.fx.1.1 _ (List.mem_of_getElem? (i := 188) rfl)) hce hcv hcl ?_
    refine lv_astore_n (lv' := [(3, .ref q9), (0, .ref a0), (1, .int x1), (2, .ref ao)]) hx hb dL_moons_12 rfl hl (by decide) rfl (fun ls hl => ?_)
    refine lv_iconst (v := 1) hx hb dL_moons_13 (by decide) ?_
    exact pw_lret hx hb hr hlk hw hEx hK (by omega) (by omega) dL_moons_14
  · obtain ⟨hK, hF1, hEx⟩ := hq
    have hw := pw_xpost hw ht hvm hF1 hB hS
    refine lv_i2l (v := Int32.toInt64 r) hx hb dL_moons_7 rfl ?_
    refine pw_last hx hb hw dL_moons_8 (fun H locs hw => ?_)
    refine lv_goto (tgt := 15) hx hb dL_moons_9 (by decide) ?_
    refine lv_iconst (v := 0) hx hb dL_moons_15 (by decide) ?_
    exact pw_lret hx hb hr hlk hw hEx hK (by omega) (by omega) dL_moons_16
abbrev rl_L_dark (mc ms : Nat) : Room := { frames := 8, cells := mc, slots := ms, locals := 131 }
theorem tc_L_dark : Cond.codeWith yL_dark cL_dark 4 (some .int) [(0, 9, 12, 13)] ∈ pq_U := tw1374
theorem cd_L_dark : yL_dark.cls ≠ "java/lang/invoke/MethodHandle" ∧ yL_dark.cls ≠ "java/lang/invoke/VarHandle" ∧ (parseMethodDescriptor yL_dark.desc).map (fun d => d.parameters.length) = some 3 := by decide +kernel
set_option maxHeartbeats 4000000 in
set_option maxRecDepth 100000 in
theorem cl_L_dark (l : Launch) (C : pq_C) (ao : Nat) (f : Nat → Int64) (n : Nat) (S0 : pq_S) (hF : WF S0) (sz : Nat) (a0 : Nat) (x1 : Int32) (Ta0 : TY S0 a0 11) (mc ms : Nat) (hst : l.stackTraces = false) (K : Int32 → (Nat → Int64) → pq_S → Prop) (hm : wp_X11_dark n a0 x1 S0 mc ms (fun (k : Nat) (S1 : pq_S) => (k = 1 ∧ K 1 f S1)) (fun r (S1 : pq_S) => K 0 (vp_updL f 0 (Int32.toInt64 r)) S1)) : vx_Met l yL_dark (.codeWith yL_dark cL_dark 4 (some .int) [(0, 9, 12, 13)] :: pq_U) (rl_L_dark mc ms) (va_Pc [.ref a0, .int x1, .ref ao] (CPre C (XL C ao f) S0 sz)) (QwL C ao f S0 sz K) (XcN (pq_F C (XL C ao f) S0 sz)) mc ms (pq_F C (XL C ao f) S0 sz) := by
  refine vx_ofWH (cc := cL_dark) (maxL := 4) (ret := (some .int)) (hh := [(0, 9, 12, 13)]) (by decide) rfl ?_
  intro p e s m args below meth c s₁ B hml hv
  obtain ⟨rfl, hv⟩ := hv
  have hsz := hv.1
  subst hsz
  have hw := pw_entry hF hv
  have hts := atoms_spec (ws := .codeWith yL_dark cL_dark 4 (some .int) [(0, 9, 12, 13)] :: pq_U) B.pre
  have hU : ∀ w ∈ pq_U, w.before _ s = true := fun w h => hts w (List.mem_cons_of_mem _ h)
  have hx := B.exec
  have hb := B.bytes
  have hr := B.returns
  have htab : c.exceptionTable.toList = tableOf [(0, 9, 12, 13)] := vx_table (x := yL_dark) B (hts _ List.mem_cons_self)
  have hown : s.vm.findClass RL = some m.cls := findClass_of_methodNamed B.named
  have hlk := B.notSynchronized
  have hl := lv_entry ([.ref a0, .int x1, .ref ao]) (n := 4) (Nat.le_of_ble_eq_true rfl)
  rw [lg_entry_eq]
  generalize (lg_sl ([.ref a0, .int x1, .ref ao]) ++ List.replicate (4 - (lg_sl ([.ref a0, .int x1, .ref ao])).length) Slot.unset).toArray = ls at hl ⊢
  have hl : lv_has ls 4 [(0, .ref a0), (1, .int x1), (2, .ref ao)] := hl
  have hE : Ext S0 S0 := Ext.rf _
  refine lv_aload_n hx hb dL_dark_0 rfl (lv_at hl 2 rfl) ?_
  refine lv_iconst (v := 0) hx hb dL_dark_1 (by decide) ?_
  refine lv_aload_n hx hb dL_dark_2 rfl (lv_at hl 0 rfl) ?_
  refine lv_iload_n hx hb dL_dark_3 rfl (lv_at hl 1 rfl) ?_
  refine vx_calli (vx_runV (As := [.int x1]) (rest := [.int 0, .ref ao]) ⟨hx, hb, hml, hown, hU⟩ (cw_X11_dark l C (XL C ao f) n S0 hw.wf _ a0 x1 Ta0 mc ms hst _ _ hm) (cwV 1 hU (pq_gV tw1375 tw1376 tw1377 tw1 tc_X11_dark) rfl rfl rfl cd_X11_dark ⟨Nat.le_of_ble_eq_true rfl, Nat.le_of_ble_eq_true rfl⟩) (pw_preV hw Ta0 (by decide) rfl) rfl rfl hl.1 rfl (lv_room (Nat.le_of_ble_eq_true rfl)) dL_dark_4 ⟨by show 0 + mc ≤ mc; omega, by show 0 + ms ≤ ms; omega⟩) hw.S (fun q _ h => pw_free hw q h) (pw_free hw) (fun q _ h => pw_free hw q h) (fun Es ce q9 u t H1 locs1 ht hvm hpx hB hz1 hk1 hS hce hcv hcl => ?_) (fun r u t H1 locs1 ht hvm hq hB hz1 hk1 hS => ?_)
  · obtain ⟨k, S1⟩ := u
    obtain ⟨hEu, hF1, hEx⟩ := hpx
    obtain ⟨hes, hB⟩ := hB
    dsimp only at hEu hF1 hEx hes hB
    have hw := pw_xpost hw ht hvm hF1 hB hS
    obtain ⟨rfl, hK⟩ := hEu
    have hes : Es = "java/lang/IllegalArgumentException" := hes
    subst hes
    refine fx_first (own := RL) (name := "java/lang/IllegalArgumentException") hown _ _ htab (by decide) (by decide) (hU _ tw481) (pq_N.use hw.fx.1.1 _ (List.mem_of_getElem? (i := 188) rfl)) hce hcv hcl ?_
    refine lv_astore_n (lv' := [(3, .ref q9), (0, .ref a0), (1, .int x1), (2, .ref ao)]) hx hb dL_dark_12 rfl hl (by decide) rfl (fun ls hl => ?_)
    refine lv_iconst (v := 1) hx hb dL_dark_13 (by decide) ?_
    exact pw_lret hx hb hr hlk hw hEx hK (by omega) (by omega) dL_dark_14
  · obtain ⟨hK, hF1, hEx⟩ := hq
    have hw := pw_xpost hw ht hvm hF1 hB hS
    refine lv_i2l (v := Int32.toInt64 r) hx hb dL_dark_7 rfl ?_
    refine pw_last hx hb hw dL_dark_8 (fun H locs hw => ?_)
    refine lv_goto (tgt := 15) hx hb dL_dark_9 (by decide) ?_
    refine lv_iconst (v := 0) hx hb dL_dark_15 (by decide) ?_
    exact pw_lret hx hb hr hlk hw hEx hK (by omega) (by omega) dL_dark_16
abbrev rl_L_bright (mc ms : Nat) : Room := { frames := 8, cells := mc, slots := ms, locals := 131 }
theorem tc_L_bright : Cond.codeWith yL_bright cL_bright 4 (some .int) [(0, 9, 12, 13)] ∈ pq_U := tw1386
theorem cd_L_bright : yL_bright.cls ≠ "java/lang/invoke/MethodHandle" ∧ yL_bright.cls ≠ "java/lang/invoke/VarHandle" ∧ (parseMethodDescriptor yL_bright.desc).map (fun d => d.parameters.length) = some 3 := by decide +kernel
set_option maxHeartbeats 4000000 in
set_option maxRecDepth 100000 in
theorem cl_L_bright (l : Launch) (C : pq_C) (ao : Nat) (f : Nat → Int64) (n : Nat) (S0 : pq_S) (hF : WF S0) (sz : Nat) (a0 : Nat) (x1 : Int32) (Ta0 : TY S0 a0 11) (mc ms : Nat) (hst : l.stackTraces = false) (K : Int32 → (Nat → Int64) → pq_S → Prop) (hm : wp_X11_bright n a0 x1 S0 mc ms (fun (k : Nat) (S1 : pq_S) => (k = 1 ∧ K 1 f S1)) (fun r (S1 : pq_S) => K 0 (vp_updL f 0 (Int32.toInt64 r)) S1)) : vx_Met l yL_bright (.codeWith yL_bright cL_bright 4 (some .int) [(0, 9, 12, 13)] :: pq_U) (rl_L_bright mc ms) (va_Pc [.ref a0, .int x1, .ref ao] (CPre C (XL C ao f) S0 sz)) (QwL C ao f S0 sz K) (XcN (pq_F C (XL C ao f) S0 sz)) mc ms (pq_F C (XL C ao f) S0 sz) := by
  refine vx_ofWH (cc := cL_bright) (maxL := 4) (ret := (some .int)) (hh := [(0, 9, 12, 13)]) (by decide) rfl ?_
  intro p e s m args below meth c s₁ B hml hv
  obtain ⟨rfl, hv⟩ := hv
  have hsz := hv.1
  subst hsz
  have hw := pw_entry hF hv
  have hts := atoms_spec (ws := .codeWith yL_bright cL_bright 4 (some .int) [(0, 9, 12, 13)] :: pq_U) B.pre
  have hU : ∀ w ∈ pq_U, w.before _ s = true := fun w h => hts w (List.mem_cons_of_mem _ h)
  have hx := B.exec
  have hb := B.bytes
  have hr := B.returns
  have htab : c.exceptionTable.toList = tableOf [(0, 9, 12, 13)] := vx_table (x := yL_bright) B (hts _ List.mem_cons_self)
  have hown : s.vm.findClass RL = some m.cls := findClass_of_methodNamed B.named
  have hlk := B.notSynchronized
  have hl := lv_entry ([.ref a0, .int x1, .ref ao]) (n := 4) (Nat.le_of_ble_eq_true rfl)
  rw [lg_entry_eq]
  generalize (lg_sl ([.ref a0, .int x1, .ref ao]) ++ List.replicate (4 - (lg_sl ([.ref a0, .int x1, .ref ao])).length) Slot.unset).toArray = ls at hl ⊢
  have hl : lv_has ls 4 [(0, .ref a0), (1, .int x1), (2, .ref ao)] := hl
  have hE : Ext S0 S0 := Ext.rf _
  refine lv_aload_n hx hb dL_bright_0 rfl (lv_at hl 2 rfl) ?_
  refine lv_iconst (v := 0) hx hb dL_bright_1 (by decide) ?_
  refine lv_aload_n hx hb dL_bright_2 rfl (lv_at hl 0 rfl) ?_
  refine lv_iload_n hx hb dL_bright_3 rfl (lv_at hl 1 rfl) ?_
  refine vx_calli (vx_runV (As := [.int x1]) (rest := [.int 0, .ref ao]) ⟨hx, hb, hml, hown, hU⟩ (cw_X11_bright l C (XL C ao f) n S0 hw.wf _ a0 x1 Ta0 mc ms hst _ _ hm) (cwV 1 hU (pq_gV tw1387 tw1388 tw1389 tw1 tc_X11_bright) rfl rfl rfl cd_X11_bright ⟨Nat.le_of_ble_eq_true rfl, Nat.le_of_ble_eq_true rfl⟩) (pw_preV hw Ta0 (by decide) rfl) rfl rfl hl.1 rfl (lv_room (Nat.le_of_ble_eq_true rfl)) dL_bright_4 ⟨by show 0 + mc ≤ mc; omega, by show 0 + ms ≤ ms; omega⟩) hw.S (fun q _ h => pw_free hw q h) (pw_free hw) (fun q _ h => pw_free hw q h) (fun Es ce q9 u t H1 locs1 ht hvm hpx hB hz1 hk1 hS hce hcv hcl => ?_) (fun r u t H1 locs1 ht hvm hq hB hz1 hk1 hS => ?_)
  · obtain ⟨k, S1⟩ := u
    obtain ⟨hEu, hF1, hEx⟩ := hpx
    obtain ⟨hes, hB⟩ := hB
    dsimp only at hEu hF1 hEx hes hB
    have hw := pw_xpost hw ht hvm hF1 hB hS
    obtain ⟨rfl, hK⟩ := hEu
    have hes : Es = "java/lang/IllegalArgumentException" := hes
    subst hes
    refine fx_first (own := RL) (name := "java/lang/IllegalArgumentException") hown _ _ htab (by decide) (by decide) (hU _ tw481) (pq_N.use hw.fx.1.1 _ (List.mem_of_getElem? (i := 188) rfl)) hce hcv hcl ?_
    refine lv_astore_n (lv' := [(3, .ref q9), (0, .ref a0), (1, .int x1), (2, .ref ao)]) hx hb dL_bright_12 rfl hl (by decide) rfl (fun ls hl => ?_)
    refine lv_iconst (v := 1) hx hb dL_bright_13 (by decide) ?_
    exact pw_lret hx hb hr hlk hw hEx hK (by omega) (by omega) dL_bright_14
  · obtain ⟨hK, hF1, hEx⟩ := hq
    have hw := pw_xpost hw ht hvm hF1 hB hS
    refine lv_i2l (v := Int32.toInt64 r) hx hb dL_bright_7 rfl ?_
    refine pw_last hx hb hw dL_bright_8 (fun H locs hw => ?_)
    refine lv_goto (tgt := 15) hx hb dL_bright_9 (by decide) ?_
    refine lv_iconst (v := 0) hx hb dL_bright_15 (by decide) ?_
    exact pw_lret hx hb hr hlk hw hEx hK (by omega) (by omega) dL_bright_16
abbrev rl_L_darks (mc ms : Nat) : Room := { frames := 8, cells := mc, slots := ms, locals := 134 }
theorem tc_L_darks : Cond.codeWith yL_darks cL_darks 5 (some .int) [(0, 10, 13, 13)] ∈ pq_U := tw1393
theorem cd_L_darks : yL_darks.cls ≠ "java/lang/invoke/MethodHandle" ∧ yL_darks.cls ≠ "java/lang/invoke/VarHandle" ∧ (parseMethodDescriptor yL_darks.desc).map (fun d => d.parameters.length) = some 4 := by decide +kernel
set_option maxHeartbeats 4000000 in
set_option maxRecDepth 100000 in
theorem cl_L_darks (l : Launch) (C : pq_C) (ao : Nat) (f : Nat → Int64) (n : Nat) (S0 : pq_S) (hF : WF S0) (sz : Nat) (a0 : Nat) (x1 : Int32) (x2 : Int32) (Ta0 : TY S0 a0 11) (mc ms : Nat) (hst : l.stackTraces = false) (K : Int32 → (Nat → Int64) → pq_S → Prop) (hm : wp_X11_darks n a0 x1 x2 S0 mc ms (fun (k : Nat) (S1 : pq_S) => (k = 1 ∧ K 1 f S1)) (fun r (S1 : pq_S) => K 0 (vp_updL f 0 (Int32.toInt64 r)) S1)) : vx_Met l yL_darks (.codeWith yL_darks cL_darks 5 (some .int) [(0, 10, 13, 13)] :: pq_U) (rl_L_darks mc ms) (va_Pc [.ref a0, .int x1, .int x2, .ref ao] (CPre C (XL C ao f) S0 sz)) (QwL C ao f S0 sz K) (XcN (pq_F C (XL C ao f) S0 sz)) mc ms (pq_F C (XL C ao f) S0 sz) := by
  refine vx_ofWH (cc := cL_darks) (maxL := 5) (ret := (some .int)) (hh := [(0, 10, 13, 13)]) (by decide) rfl ?_
  intro p e s m args below meth c s₁ B hml hv
  obtain ⟨rfl, hv⟩ := hv
  have hsz := hv.1
  subst hsz
  have hw := pw_entry hF hv
  have hts := atoms_spec (ws := .codeWith yL_darks cL_darks 5 (some .int) [(0, 10, 13, 13)] :: pq_U) B.pre
  have hU : ∀ w ∈ pq_U, w.before _ s = true := fun w h => hts w (List.mem_cons_of_mem _ h)
  have hx := B.exec
  have hb := B.bytes
  have hr := B.returns
  have htab : c.exceptionTable.toList = tableOf [(0, 10, 13, 13)] := vx_table (x := yL_darks) B (hts _ List.mem_cons_self)
  have hown : s.vm.findClass RL = some m.cls := findClass_of_methodNamed B.named
  have hlk := B.notSynchronized
  have hl := lv_entry ([.ref a0, .int x1, .int x2, .ref ao]) (n := 5) (Nat.le_of_ble_eq_true rfl)
  rw [lg_entry_eq]
  generalize (lg_sl ([.ref a0, .int x1, .int x2, .ref ao]) ++ List.replicate (5 - (lg_sl ([.ref a0, .int x1, .int x2, .ref ao])).length) Slot.unset).toArray = ls at hl ⊢
  have hl : lv_has ls 5 [(0, .ref a0), (1, .int x1), (2, .int x2), (3, .ref ao)] := hl
  have hE : Ext S0 S0 := Ext.rf _
  refine lv_aload_n hx hb dL_darks_0 rfl (lv_at hl 3 rfl) ?_
  refine lv_iconst (v := 0) hx hb dL_darks_1 (by decide) ?_
  refine lv_aload_n hx hb dL_darks_2 rfl (lv_at hl 0 rfl) ?_
  refine lv_iload_n hx hb dL_darks_3 rfl (lv_at hl 1 rfl) ?_
  refine lv_iload_n hx hb dL_darks_4 rfl (lv_at hl 2 rfl) ?_
  refine vx_calli (vx_runV (As := [.int x1, .int x2]) (rest := [.int 0, .ref ao]) ⟨hx, hb, hml, hown, hU⟩ (cw_X11_darks l C (XL C ao f) n S0 hw.wf _ a0 x1 x2 Ta0 mc ms hst _ _ hm) (cwV 2 hU (pq_gV tw1394 tw1395 tw1396 tw1 tc_X11_darks) rfl rfl rfl cd_X11_darks ⟨Nat.le_of_ble_eq_true rfl, Nat.le_of_ble_eq_true rfl⟩) (pw_preV hw Ta0 (by decide) rfl) rfl rfl hl.1 rfl (lv_room (Nat.le_of_ble_eq_true rfl)) dL_darks_5 ⟨by show 0 + mc ≤ mc; omega, by show 0 + ms ≤ ms; omega⟩) hw.S (fun q _ h => pw_free hw q h) (pw_free hw) (fun q _ h => pw_free hw q h) (fun Es ce q9 u t H1 locs1 ht hvm hpx hB hz1 hk1 hS hce hcv hcl => ?_) (fun r u t H1 locs1 ht hvm hq hB hz1 hk1 hS => ?_)
  · obtain ⟨k, S1⟩ := u
    obtain ⟨hEu, hF1, hEx⟩ := hpx
    obtain ⟨hes, hB⟩ := hB
    dsimp only at hEu hF1 hEx hes hB
    have hw := pw_xpost hw ht hvm hF1 hB hS
    obtain ⟨rfl, hK⟩ := hEu
    have hes : Es = "java/lang/IllegalArgumentException" := hes
    subst hes
    refine fx_first (own := RL) (name := "java/lang/IllegalArgumentException") hown _ _ htab (by decide) (by decide) (hU _ tw481) (pq_N.use hw.fx.1.1 _ (List.mem_of_getElem? (i := 188) rfl)) hce hcv hcl ?_
    refine lv_astore (lv' := [(4, .ref q9), (0, .ref a0), (1, .int x1), (2, .int x2), (3, .ref ao)]) hx hb dL_darks_13 hl (by decide) rfl (fun ls hl => ?_)
    refine lv_iconst (v := 1) hx hb dL_darks_15 (by decide) ?_
    exact pw_lret hx hb hr hlk hw hEx hK (by omega) (by omega) dL_darks_16
  · obtain ⟨hK, hF1, hEx⟩ := hq
    have hw := pw_xpost hw ht hvm hF1 hB hS
    refine lv_i2l (v := Int32.toInt64 r) hx hb dL_darks_8 rfl ?_
    refine pw_last hx hb hw dL_darks_9 (fun H locs hw => ?_)
    refine lv_goto (tgt := 17) hx hb dL_darks_10 (by decide) ?_
    refine lv_iconst (v := 0) hx hb dL_darks_17 (by decide) ?_
    exact pw_lret hx hb hr hlk hw hEx hK (by omega) (by omega) dL_darks_18
abbrev rl_L_clouds (mc ms : Nat) : Room := { frames := 8, cells := mc, slots := ms, locals := 135 }
theorem tc_L_clouds : Cond.codeWith yL_clouds cL_clouds 8 (some .int) [(0, 16, 19, 13)] ∈ pq_U := tw1400
theorem cd_L_clouds : yL_clouds.cls ≠ "java/lang/invoke/MethodHandle" ∧ yL_clouds.cls ≠ "java/lang/invoke/VarHandle" ∧ (parseMethodDescriptor yL_clouds.desc).map (fun d => d.parameters.length) = some 7 := by decide +kernel
set_option maxHeartbeats 4000000 in
set_option maxRecDepth 100000 in
theorem cl_L_clouds (l : Launch) (C : pq_C) (ao : Nat) (f : Nat → Int64) (n : Nat) (S0 : pq_S) (hF : WF S0) (sz : Nat) (a0 : Nat) (x1 : Int32) (x2 : Int32) (x3 : Int32) (x4 : Int32) (x5 : Int32) (Ta0 : TY S0 a0 11) (mc ms : Nat) (hst : l.stackTraces = false) (K : Int32 → (Nat → Int64) → pq_S → Prop) (hm : wp_X11_clouds n a0 x1 x2 x3 x4 x5 S0 mc ms (fun (k : Nat) (S1 : pq_S) => (k = 1 ∧ K 1 f S1)) (fun r (S1 : pq_S) => K 0 (vp_updL f 0 (Int32.toInt64 r)) S1)) : vx_Met l yL_clouds (.codeWith yL_clouds cL_clouds 8 (some .int) [(0, 16, 19, 13)] :: pq_U) (rl_L_clouds mc ms) (va_Pc [.ref a0, .int x1, .int x2, .int x3, .int x4, .int x5, .ref ao] (CPre C (XL C ao f) S0 sz)) (QwL C ao f S0 sz K) (XcN (pq_F C (XL C ao f) S0 sz)) mc ms (pq_F C (XL C ao f) S0 sz) := by
  refine vx_ofWH (cc := cL_clouds) (maxL := 8) (ret := (some .int)) (hh := [(0, 16, 19, 13)]) (by decide) rfl ?_
  intro p e s m args below meth c s₁ B hml hv
  obtain ⟨rfl, hv⟩ := hv
  have hsz := hv.1
  subst hsz
  have hw := pw_entry hF hv
  have hts := atoms_spec (ws := .codeWith yL_clouds cL_clouds 8 (some .int) [(0, 16, 19, 13)] :: pq_U) B.pre
  have hU : ∀ w ∈ pq_U, w.before _ s = true := fun w h => hts w (List.mem_cons_of_mem _ h)
  have hx := B.exec
  have hb := B.bytes
  have hr := B.returns
  have htab : c.exceptionTable.toList = tableOf [(0, 16, 19, 13)] := vx_table (x := yL_clouds) B (hts _ List.mem_cons_self)
  have hown : s.vm.findClass RL = some m.cls := findClass_of_methodNamed B.named
  have hlk := B.notSynchronized
  have hl := lv_entry ([.ref a0, .int x1, .int x2, .int x3, .int x4, .int x5, .ref ao]) (n := 8) (Nat.le_of_ble_eq_true rfl)
  rw [lg_entry_eq]
  generalize (lg_sl ([.ref a0, .int x1, .int x2, .int x3, .int x4, .int x5, .ref ao]) ++ List.replicate (8 - (lg_sl ([.ref a0, .int x1, .int x2, .int x3, .int x4, .int x5, .ref ao])).length) Slot.unset).toArray = ls at hl ⊢
  have hl : lv_has ls 8 [(0, .ref a0), (1, .int x1), (2, .int x2), (3, .int x3), (4, .int x4), (5, .int x5), (6, .ref ao)] := hl
  have hE : Ext S0 S0 := Ext.rf _
  refine lv_aload hx hb dL_clouds_0 (lv_at hl 6 rfl) ?_
  refine lv_iconst (v := 0) hx hb dL_clouds_2 (by decide) ?_
  refine lv_aload_n hx hb dL_clouds_3 rfl (lv_at hl 0 rfl) ?_
  refine lv_iload_n hx hb dL_clouds_4 rfl (lv_at hl 1 rfl) ?_
  refine lv_iload_n hx hb dL_clouds_5 rfl (lv_at hl 2 rfl) ?_
  refine lv_iload_n hx hb dL_clouds_6 rfl (lv_at hl 3 rfl) ?_
  refine lv_iload hx hb dL_clouds_7 (lv_at hl 4 rfl) ?_
  refine lv_iload hx hb dL_clouds_9 (lv_at hl 5 rfl) ?_
  refine vx_calli (vx_runV (As := [.int x1, .int x2, .int x3, .int x4, .int x5]) (rest := [.int 0, .ref ao]) ⟨hx, hb, hml, hown, hU⟩ (cw_X11_clouds l C (XL C ao f) n S0 hw.wf _ a0 x1 x2 x3 x4 x5 Ta0 mc ms hst _ _ hm) (cwV 5 hU (pq_gV tw1401 tw1402 tw1403 tw1 tc_X11_clouds) rfl rfl rfl cd_X11_clouds ⟨Nat.le_of_ble_eq_true rfl, Nat.le_of_ble_eq_true rfl⟩) (pw_preV hw Ta0 (by decide) rfl) rfl rfl hl.1 rfl (lv_room (Nat.le_of_ble_eq_true rfl)) dL_clouds_11 ⟨by show 0 + mc ≤ mc; omega, by show 0 + ms ≤ ms; omega⟩) hw.S (fun q _ h => pw_free hw q h) (pw_free hw) (fun q _ h => pw_free hw q h) (fun Es ce q9 u t H1 locs1 ht hvm hpx hB hz1 hk1 hS hce hcv hcl => ?_) (fun r u t H1 locs1 ht hvm hq hB hz1 hk1 hS => ?_)
  · obtain ⟨k, S1⟩ := u
    obtain ⟨hEu, hF1, hEx⟩ := hpx
    obtain ⟨hes, hB⟩ := hB
    dsimp only at hEu hF1 hEx hes hB
    have hw := pw_xpost hw ht hvm hF1 hB hS
    obtain ⟨rfl, hK⟩ := hEu
    have hes : Es = "java/lang/IllegalArgumentException" := hes
    subst hes
    refine fx_first (own := RL) (name := "java/lang/IllegalArgumentException") hown _ _ htab (by decide) (by decide) (hU _ tw481) (pq_N.use hw.fx.1.1 _ (List.mem_of_getElem? (i := 188) rfl)) hce hcv hcl ?_
    refine lv_astore (lv' := [(7, .ref q9), (0, .ref a0), (1, .int x1), (2, .int x2), (3, .int x3), (4, .int x4), (5, .int x5), (6, .ref ao)]) hx hb dL_clouds_19 hl (by decide) rfl (fun ls hl => ?_)
    refine lv_iconst (v := 1) hx hb dL_clouds_21 (by decide) ?_
    exact pw_lret hx hb hr hlk hw hEx hK (by omega) (by omega) dL_clouds_22
  · obtain ⟨hK, hF1, hEx⟩ := hq
    have hw := pw_xpost hw ht hvm hF1 hB hS
    refine lv_i2l (v := Int32.toInt64 r) hx hb dL_clouds_14 rfl ?_
    refine pw_last hx hb hw dL_clouds_15 (fun H locs hw => ?_)
    refine lv_goto (tgt := 23) hx hb dL_clouds_16 (by decide) ?_
    refine lv_iconst (v := 0) hx hb dL_clouds_23 (by decide) ?_
    exact pw_lret hx hb hr hlk hw hEx hK (by omega) (by omega) dL_clouds_24
abbrev rl_L_span (mc ms : Nat) : Room := { frames := 8, cells := mc, slots := ms, locals := 141 }
theorem tc_L_span : Cond.codeWith yL_span cL_span 9 (some .int) [(0, 18, 21, 13)] ∈ pq_U := tw1416
theorem cd_L_span : yL_span.cls ≠ "java/lang/invoke/MethodHandle" ∧ yL_span.cls ≠ "java/lang/invoke/VarHandle" ∧ (parseMethodDescriptor yL_span.desc).map (fun d => d.parameters.length) = some 8 := by decide +kernel
set_option maxHeartbeats 4000000 in
set_option maxRecDepth 100000 in
theorem cl_L_span (l : Launch) (C : pq_C) (ao : Nat) (f : Nat → Int64) (n : Nat) (S0 : pq_S) (hF : WF S0) (sz : Nat) (a0 : Nat) (x1 : Int32) (x2 : Int32) (x3 : Int32) (x4 : Int32) (x5 : Int32) (x6 : Int32) (Ta0 : TY S0 a0 11) (mc ms : Nat) (hst : l.stackTraces = false) (K : Int32 → (Nat → Int64) → pq_S → Prop) (hm : wp_X11_span n a0 x1 x2 x3 x4 x5 x6 S0 mc ms (fun (k : Nat) (S1 : pq_S) => (k = 1 ∧ K 1 f S1)) (fun r (S1 : pq_S) => K 0 (vp_updL f 0 (Int32.toInt64 r)) S1)) : vx_Met l yL_span (.codeWith yL_span cL_span 9 (some .int) [(0, 18, 21, 13)] :: pq_U) (rl_L_span mc ms) (va_Pc [.ref a0, .int x1, .int x2, .int x3, .int x4, .int x5, .int x6, .ref ao] (CPre C (XL C ao f) S0 sz)) (QwL C ao f S0 sz K) (XcN (pq_F C (XL C ao f) S0 sz)) mc ms (pq_F C (XL C ao f) S0 sz) := by
  refine vx_ofWH (cc := cL_span) (maxL := 9) (ret := (some .int)) (hh := [(0, 18, 21, 13)]) (by decide) rfl ?_
  intro p e s m args below meth c s₁ B hml hv
  obtain ⟨rfl, hv⟩ := hv
  have hsz := hv.1
  subst hsz
  have hw := pw_entry hF hv
  have hts := atoms_spec (ws := .codeWith yL_span cL_span 9 (some .int) [(0, 18, 21, 13)] :: pq_U) B.pre
  have hU : ∀ w ∈ pq_U, w.before _ s = true := fun w h => hts w (List.mem_cons_of_mem _ h)
  have hx := B.exec
  have hb := B.bytes
  have hr := B.returns
  have htab : c.exceptionTable.toList = tableOf [(0, 18, 21, 13)] := vx_table (x := yL_span) B (hts _ List.mem_cons_self)
  have hown : s.vm.findClass RL = some m.cls := findClass_of_methodNamed B.named
  have hlk := B.notSynchronized
  have hl := lv_entry ([.ref a0, .int x1, .int x2, .int x3, .int x4, .int x5, .int x6, .ref ao]) (n := 9) (Nat.le_of_ble_eq_true rfl)
  rw [lg_entry_eq]
  generalize (lg_sl ([.ref a0, .int x1, .int x2, .int x3, .int x4, .int x5, .int x6, .ref ao]) ++ List.replicate (9 - (lg_sl ([.ref a0, .int x1, .int x2, .int x3, .int x4, .int x5, .int x6, .ref ao])).length) Slot.unset).toArray = ls at hl ⊢
  have hl : lv_has ls 9 [(0, .ref a0), (1, .int x1), (2, .int x2), (3, .int x3), (4, .int x4), (5, .int x5), (6, .int x6), (7, .ref ao)] := hl
  have hE : Ext S0 S0 := Ext.rf _
  refine lv_aload hx hb dL_span_0 (lv_at hl 7 rfl) ?_
  refine lv_iconst (v := 0) hx hb dL_span_2 (by decide) ?_
  refine lv_aload_n hx hb dL_span_3 rfl (lv_at hl 0 rfl) ?_
  refine lv_iload_n hx hb dL_span_4 rfl (lv_at hl 1 rfl) ?_
  refine lv_iload_n hx hb dL_span_5 rfl (lv_at hl 2 rfl) ?_
  refine lv_iload_n hx hb dL_span_6 rfl (lv_at hl 3 rfl) ?_
  refine lv_iload hx hb dL_span_7 (lv_at hl 4 rfl) ?_
  refine lv_iload hx hb dL_span_9 (lv_at hl 5 rfl) ?_
  refine lv_iload hx hb dL_span_11 (lv_at hl 6 rfl) ?_
  refine vx_calli (vx_runV (As := [.int x1, .int x2, .int x3, .int x4, .int x5, .int x6]) (rest := [.int 0, .ref ao]) ⟨hx, hb, hml, hown, hU⟩ (cw_X11_span l C (XL C ao f) n S0 hw.wf _ a0 x1 x2 x3 x4 x5 x6 Ta0 mc ms hst _ _ hm) (cwV 6 hU (pq_gV tw1417 tw1418 tw1419 tw1 tc_X11_span) rfl rfl rfl cd_X11_span ⟨Nat.le_of_ble_eq_true rfl, Nat.le_of_ble_eq_true rfl⟩) (pw_preV hw Ta0 (by decide) rfl) rfl rfl hl.1 rfl (lv_room (Nat.le_of_ble_eq_true rfl)) dL_span_13 ⟨by show 0 + mc ≤ mc; omega, by show 0 + ms ≤ ms; omega⟩) hw.S (fun q _ h => pw_free hw q h) (pw_free hw) (fun q _ h => pw_free hw q h) (fun Es ce q9 u t H1 locs1 ht hvm hpx hB hz1 hk1 hS hce hcv hcl => ?_) (fun r u t H1 locs1 ht hvm hq hB hz1 hk1 hS => ?_)
  · obtain ⟨k, S1⟩ := u
    obtain ⟨hEu, hF1, hEx⟩ := hpx
    obtain ⟨hes, hB⟩ := hB
    dsimp only at hEu hF1 hEx hes hB
    have hw := pw_xpost hw ht hvm hF1 hB hS
    obtain ⟨rfl, hK⟩ := hEu
    have hes : Es = "java/lang/IllegalArgumentException" := hes
    subst hes
    refine fx_first (own := RL) (name := "java/lang/IllegalArgumentException") hown _ _ htab (by decide) (by decide) (hU _ tw481) (pq_N.use hw.fx.1.1 _ (List.mem_of_getElem? (i := 188) rfl)) hce hcv hcl ?_
    refine lv_astore (lv' := [(8, .ref q9), (0, .ref a0), (1, .int x1), (2, .int x2), (3, .int x3), (4, .int x4), (5, .int x5), (6, .int x6), (7, .ref ao)]) hx hb dL_span_21 hl (by decide) rfl (fun ls hl => ?_)
    refine lv_iconst (v := 1) hx hb dL_span_23 (by decide) ?_
    exact pw_lret hx hb hr hlk hw hEx hK (by omega) (by omega) dL_span_24
  · obtain ⟨hK, hF1, hEx⟩ := hq
    have hw := pw_xpost hw ht hvm hF1 hB hS
    refine lv_i2l (v := Int32.toInt64 r) hx hb dL_span_16 rfl ?_
    refine pw_last hx hb hw dL_span_17 (fun H locs hw => ?_)
    refine lv_goto (tgt := 25) hx hb dL_span_18 (by decide) ?_
    refine lv_iconst (v := 0) hx hb dL_span_25 (by decide) ?_
    exact pw_lret hx hb hr hlk hw hEx hK (by omega) (by omega) dL_span_26
abbrev rl_L_ahead (mc ms : Nat) : Room := { frames := 9, cells := mc, slots := ms, locals := 157 }
theorem tc_L_ahead : Cond.codeWith yL_ahead cL_ahead 6 (some .int) [(0, 12, 15, 31), (0, 12, 19, 13)] ∈ pq_U := tw1424
theorem cd_L_ahead : yL_ahead.cls ≠ "java/lang/invoke/MethodHandle" ∧ yL_ahead.cls ≠ "java/lang/invoke/VarHandle" ∧ (parseMethodDescriptor yL_ahead.desc).map (fun d => d.parameters.length) = some 5 := by decide +kernel
set_option maxHeartbeats 4000000 in
set_option maxRecDepth 100000 in
theorem cl_L_ahead (l : Launch) (C : pq_C) (ao : Nat) (f : Nat → Int64) (n : Nat) (S0 : pq_S) (hF : WF S0) (sz : Nat) (a0 : Nat) (x1 : Int32) (x2 : Int32) (x3 : Int32) (Ta0 : TY S0 a0 11) (mc ms : Nat) (hst : l.stackTraces = false) (K : Int32 → (Nat → Int64) → pq_S → Prop) (hm : wp_X11_ahead n a0 x1 x2 x3 S0 mc ms (fun (k : Nat) (S1 : pq_S) => (k = 2 ∧ K 1 f S1) ∨ (k = 1 ∧ K 2 f S1)) (fun r (S1 : pq_S) => K 0 (vp_updL f 0 (Int32.toInt64 r)) S1)) : vx_Met l yL_ahead (.codeWith yL_ahead cL_ahead 6 (some .int) [(0, 12, 15, 31), (0, 12, 19, 13)] :: pq_U) (rl_L_ahead mc ms) (va_Pc [.ref a0, .int x1, .int x2, .int x3, .ref ao] (CPre C (XL C ao f) S0 sz)) (QwL C ao f S0 sz K) (XcN (pq_F C (XL C ao f) S0 sz)) mc ms (pq_F C (XL C ao f) S0 sz) := by
  refine vx_ofWH (cc := cL_ahead) (maxL := 6) (ret := (some .int)) (hh := [(0, 12, 15, 31), (0, 12, 19, 13)]) (by decide) rfl ?_
  intro p e s m args below meth c s₁ B hml hv
  obtain ⟨rfl, hv⟩ := hv
  have hsz := hv.1
  subst hsz
  have hw := pw_entry hF hv
  have hts := atoms_spec (ws := .codeWith yL_ahead cL_ahead 6 (some .int) [(0, 12, 15, 31), (0, 12, 19, 13)] :: pq_U) B.pre
  have hU : ∀ w ∈ pq_U, w.before _ s = true := fun w h => hts w (List.mem_cons_of_mem _ h)
  have hx := B.exec
  have hb := B.bytes
  have hr := B.returns
  have htab : c.exceptionTable.toList = tableOf [(0, 12, 15, 31), (0, 12, 19, 13)] := vx_table (x := yL_ahead) B (hts _ List.mem_cons_self)
  have hown : s.vm.findClass RL = some m.cls := findClass_of_methodNamed B.named
  have hlk := B.notSynchronized
  have hl := lv_entry ([.ref a0, .int x1, .int x2, .int x3, .ref ao]) (n := 6) (Nat.le_of_ble_eq_true rfl)
  rw [lg_entry_eq]
  generalize (lg_sl ([.ref a0, .int x1, .int x2, .int x3, .ref ao]) ++ List.replicate (6 - (lg_sl ([.ref a0, .int x1, .int x2, .int x3, .ref ao])).length) Slot.unset).toArray = ls at hl ⊢
  have hl : lv_has ls 6 [(0, .ref a0), (1, .int x1), (2, .int x2), (3, .int x3), (4, .ref ao)] := hl
  have hE : Ext S0 S0 := Ext.rf _
  refine lv_aload hx hb dL_ahead_0 (lv_at hl 4 rfl) ?_
  refine lv_iconst (v := 0) hx hb dL_ahead_2 (by decide) ?_
  refine lv_aload_n hx hb dL_ahead_3 rfl (lv_at hl 0 rfl) ?_
  refine lv_iload_n hx hb dL_ahead_4 rfl (lv_at hl 1 rfl) ?_
  refine lv_iload_n hx hb dL_ahead_5 rfl (lv_at hl 2 rfl) ?_
  refine lv_iload_n hx hb dL_ahead_6 rfl (lv_at hl 3 rfl) ?_
  refine vx_calli (vx_runV (As := [.int x1, .int x2, .int x3]) (rest := [.int 0, .ref ao]) ⟨hx, hb, hml, hown, hU⟩ (cw_X11_ahead l C (XL C ao f) n S0 hw.wf _ a0 x1 x2 x3 Ta0 mc ms hst _ _ hm) (cwV 3 hU (pq_gV tw1425 tw1426 tw1427 tw1 tc_X11_ahead) rfl rfl rfl cd_X11_ahead ⟨Nat.le_of_ble_eq_true rfl, Nat.le_of_ble_eq_true rfl⟩) (pw_preV hw Ta0 (by decide) rfl) rfl rfl hl.1 rfl (lv_room (Nat.le_of_ble_eq_true rfl)) dL_ahead_7 ⟨by show 0 + mc ≤ mc; omega, by show 0 + ms ≤ ms; omega⟩) hw.S (fun q _ h => pw_free hw q h) (pw_free hw) (fun q _ h => pw_free hw q h) (fun Es ce q9 u t H1 locs1 ht hvm hpx hB hz1 hk1 hS hce hcv hcl => ?_) (fun r u t H1 locs1 ht hvm hq hB hz1 hk1 hS => ?_)
  · obtain ⟨k, S1⟩ := u
    obtain ⟨hEu, hF1, hEx⟩ := hpx
    obtain ⟨hes, hB⟩ := hB
    dsimp only at hEu hF1 hEx hes hB
    have hw := pw_xpost hw ht hvm hF1 hB hS
    rcases hEu with hEu | hEu
    · obtain ⟨rfl, hK⟩ := hEu
      have hes : Es = "java/util/NoSuchElementException" := hes
      subst hes
      refine fx_first (own := RL) (name := "java/util/NoSuchElementException") hown _ _ htab (by decide) (by decide) (hU _ tw991) (pq_N.use hw.fx.1.1 _ (List.mem_of_getElem? (i := 189) rfl)) hce hcv hcl ?_
      refine lv_astore (lv' := [(5, .ref q9), (0, .ref a0), (1, .int x1), (2, .int x2), (3, .int x3), (4, .ref ao)]) hx hb dL_ahead_15 hl (by decide) rfl (fun ls hl => ?_)
      refine lv_iconst (v := 1) hx hb dL_ahead_17 (by decide) ?_
      exact pw_lret hx hb hr hlk hw hEx hK (by omega) (by omega) dL_ahead_18
    · obtain ⟨rfl, hK⟩ := hEu
      have hes : Es = "java/lang/IllegalArgumentException" := hes
      subst hes
      refine fx_second (own := RL) (nmy := "java/util/NoSuchElementException") (name := "java/lang/IllegalArgumentException") hown _ _ _ htab (by decide) (by decide) (hU _ tw991) hw.fx.1.2.2.1 (by decide) (by decide) (hU _ tw481) (pq_N.use hw.fx.1.1 _ (List.mem_of_getElem? (i := 188) rfl)) hce hcv hcl ?_
      refine lv_astore (lv' := [(5, .ref q9), (0, .ref a0), (1, .int x1), (2, .int x2), (3, .int x3), (4, .ref ao)]) hx hb dL_ahead_19 hl (by decide) rfl (fun ls hl => ?_)
      refine lv_iconst (v := 2) hx hb dL_ahead_21 (by decide) ?_
      exact pw_lret hx hb hr hlk hw hEx hK (by omega) (by omega) dL_ahead_22
  · obtain ⟨hK, hF1, hEx⟩ := hq
    have hw := pw_xpost hw ht hvm hF1 hB hS
    refine lv_i2l (v := Int32.toInt64 r) hx hb dL_ahead_10 rfl ?_
    refine pw_last hx hb hw dL_ahead_11 (fun H locs hw => ?_)
    refine lv_goto (tgt := 23) hx hb dL_ahead_12 (by decide) ?_
    refine lv_iconst (v := 0) hx hb dL_ahead_23 (by decide) ?_
    exact pw_lret hx hb hr hlk hw hEx hK (by omega) (by omega) dL_ahead_24
abbrev rl_L_chosen (mc ms : Nat) : Room := { frames := 8, cells := mc, slots := ms, locals := 131 }
theorem tc_L_chosen : Cond.codeWith yL_chosen cL_chosen 4 (some .int) [(0, 9, 12, 13)] ∈ pq_U := tw1432
theorem cd_L_chosen : yL_chosen.cls ≠ "java/lang/invoke/MethodHandle" ∧ yL_chosen.cls ≠ "java/lang/invoke/VarHandle" ∧ (parseMethodDescriptor yL_chosen.desc).map (fun d => d.parameters.length) = some 3 := by decide +kernel
set_option maxHeartbeats 4000000 in
set_option maxRecDepth 100000 in
theorem cl_L_chosen (l : Launch) (C : pq_C) (ao : Nat) (f : Nat → Int64) (n : Nat) (S0 : pq_S) (hF : WF S0) (sz : Nat) (a0 : Nat) (x1 : Int32) (Ta0 : TY S0 a0 11) (mc ms : Nat) (hst : l.stackTraces = false) (K : Int32 → (Nat → Int64) → pq_S → Prop) (hm : wp_X11_chosen n a0 x1 S0 mc ms (fun (k : Nat) (S1 : pq_S) => (k = 1 ∧ K 1 f S1)) (fun r (S1 : pq_S) => K 0 (vp_updL f 0 (Int32.toInt64 r)) S1)) : vx_Met l yL_chosen (.codeWith yL_chosen cL_chosen 4 (some .int) [(0, 9, 12, 13)] :: pq_U) (rl_L_chosen mc ms) (va_Pc [.ref a0, .int x1, .ref ao] (CPre C (XL C ao f) S0 sz)) (QwL C ao f S0 sz K) (XcN (pq_F C (XL C ao f) S0 sz)) mc ms (pq_F C (XL C ao f) S0 sz) := by
  refine vx_ofWH (cc := cL_chosen) (maxL := 4) (ret := (some .int)) (hh := [(0, 9, 12, 13)]) (by decide) rfl ?_
  intro p e s m args below meth c s₁ B hml hv
  obtain ⟨rfl, hv⟩ := hv
  have hsz := hv.1
  subst hsz
  have hw := pw_entry hF hv
  have hts := atoms_spec (ws := .codeWith yL_chosen cL_chosen 4 (some .int) [(0, 9, 12, 13)] :: pq_U) B.pre
  have hU : ∀ w ∈ pq_U, w.before _ s = true := fun w h => hts w (List.mem_cons_of_mem _ h)
  have hx := B.exec
  have hb := B.bytes
  have hr := B.returns
  have htab : c.exceptionTable.toList = tableOf [(0, 9, 12, 13)] := vx_table (x := yL_chosen) B (hts _ List.mem_cons_self)
  have hown : s.vm.findClass RL = some m.cls := findClass_of_methodNamed B.named
  have hlk := B.notSynchronized
  have hl := lv_entry ([.ref a0, .int x1, .ref ao]) (n := 4) (Nat.le_of_ble_eq_true rfl)
  rw [lg_entry_eq]
  generalize (lg_sl ([.ref a0, .int x1, .ref ao]) ++ List.replicate (4 - (lg_sl ([.ref a0, .int x1, .ref ao])).length) Slot.unset).toArray = ls at hl ⊢
  have hl : lv_has ls 4 [(0, .ref a0), (1, .int x1), (2, .ref ao)] := hl
  have hE : Ext S0 S0 := Ext.rf _
  refine lv_aload_n hx hb dL_chosen_0 rfl (lv_at hl 2 rfl) ?_
  refine lv_iconst (v := 0) hx hb dL_chosen_1 (by decide) ?_
  refine lv_aload_n hx hb dL_chosen_2 rfl (lv_at hl 0 rfl) ?_
  refine lv_iload_n hx hb dL_chosen_3 rfl (lv_at hl 1 rfl) ?_
  refine vx_calli (vx_runV (As := [.int x1]) (rest := [.int 0, .ref ao]) ⟨hx, hb, hml, hown, hU⟩ (cw_X11_chosen l C (XL C ao f) n S0 hw.wf _ a0 x1 Ta0 mc ms hst _ _ hm) (cwV 1 hU (pq_gV tw1433 tw1434 tw1435 tw1 tc_X11_chosen) rfl rfl rfl cd_X11_chosen ⟨Nat.le_of_ble_eq_true rfl, Nat.le_of_ble_eq_true rfl⟩) (pw_preV hw Ta0 (by decide) rfl) rfl rfl hl.1 rfl (lv_room (Nat.le_of_ble_eq_true rfl)) dL_chosen_4 ⟨by show 0 + mc ≤ mc; omega, by show 0 + ms ≤ ms; omega⟩) hw.S (fun q _ h => pw_free hw q h) (pw_free hw) (fun q _ h => pw_free hw q h) (fun Es ce q9 u t H1 locs1 ht hvm hpx hB hz1 hk1 hS hce hcv hcl => ?_) (fun r u t H1 locs1 ht hvm hq hB hz1 hk1 hS => ?_)
  · obtain ⟨k, S1⟩ := u
    obtain ⟨hEu, hF1, hEx⟩ := hpx
    obtain ⟨hes, hB⟩ := hB
    dsimp only at hEu hF1 hEx hes hB
    have hw := pw_xpost hw ht hvm hF1 hB hS
    obtain ⟨rfl, hK⟩ := hEu
    have hes : Es = "java/lang/IllegalArgumentException" := hes
    subst hes
    refine fx_first (own := RL) (name := "java/lang/IllegalArgumentException") hown _ _ htab (by decide) (by decide) (hU _ tw481) (pq_N.use hw.fx.1.1 _ (List.mem_of_getElem? (i := 188) rfl)) hce hcv hcl ?_
    refine lv_astore_n (lv' := [(3, .ref q9), (0, .ref a0), (1, .int x1), (2, .ref ao)]) hx hb dL_chosen_12 rfl hl (by decide) rfl (fun ls hl => ?_)
    refine lv_iconst (v := 1) hx hb dL_chosen_13 (by decide) ?_
    exact pw_lret hx hb hr hlk hw hEx hK (by omega) (by omega) dL_chosen_14
  · obtain ⟨hK, hF1, hEx⟩ := hq
    have hw := pw_xpost hw ht hvm hF1 hB hS
    refine lv_i2l (v := Int32.toInt64 r) hx hb dL_chosen_7 rfl ?_
    refine pw_last hx hb hw dL_chosen_8 (fun H locs hw => ?_)
    refine lv_goto (tgt := 15) hx hb dL_chosen_9 (by decide) ?_
    refine lv_iconst (v := 0) hx hb dL_chosen_15 (by decide) ?_
    exact pw_lret hx hb hr hlk hw hEx hK (by omega) (by omega) dL_chosen_16
