def ushr_ (x y : Int32) : Int32 := (x.toUInt32 >>> (y.toUInt32 &&& Int32.toUInt32 31)).toInt32
/-- the method's own frame: what its walk may use -/
def Cx (p : Program) (s : State) (m : MethodId) (args : Array Value) (meth : Method) (c : Code) (cc : ByteArray) (nL : Nat) (own : String) (ret : Option FieldType) : Prop := p.tables.exec = Jvm.exec ∧ c.code = cc ∧ c.maxLocals = nL ∧ s.vm.findClass own = some m.cls ∧ (∀ w ∈ pq_U, w.before args s = true) ∧ meth.sig.returnType = ret ∧ meth.locks = false
def cb {α β γ : Type} (o : Option (α × β)) (k : α → β → Option γ) : Option γ := match o with
  | none => none
  | some q => k q.1 q.2
theorem cb_some {α β γ : Type} {o : Option (α × β)} {k : α → β → Option γ} {r : γ} (h : cb o k = some r) : ∃ a b, o = some (a, b) ∧ k a b = some r := by
  cases o with
  | none => cases h
  | some q => exact ⟨q.1, q.2, rfl, h⟩
theorem lt_some {α β : Type} {x : α} {k : α → β} {r : β} (h : lt_ x k = r) : ∃ y, y = x ∧ k y = r := ⟨x, rfl, h⟩
abbrev QcZ (C : pq_C) (X : va_W) (S : pq_S) (sz : Nat) (r : Int32) (S1 : pq_S) : Array Value → State → Outcome → State → Prop := va_Qi (fun (r0 : Int32) (_ : Unit) => r0 = r ∧ bz r ∧ WF S1 ∧ Ext S S1) (fun _ t => CPost C X S1 (pq_F C X S sz) t) (pq_F C X S sz)
abbrev MZ (l : Launch) (y : MethodName) (ws : List Cond) (rm : Room) (C : pq_C) (X : va_W) (S : pq_S) (sz : Nat) (av : List Value) (r : Int32) (S1 : pq_S) (mc ms : Nat) : Prop := Met l y ws rm (va_Pc av (CPre C X S sz)) (QcZ C X S sz r S1) mc ms (pq_F C X S sz)
theorem bz_0 : bz 0 := Or.inl rfl
theorem bz_1 : bz 1 := Or.inr rfl
/-- a row may be copied -/
def cpk (sp dp n : Int32) (n0 n1 : Nat) : Prop := ¬ sp < 0 ∧ ¬ dp < 0 ∧ ¬ n < 0 ∧ sp.toNatClampNeg + n.toNatClampNeg ≤ n0 ∧ dp.toNatClampNeg + n.toNatClampNeg ≤ n1
def dcpk (sp dp n : Int32) (n0 n1 : Nat) : Decidable (cpk sp dp n n0 n1) := inferInstanceAs (Decidable (¬ sp < 0 ∧ ¬ dp < 0 ∧ ¬ n < 0 ∧ sp.toNatClampNeg + n.toNatClampNeg ≤ n0 ∧ dp.toNatClampNeg + n.toNatClampNeg ≤ n1))
/-- a place of a text -/
def ixt (i : Int32) (t : Nat) : Prop := ix i (pq_len.getD t 0) ∧ i < Int32.ofNat (pq_len.getD t 0)
def dixt (i : Int32) (t : Nat) : Decidable (ixt i t) := inferInstanceAs (Decidable ((0 ≤ i ∧ i.toNatClampNeg < pq_len.getD t 0) ∧ i < Int32.ofNat (pq_len.getD t 0)))
section PWA
variable {p : Program} {l : Launch} {e : Env} {R : Room} {s : State} {m : MethodId} {args : Array Value} {below : List Frame} {meth : Method} {c : Code} {H : Heap} {locs : List Loc} {cells slots : Nat} {Q : State → Prop}
variable {cc : ByteArray} {pc : Nat} {ls : Array Slot} {rest st0 : List Value} {C : pq_C} {X : va_W} {S S1 : pq_S} {A : Nat → Prop} {a mc ms : Nat} {av : Array Value}
theorem lv_nmI {x y : Int32} (h : y = x) (k : W p l e R s m args below meth c H locs cells slots Q (F0 m pc ls (.int y :: rest))) : W p l e R s m args below meth c H locs cells slots Q (F0 m pc ls (.int x :: rest)) := h ▸ k
theorem lv_nmJ {x y : Int64} (h : y = x) (k : W p l e R s m args below meth c H locs cells slots Q (F0 m pc ls (.long y :: rest))) : W p l e R s m args below meth c H locs cells slots Q (F0 m pc ls (.long x :: rest)) := h ▸ k
theorem lv_tsIn {x v : Int32} (h : x = v) (k : W p l e R s m args below meth c H locs cells slots Q (F0 m pc ls (.int v :: rest))) : W p l e R s m args below meth c H locs cells slots Q (F0 m pc ls (.int x :: rest)) := h ▸ k
theorem ts_out {x : Int32} {lo hi : Int} (h : ∀ j : Int, lo ≤ j → j ≤ hi → ¬ x = Int32.ofInt j) : x.toInt < lo ∨ hi < x.toInt := by
  by_cases h1 : lo ≤ x.toInt
  · by_cases h2 : x.toInt ≤ hi
    · exact absurd (Int32.ofInt_toInt x).symm (h x.toInt h1 h2)
    · exact Or.inr (by omega)
  · exact Or.inl (by omega)
theorem pw_cz {r : Int32} (hr : va_Run p l e R s m args below meth c H locs cells slots mc ms (F0 m pc ls st0) rest (QcZ C X S H.size r S1 av) (pq_F C X S H.size)) (hw : PW C X S A H locs s)
    (kk : ∀ (H1 : Heap) (locs1 : List Loc), PW C X S1 A H1 locs1 s → Ext S S1 → bz r → W p l e R s m args below meth c H1 locs1 (cells + mc) (slots + ms) Q (F0 m (pc + 3) ls (.int r :: rest))) : W p l e R s m args below meth c H locs cells slots Q (F0 m pc ls st0) := by
  refine va_calli hr hw.S (fun q _ h => pw_free hw q h) (pw_free hw) (fun r1 u t H1 locs1 ht hvm hq hB hz1 hk1 hS => ?_)
  obtain ⟨rfl, hz, hF, hE⟩ := hq
  obtain ⟨hP1, hK1, hD1⟩ := hB
  rw [ht] at hP1
  exact kk H1 locs1 ⟨va_K.moved hvm.symm hK1, hP1, hD1.weaken (fun _ q _ h => pw_free hw q.1 h), hS, hw.A, hw.2.2.2.2.2.1, hF⟩ hE hz
theorem pw_zret {v : Int32} {S0 : pq_S} (hexec : p.tables.exec = Jvm.exec) (hb : c.code = cc) (hr : meth.sig.returnType = some .boolean) (hz : bz v) (hlocks : meth.locks = false) (hw : PW C X S (pq_F C X S0 s.heap.size) H locs s) (hE : Ext S0 S) (hdg : decode cc pc = .ok (.ireturn, 1)) :
    W p l e R s m args below meth c H locs cells slots (MQ below (QcZ C X S0 s.heap.size v S) args s cells slots (pq_F C X S0 s.heap.size)) (F0 m pc ls [.int v]) :=
  W.zret hexec hb hr (bz_n hz) (fun t ht hW => ⟨⟨v, (), rfl, ⟨rfl, hz, hw.wf, hE⟩, by rw [ht]; exact hw.P, va_K.moved hW.alike hw.K, hw.D⟩, hw.S.F ht⟩) hw.S.2.2 hdg hlocks
theorem pg_rb {own ref Cn : String} {Tt : u_T} {N index k j f b : Nat} {Ts : List Cond} (hx : p.tables.exec = Jvm.exec) (hb : c.code = cc) (hown : s.vm.findClass own = some m.cls) (hts : ∀ w ∈ Ts, w.before args s = true) (hin : ∀ w ∈ u_ws Cn Tt N, w ∈ Ts) (hw : PW C X S A H locs s) (hT : TY S a k) (hf : k < 13 ∧ j < N ∧ pq_nf k = N ∧ pq_ref k j = true ∧ 100 * k + j = f) (hc : vwCl[k]? = some (Cn, Tt, N)) (hlink : (Cond.fieldLink own index ref (Tt j).2.1 (Tt j).2.2.1).before args s = true) (href : (Tt j).1 = ref) (hq : pR S f a = some b) (hdg : decode cc pc = .ok (.getfield index, 3))
    (kk : W p l e R s m args below meth c H locs cells slots Q (F0 m (pc + 3) ls (.ref b :: rest))) : W p l e R s m args below meth c H locs cells slots Q (F0 m pc ls (.ref a :: rest)) :=
  pg_r hx hb hown hts hin hw hT hf hc hlink href hdg (by rw [hq]; exact kk)
theorem pgN_rb {own ref Cn : String} {Tt : u_T} {N index k j f b : Nat} {Ts : List Cond} (hx : p.tables.exec = Jvm.exec) (hb : c.code = cc) (hown : s.vm.findClass own = some m.cls) (hts : ∀ w ∈ Ts, w.before args s = true) (hin : ∀ w ∈ u_ws Cn Tt N, w ∈ Ts) (hw : PW C X S A H locs s) (hT : TY S a k) (hf : k < 13 ∧ j < N ∧ pq_nf k = N ∧ pq_ref k j = true ∧ 100 * k + j = f) (hc : vwCl[k]? = some (Cn, Tt, N)) (i : Nat) (hi : pq_nw[i]? = some (.fieldLinkNest own index ref (Tt j).2.1 (Tt j).2.2.1 "WickNights")) (href : (Tt j).1 = ref) (hq : pR S f a = some b) (hdg : decode cc pc = .ok (.getfield index, 3))
    (kk : W p l e R s m args below meth c H locs cells slots Q (F0 m (pc + 3) ls (.ref b :: rest))) : W p l e R s m args below meth c H locs cells slots Q (F0 m pc ls (.ref a :: rest)) :=
  pgN_r hx hb hown hts hin hw hT hf hc i hi href hdg (by rw [hq]; exact kk)
theorem pw_bast {i x : Int32} (hx : p.tables.exec = Jvm.exec) (hb : c.code = cc) (hw : PW C X S A H locs s) (hT : TY S a 13) (hi : ix i (pN S a)) (hdg : decode cc pc = .ok (.bastore, 1))
    (kk : ∀ (H1 : Heap) (locs1 : List Loc), PW C X (sA S a i.toNatClampNeg (vp_nar .byte x)) A H1 locs1 s → W p l e R s m args below meth c H1 locs1 cells slots Q (F0 m (pc + 1) ls rest)) : W p l e R s m args below meth c H locs cells slots Q (F0 m pc ls (.int x :: .int i :: .ref a :: rest)) := by
  obtain ⟨q0, h0⟩ := pq_getB (cB := C.2.1) (cI := C.2.2.1) (cP := C.2.2.2.1) (cS := C.2.2.2.2.1) X hT
  refine va_bast hx hb hw.K hw.P hw.D hw.S q0 0 h0 rfl hi.vp hdg (fun H1 locs1 hP1 hD1 hS1 => ?_)
  rw [pq_putFB hw.D hT h0, sA_F] at hP1 hD1
  exact kk H1 locs1 ⟨hw.K, hP1, hD1, hS1, hw.A, hw.2.2.2.2.2.1, hw.wf.sA _ _ _⟩
theorem pw_aaldP {i : Int32} (hx : p.tables.exec = Jvm.exec) (hb : c.code = cc) (hw : PW C X S A H locs s) (hT : TY S a 15) (hi : ix i (pN S a)) (hdg : decode cc pc = .ok (.aaload, 1))
    (kk : W p l e R s m args below meth c H locs cells slots Q (F0 m (pc + 1) ls (va_rf (pQ S a i.toNatClampNeg) :: rest))) : W p l e R s m args below meth c H locs cells slots Q (F0 m pc ls (.int i :: .ref a :: rest)) := by
  obtain ⟨q0, h0⟩ := pq_getP (cB := C.2.1) (cI := C.2.2.1) (cP := C.2.2.2.1) (cS := C.2.2.2.2.1) X hT
  exact va_aldq hx hb hw.K hw.P q0 2 h0 rfl hi.vp hdg kk
theorem pw_aaldS {i : Int32} (hx : p.tables.exec = Jvm.exec) (hb : c.code = cc) (hw : PW C X S A H locs s) (hT : TY S a 16) (hi : ix i (pN S a)) (hdg : decode cc pc = .ok (.aaload, 1))
    (kk : W p l e R s m args below meth c H locs cells slots Q (F0 m (pc + 1) ls (va_rf (pQ S a i.toNatClampNeg) :: rest))) : W p l e R s m args below meth c H locs cells slots Q (F0 m pc ls (.int i :: .ref a :: rest)) := by
  obtain ⟨q0, h0⟩ := pq_getS (cB := C.2.1) (cI := C.2.2.1) (cP := C.2.2.2.1) (cS := C.2.2.2.2.1) X hT
  exact va_aldq hx hb hw.K hw.P q0 3 h0 rfl hi.vp hdg kk
theorem pw_aaldPb {i : Int32} {b : Nat} (hx : p.tables.exec = Jvm.exec) (hb : c.code = cc) (hw : PW C X S A H locs s) (hT : TY S a 15) (hi : ix i (pN S a)) (hq : pQ S a i.toNatClampNeg = some b) (hdg : decode cc pc = .ok (.aaload, 1))
    (kk : W p l e R s m args below meth c H locs cells slots Q (F0 m (pc + 1) ls (.ref b :: rest))) : W p l e R s m args below meth c H locs cells slots Q (F0 m pc ls (.int i :: .ref a :: rest)) := pw_aaldP hx hb hw hT hi hdg (by rw [hq]; exact kk)
theorem pw_aaldSb {i : Int32} {b : Nat} (hx : p.tables.exec = Jvm.exec) (hb : c.code = cc) (hw : PW C X S A H locs s) (hT : TY S a 16) (hi : ix i (pN S a)) (hq : pQ S a i.toNatClampNeg = some b) (hdg : decode cc pc = .ok (.aaload, 1))
    (kk : W p l e R s m args below meth c H locs cells slots Q (F0 m (pc + 1) ls (.ref b :: rest))) : W p l e R s m args below meth c H locs cells slots Q (F0 m pc ls (.int i :: .ref a :: rest)) := pw_aaldS hx hb hw hT hi hdg (by rw [hq]; exact kk)
theorem pw_alenP {v : Int32} (hx : p.tables.exec = Jvm.exec) (hb : c.code = cc) (hw : PW C X S A H locs s) (hT : TY S a 15) (hv : Int32.ofNat (pN S a) = v) (hdg : decode cc pc = .ok (.arraylength, 1))
    (kk : W p l e R s m args below meth c H locs cells slots Q (F0 m (pc + 1) ls (.int v :: rest))) : W p l e R s m args below meth c H locs cells slots Q (F0 m pc ls (.ref a :: rest)) := by
  obtain ⟨q0, h0⟩ := pq_getP (cB := C.2.1) (cI := C.2.2.1) (cP := C.2.2.2.1) (cS := C.2.2.2.2.1) X hT
  exact va_alen hx hb hw.K hw.P q0 2 h0 (ty := .object "WickNights$Past") rfl hv hdg kk
theorem pw_alenS {v : Int32} (hx : p.tables.exec = Jvm.exec) (hb : c.code = cc) (hw : PW C X S A H locs s) (hT : TY S a 16) (hv : Int32.ofNat (pN S a) = v) (hdg : decode cc pc = .ok (.arraylength, 1))
    (kk : W p l e R s m args below meth c H locs cells slots Q (F0 m (pc + 1) ls (.int v :: rest))) : W p l e R s m args below meth c H locs cells slots Q (F0 m pc ls (.ref a :: rest)) := by
  obtain ⟨q0, h0⟩ := pq_getS (cB := C.2.1) (cI := C.2.2.1) (cP := C.2.2.2.1) (cS := C.2.2.2.2.1) X hT
  exact va_alen hx hb hw.K hw.P q0 3 h0 (ty := .object "WickNights$State") rfl hv hdg kk
theorem pw_copy {own : String} {index a0 : Nat} {sp dp n : Int32} (hx : p.tables.exec = Jvm.exec) (hb : c.code = cc) (hml : c.maxLocals = ls.size) (hown : s.vm.findClass own = some m.cls) (hlink : (Cond.methodLink own index arraycopyName).before args s = true) (hnat : (Cond.native arraycopyName).before args s = true) (hstat : (Cond.static arraycopyName).before args s = true) (hini : (Cond.initialized "java/lang/System").before args s = true) (hw : PW C X S A H locs s) (hT0 : TY S a0 14) (hT : TY S a 14) (hc : cpk sp dp n (pN S a0) (pN S a)) (hframes : 1 ≤ R.frames) (hlocals : (rest.map fun v => v.category).sum + (nativeFrameWords "java/lang/System" "arraycopy" 5 + 11) ≤ R.locals) (hdg : decode cc pc = .ok (.invokestatic index, 3))
    (kk : ∀ (H1 : Heap) (locs1 : List Loc), PW C X (sF S a (va_cpy (pA S a0) (pA S a) sp.toNatClampNeg dp.toNatClampNeg n.toNatClampNeg)) A H1 locs1 s → W p l e R s m args below meth c H1 locs1 cells slots Q (F0 m (pc + 3) ls rest)) : W p l e R s m args below meth c H locs cells slots Q (F0 m pc ls (.int n :: .int dp :: .ref a :: .int sp :: .ref a0 :: rest)) := by
  obtain ⟨q0, h0⟩ := pq_getI (cB := C.2.1) (cI := C.2.2.1) (cP := C.2.2.2.1) (cS := C.2.2.2.2.1) X hT0
  obtain ⟨q1, h1⟩ := pq_getI (cB := C.2.1) (cI := C.2.2.1) (cP := C.2.2.2.1) (cS := C.2.2.2.2.1) X hT
  refine va_copyi (ty := .int) hx hb hml hown hlink hnat hstat hini hw.K hw.P hw.D hw.S q0 q1 1 1 h0 h1 rfl rfl rfl hc.1 hc.2.1 hc.2.2.1 hc.2.2.2.1 hc.2.2.2.2 (fun _ _ => rfl) hframes hlocals hdg (fun H1 locs1 hP1 hD1 hS1 => ?_)
  rw [pq_putF hw.D hT h1] at hP1 hD1
  exact kk H1 locs1 ⟨hw.K, hP1, hD1, hS1, hw.A, hw.2.2.2.2.2.1, hw.wf.sF _ _⟩
end PWA
theorem va_ldcwS {p : Program} {l : Launch} {e : Env} {R : Room} {s : State} {m : MethodId} {args : Array Value} {below : List Frame} {meth : Method} {c : Code} {H : Heap} {locs : List Loc} {cells slots : Nat} {Q : State → Prop} {cc : ByteArray} {pc : Nat} {ls : Array Slot} {rest : List Value} (hexec : p.tables.exec = Jvm.exec) (hb : c.code = cc) {own tx : String} {index q : Nat} (hown : s.vm.findClass own = some m.cls) (hZ : vk_R own index tx q s) (hdg : decode cc pc = .ok (.ldc_w index, 3))
    (k : W p l e R s m args below meth c H locs cells slots Q (F0 m (pc + 3) ls (.ref q :: rest))) : W p l e R s m args below meth c H locs cells slots Q (F0 m pc ls rest) := by
  intro T hT X
  obtain ⟨t, a1, b1⟩ := k T hT X
  exact ⟨t, Stand.ldcStringW X hexec hown (text := tx) (a := q) hZ.1 hZ.2 (g := F0 m pc ls rest) rfl (by rw [hb]; exact hdg) t a1, b1⟩
theorem PW.str {C : pq_C} {X : va_W} {S : pq_S} {A : Nat → Prop} {H : Heap} {locs : List Loc} {s : State} (h : PW C X S A H locs s) (i : Nat) {o t : String} {k j : Nat} (hi : pq_sr[i]? = some (o, k, t, j)) : vk_R o k t (C.2.2.2.2.2.2.1 j) s := h.2.2.2.2.2.1.1.2.1 (o, k, t, j) (List.mem_of_getElem? hi)

theorem twm_i : Cond.initialized "java/lang/Math" ∈ pq_U := pq_U1 19 (by decide +kernel) (by decide +kernel)
theorem twm_min_s : Cond.static Lib.Math.min.name ∈ pq_U := pq_U2 204 (by decide +kernel) (by decide +kernel)
theorem twm_min_c : Cond.code Lib.Math.min.name Lib.Math.min.code 2 (some .int) ∈ pq_U := pq_U2 205 (by decide +kernel) (by decide +kernel)
theorem twm_max_s : Cond.static Lib.Math.max.name ∈ pq_U := pq_U4 123 (by decide +kernel) (by decide +kernel)
theorem twm_max_c : Cond.code Lib.Math.max.name Lib.Math.max.code 2 (some .int) ∈ pq_U := pq_U4 124 (by decide +kernel) (by decide +kernel)
theorem twm_abs_s : Cond.static Lib.Math.abs.name ∈ pq_U := pq_U4 151 (by decide +kernel) (by decide +kernel)
theorem twm_abs_c : Cond.code Lib.Math.abs.name Lib.Math.abs.code 1 (some .int) ∈ pq_U := pq_U4 152 (by decide +kernel) (by decide +kernel)
theorem twm_maxl_s : Cond.static Lib.MathLoose.max_long.x ∈ pq_U := pq_U5 218 (by decide +kernel) (by decide +kernel)
theorem twm_maxl_c : Cond.code Lib.MathLoose.max_long.x Lib.MathLoose.max_long.code 4 (some .long) ∈ pq_U := pq_U5 219 (by decide +kernel) (by decide +kernel)
theorem tw_obji : Cond.instanceMethod Lib.objectInit ∈ pq_U := pq_U1 32 (by decide +kernel) (by decide +kernel)
theorem tw_objc : Cond.code Lib.objectInit ⟨#[0xb1]⟩ 1 none ∈ pq_U := pq_U1 33 (by decide +kernel) (by decide +kernel)
theorem pq_nwT : ∀ w ∈ pq_nw, w.onTables = true := by decide +kernel
theorem pq_N.use {args : Array Value} {s : State} (h : pq_N s) : ∀ w ∈ pq_nw, w.before args s = true := fun w hw => va_Nw.use (pq_nwT w hw) (h w hw)
