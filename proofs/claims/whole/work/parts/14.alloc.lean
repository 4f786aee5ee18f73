def pq_fs0 (k : Nat) : List Value := (List.range (pq_nf k)).map (fun j => if pq_ref k j = true then Value.null else .int 0)
theorem nO_e {cB cI cP cS : ClassId} {S : pq_S} {q k : Nat} (hk : k < 13) (b : Nat) : va_up (pq_e cB cI cP cS S) q (.inr (k, pq_fs0 k)) b = pq_e cB cI cP cS (nO S q k) b := by
  by_cases hb : b = q
  · subst hb
    have h1 : pK (nO S b k) b = k := by show (if b = b then k else _) = k; rw [if_pos rfl]
    have h2 : pq_fs (nO S b k) k b = pq_fs0 k := by
      unfold pq_fs pq_fs0
      refine List.map_congr_left fun j _ => ?_
      unfold pq_v
      have e1 : pR (nO S b k) (100 * k + j) b = none := by show (if b = b then none else _) = none; rw [if_pos rfl]
      have e2 : pI (nO S b k) (100 * k + j) b = 0 := by show (if b = b then (0 : Int32) else _) = 0; rw [if_pos rfl]
      rw [e1, e2]
      rfl
    unfold pq_e
    rw [h1, if_neg (by omega), if_neg (by omega), if_neg (by omega), if_neg (by omega), h2]
    simp [va_up]
  · have h1 : pK (nO S q k) b = pK S b := by show (if b = q then k else _) = _; rw [if_neg hb]
    have h2 : ∀ k1, pq_fs (nO S q k) k1 b = pq_fs S k1 b := by
      intro k1
      unfold pq_fs
      refine List.map_congr_left fun j _ => ?_
      unfold pq_v
      have e1 : pR (nO S q k) (100 * k1 + j) b = pR S (100 * k1 + j) b := by show (if b = q then none else _) = _; rw [if_neg hb]
      have e2 : pI (nO S q k) (100 * k1 + j) b = pI S (100 * k1 + j) b := by show (if b = q then (0 : Int32) else _) = _; rw [if_neg hb]
      rw [e1, e2]
    unfold pq_e
    rw [h1, h2]
    show (if b = q then _ else pq_e cB cI cP cS S b) = _
    rw [if_neg hb]
    rfl
theorem nA_e {cB cI cP cS : ClassId} {S : pq_S} {q n : Nat} (b : Nat) : va_up (pq_e cB cI cP cS S) q (.inl (cI, n, .inl (fun _ => 0))) b = pq_e cB cI cP cS (nA S q 14 n) b := by
  by_cases hb : b = q
  · subst hb
    have h1 : pK (nA S b 14 n) b = 14 := by show (if b = b then 14 else _) = 14; rw [if_pos rfl]
    have h2 : pN (nA S b 14 n) b = n := by show (if b = b then n else _) = n; rw [if_pos rfl]
    have h3 : pA (nA S b 14 n) b = fun _ => 0 := by funext i; show (if b = b then (0 : Int32) else _) = 0; rw [if_pos rfl]
    unfold pq_e
    rw [h1, if_neg (by omega), if_pos rfl, h2, h3]
    simp [va_up]
  · have h1 : pK (nA S q 14 n) b = pK S b := by show (if b = q then 14 else _) = _; rw [if_neg hb]
    have h2 : pN (nA S q 14 n) b = pN S b := by show (if b = q then n else _) = _; rw [if_neg hb]
    have h3 : pA (nA S q 14 n) b = pA S b := by funext i; show (if b = q then (0 : Int32) else _) = _; rw [if_neg hb]
    have h4 : pQ (nA S q 14 n) b = pQ S b := by funext i; show (if b = q then none else _) = _; rw [if_neg hb]
    have h5 : ∀ k1, pq_fs (nA S q 14 n) k1 b = pq_fs S k1 b := fun k1 => rfl
    unfold pq_e
    rw [h1, h2, h3, h4, h5]
    show (if b = q then _ else pq_e cB cI cP cS S b) = _
    rw [if_neg hb]
    rfl
theorem nB_e {cB cI cP cS : ClassId} {S : pq_S} {q n : Nat} (b : Nat) : va_up (pq_e cB cI cP cS S) q (.inl (cB, n, .inl (fun _ => 0))) b = pq_e cB cI cP cS (nA S q 13 n) b := by
  by_cases hb : b = q
  · subst hb
    have h1 : pK (nA S b 13 n) b = 13 := by show (if b = b then 13 else _) = 13; rw [if_pos rfl]
    have h2 : pN (nA S b 13 n) b = n := by show (if b = b then n else _) = n; rw [if_pos rfl]
    have h3 : pA (nA S b 13 n) b = fun _ => 0 := by funext i; show (if b = b then (0 : Int32) else _) = 0; rw [if_pos rfl]
    unfold pq_e
    rw [h1, if_pos rfl, h2, h3]
    simp [va_up]
  · have h1 : pK (nA S q 13 n) b = pK S b := by show (if b = q then 13 else _) = _; rw [if_neg hb]
    have h2 : pN (nA S q 13 n) b = pN S b := by show (if b = q then n else _) = _; rw [if_neg hb]
    have h3 : pA (nA S q 13 n) b = pA S b := by funext i; show (if b = q then (0 : Int32) else _) = _; rw [if_neg hb]
    have h4 : pQ (nA S q 13 n) b = pQ S b := by funext i; show (if b = q then none else _) = _; rw [if_neg hb]
    have h5 : ∀ k1, pq_fs (nA S q 13 n) k1 b = pq_fs S k1 b := fun k1 => rfl
    unfold pq_e
    rw [h1, h2, h3, h4, h5]
    show (if b = q then _ else pq_e cB cI cP cS S b) = _
    rw [if_neg hb]
    rfl
theorem nP_e {cB cI cP cS : ClassId} {S : pq_S} {q n : Nat} (b : Nat) : va_up (pq_e cB cI cP cS S) q (.inl (cP, n, .inr (.inr (.inr (.inr (fun _ => none)))))) b = pq_e cB cI cP cS (nA S q 15 n) b := by
  by_cases hb : b = q
  · subst hb
    have h1 : pK (nA S b 15 n) b = 15 := by show (if b = b then 15 else _) = 15; rw [if_pos rfl]
    have h2 : pN (nA S b 15 n) b = n := by show (if b = b then n else _) = n; rw [if_pos rfl]
    have h3 : pQ (nA S b 15 n) b = fun _ => none := by funext i; show (if b = b then none else _) = none; rw [if_pos rfl]
    unfold pq_e
    rw [h1, if_neg (by omega), if_neg (by omega), if_pos rfl, h2, h3]
    simp [va_up]
  · have h1 : pK (nA S q 15 n) b = pK S b := by show (if b = q then 15 else _) = _; rw [if_neg hb]
    have h2 : pN (nA S q 15 n) b = pN S b := by show (if b = q then n else _) = _; rw [if_neg hb]
    have h3 : pA (nA S q 15 n) b = pA S b := by funext i; show (if b = q then (0 : Int32) else _) = _; rw [if_neg hb]
    have h4 : pQ (nA S q 15 n) b = pQ S b := by funext i; show (if b = q then none else _) = _; rw [if_neg hb]
    have h5 : ∀ k1, pq_fs (nA S q 15 n) k1 b = pq_fs S k1 b := fun k1 => rfl
    unfold pq_e
    rw [h1, h2, h3, h4, h5]
    show (if b = q then _ else pq_e cB cI cP cS S b) = _
    rw [if_neg hb]
    rfl
theorem nS_e {cB cI cP cS : ClassId} {S : pq_S} {q n : Nat} (b : Nat) : va_up (pq_e cB cI cP cS S) q (.inl (cS, n, .inr (.inr (.inr (.inr (fun _ => none)))))) b = pq_e cB cI cP cS (nA S q 16 n) b := by
  by_cases hb : b = q
  · subst hb
    have h1 : pK (nA S b 16 n) b = 16 := by show (if b = b then 16 else _) = 16; rw [if_pos rfl]
    have h2 : pN (nA S b 16 n) b = n := by show (if b = b then n else _) = n; rw [if_pos rfl]
    have h3 : pQ (nA S b 16 n) b = fun _ => none := by funext i; show (if b = b then none else _) = none; rw [if_pos rfl]
    unfold pq_e
    rw [h1, if_neg (by omega), if_neg (by omega), if_neg (by omega), if_pos rfl, h2, h3]
    simp [va_up]
  · have h1 : pK (nA S q 16 n) b = pK S b := by show (if b = q then 16 else _) = _; rw [if_neg hb]
    have h2 : pN (nA S q 16 n) b = pN S b := by show (if b = q then n else _) = _; rw [if_neg hb]
    have h3 : pA (nA S q 16 n) b = pA S b := by funext i; show (if b = q then (0 : Int32) else _) = _; rw [if_neg hb]
    have h4 : pQ (nA S q 16 n) b = pQ S b := by funext i; show (if b = q then none else _) = _; rw [if_neg hb]
    have h5 : ∀ k1, pq_fs (nA S q 16 n) k1 b = pq_fs S k1 b := fun k1 => rfl
    unfold pq_e
    rw [h1, h2, h3, h4, h5]
    show (if b = q then _ else pq_e cB cI cP cS S b) = _
    rw [if_neg hb]
    rfl
theorem ext_nO {S : pq_S} {q k : Nat} (hq : q ∉ pL S) : Ext S (nO S q k) := fun a k1 h => ⟨List.mem_append_left _ h.1, by
  show (if a = q then k else pK S a) = k1
  rw [if_neg (fun e => hq (by rw [← e]; exact h.1))]
  exact h.2⟩
theorem ext_nA {S : pq_S} {q k n : Nat} (hq : q ∉ pL S) : Ext S (nA S q k n) := fun a k1 h => ⟨List.mem_append_left _ h.1, by
  show (if a = q then k else pK S a) = k1
  rw [if_neg (fun e => hq (by rw [← e]; exact h.1))]
  exact h.2⟩
theorem ty_nO (S : pq_S) (q k : Nat) : TY (nO S q k) q k := ⟨List.mem_append_right _ List.mem_cons_self, by show (if q = q then k else _) = k; rw [if_pos rfl]⟩
theorem ty_nA (S : pq_S) (q k n : Nat) : TY (nA S q k n) q k := ⟨List.mem_append_right _ List.mem_cons_self, by show (if q = q then k else _) = k; rw [if_pos rfl]⟩
theorem ty_ofO {S : pq_S} {q k a k1 : Nat} (hq : q ∉ pL S) (h : TY (nO S q k) a k1) : (a = q ∧ k1 = k) ∨ (a ≠ q ∧ TY S a k1) := by
  by_cases e : a = q
  · subst e
    exact Or.inl ⟨rfl, by have := h.2; rw [(ty_nO S a k).2] at this; exact this.symm⟩
  · refine Or.inr ⟨e, ?_, ?_⟩
    · rcases List.mem_append.mp h.1 with h1 | h1
      · exact h1
      · exact absurd (List.mem_singleton.mp h1) e
    · have h2 : (if a = q then k else pK S a) = k1 := h.2
      rw [if_neg e] at h2
      exact h2
theorem ty_ofA {S : pq_S} {q k n a k1 : Nat} (hq : q ∉ pL S) (h : TY (nA S q k n) a k1) : (a = q ∧ k1 = k) ∨ (a ≠ q ∧ TY S a k1) := by
  by_cases e : a = q
  · subst e
    exact Or.inl ⟨rfl, by have := h.2; rw [(ty_nA S a k n).2] at this; exact this.symm⟩
  · refine Or.inr ⟨e, ?_, ?_⟩
    · rcases List.mem_append.mp h.1 with h1 | h1
      · exact h1
      · exact absurd (List.mem_singleton.mp h1) e
    · have h2 : (if a = q then k else pK S a) = k1 := h.2
      rw [if_neg e] at h2
      exact h2
theorem wf_nO {S : pq_S} (h : WF S) {q k : Nat} (hk : k < 13) (hq : q ∉ pL S) : WF (nO S q k) := by
  refine ⟨fun a k1 j b h1 h2 h3 h4 => ?_, fun a i b h1 h2 => ?_, fun a i b h1 h2 => ?_⟩
  · rcases ty_ofO hq h1 with ⟨rfl, -⟩ | ⟨e, h1⟩
    · have : (if a = a then none else pR S (100 * k1 + j) a) = some b := h4
      rw [if_pos rfl] at this
      cases this
    · have : (if a = q then none else pR S (100 * k1 + j) a) = some b := h4
      rw [if_neg e] at this
      exact ext_nO hq _ _ (h.1 a k1 j b h1 h2 h3 this)
  · rcases ty_ofO hq h1 with ⟨rfl, e⟩ | ⟨e, h1⟩
    · omega
    · exact ext_nO hq _ _ (h.2.1 a i b h1 h2)
  · rcases ty_ofO hq h1 with ⟨rfl, e⟩ | ⟨e, h1⟩
    · omega
    · exact ext_nO hq _ _ (h.2.2 a i b h1 h2)
theorem wf_nA {S : pq_S} (h : WF S) {q k n : Nat} (hk : 13 ≤ k) (hq : q ∉ pL S) : WF (nA S q k n) := by
  refine ⟨fun a k1 j b h1 h2 h3 h4 => ?_, fun a i b h1 h2 => ?_, fun a i b h1 h2 => ?_⟩
  · rcases ty_ofA hq h1 with ⟨rfl, e⟩ | ⟨e, h1⟩
    · omega
    · exact ext_nA hq _ _ (h.1 a k1 j b h1 h2 h3 h4)
  · have h2 : (if a = q then none else pQ S a i) = some b := h2
    rcases ty_ofA hq h1 with ⟨rfl, e⟩ | ⟨e, h1⟩
    · rw [if_pos rfl] at h2; cases h2
    · rw [if_neg e] at h2; exact ext_nA hq _ _ (h.2.1 a i b h1 h2)
  · have h2 : (if a = q then none else pQ S a i) = some b := h2
    rcases ty_ofA hq h1 with ⟨rfl, e⟩ | ⟨e, h1⟩
    · rw [if_pos rfl] at h2; cases h2
    · rw [if_neg e] at h2; exact ext_nA hq _ _ (h.2.2 a i b h1 h2)
theorem pq_push {cB cI cP cS : ClassId} {X : va_W} {S T : pq_S} {q : Nat} {e : va_E} (hq : q ∉ pL S) (hL : pL T = pL S ++ [q]) (h : ∀ b, va_up (pq_e cB cI cP cS S) q e b = pq_e cB cI cP cS T b) : pq_W cB cI cP cS X S ++ [(q, e)] = pq_W cB cI cP cS X T := by
  unfold pq_W
  rw [List.append_assoc, va_pl_push hq, hL]
  exact congrArg (fun l => X ++ l) (va_pl_congr h)
def exn (k : Nat) : String := if k = 1 then "java/lang/IllegalArgumentException" else "java/util/NoSuchElementException"
abbrev XcP (C : pq_C) (X : va_W) (S : pq_S) (sz : Nat) (E : Nat → pq_S → Prop) : String → State → State → Prop := vx_X (fun u : Nat × pq_S => E u.1 u.2 ∧ WF u.2 ∧ Ext S u.2) (fun Es u t => Es = exn u.1 ∧ CPost C X u.2 (pq_F C X S sz) t) (pq_F C X S sz)
abbrev QwI (C : pq_C) (X : va_W) (S : pq_S) (sz : Nat) (K : Int32 → pq_S → Prop) : Array Value → State → Outcome → State → Prop := va_Qi (fun (r0 : Int32) (u : pq_S) => K r0 u ∧ WF u ∧ Ext S u) (fun u t => CPost C X u (pq_F C X S sz) t) (pq_F C X S sz)
abbrev QwZ (C : pq_C) (X : va_W) (S : pq_S) (sz : Nat) (K : Int32 → pq_S → Prop) : Array Value → State → Outcome → State → Prop := va_Qi (fun (r0 : Int32) (u : pq_S) => K r0 u ∧ bz r0 ∧ WF u ∧ Ext S u) (fun u t => CPost C X u (pq_F C X S sz) t) (pq_F C X S sz)
abbrev QwJ (C : pq_C) (X : va_W) (S : pq_S) (sz : Nat) (K : Int64 → pq_S → Prop) : Array Value → State → Outcome → State → Prop := va_Ql (fun (r0 : Int64) (u : pq_S) => K r0 u ∧ WF u ∧ Ext S u) (fun u t => CPost C X u (pq_F C X S sz) t) (pq_F C X S sz)
abbrev QwV (C : pq_C) (X : va_W) (S : pq_S) (sz : Nat) (K : pq_S → Prop) : Array Value → State → Outcome → State → Prop := va_Qv (fun (u : pq_S) => K u ∧ WF u ∧ Ext S u) (fun u t => CPost C X u (pq_F C X S sz) t) (pq_F C X S sz)
section PWN
variable {p : Program} {l : Launch} {e : Env} {R : Room} {s : State} {m : MethodId} {args : Array Value} {below : List Frame} {meth : Method} {c : Code} {H : Heap} {locs : List Loc} {cells slots : Nat} {Q : State → Prop}
variable {cc : ByteArray} {pc : Nat} {ls : Array Slot} {rest st0 : List Value} {C : pq_C} {X : va_W} {S S1 S0 : pq_S} {A : Nat → Prop} {a mc ms : Nat} {av : Array Value}
theorem pn_new {own Cn : String} {Tt : u_T} {ty0 : Nat → FieldType} {N index k : Nat} {Ts : List Cond} (hx : p.tables.exec = Jvm.exec) (hb : c.code = cc) (hown : s.vm.findClass own = some m.cls) (hts : ∀ w ∈ Ts, w.before args s = true) (hin : ∀ w ∈ u_ws Cn Tt N, w ∈ Ts) (hty : ∀ k, k < N → parseFieldDescriptor (Tt k).2.2.1 = some (ty0 k)) (hcl : (Cond.classLink own index Cn).before args s = true) (hinst : (Cond.instantiable Cn N).before args s = true) (hini : (Cond.initialized Cn).before args s = true) (hw : PW C X S A H locs s) (hk : k < 13) (hc : vwCl[k]? = some (Cn, Tt, N)) (hd : ∀ j, j < N → defaultValue (ty0 j) = vp_V (pq_fs0 k) j) (hcells : cells + 1 ≤ R.cells) (hslots : slots + N ≤ R.slots) (hdg : decode cc pc = .ok (.new index, 3))
    (kk : ∀ (q : Nat) (H1 : Heap), q ∉ pL S → PW C X (nO S q k) A H1 locs s → W p l e R s m args below meth c H1 locs (cells + 1) (slots + N) Q (F0 m (pc + 3) ls (.ref q :: rest))) : W p l e R s m args below meth c H locs cells slots Q (F0 m pc ls rest) := by
  refine va_new (D := C.1) (ci := k) (fs := pq_fs0 k) hx hb hts hin ty0 hty hown hcl hinst hini hw.K hw.P hw.D hw.S hw.A hc hd hcells hslots hdg (fun q H1 hP1 hD1 hS1 => ?_)
  have hq : q ∉ pL S := va_pl_fresh2 hD1
  rw [pq_push hq (T := nO S q k) rfl (nO_e hk)] at hP1 hD1
  exact kk q H1 hq ⟨hw.K, hP1, hD1, hS1, hw.A, hw.fx, wf_nO hw.wf hk hq⟩
theorem pn_newI {n : Int32} {N : Nat} (hx : p.tables.exec = Jvm.exec) (hb : c.code = cc) (harr : (Cond.arrayClass .int).before args s = true) (hw : PW C X S A H locs s) (hn : ¬ n < 0) (hN : n.toNatClampNeg = N) (hbytes : N ≤ 100000) (hcells : cells + 1 ≤ R.cells) (hslots : slots + N ≤ R.slots) (hdg : decode cc pc = .ok (.newarray .int, 2))
    (kk : ∀ (q : Nat) (H1 : Heap), q ∉ pL S → PW C X (nA S q 14 N) A H1 locs s → W p l e R s m args below meth c H1 locs (cells + 1) (slots + N) Q (F0 m (pc + 2) ls (.ref q :: rest))) : W p l e R s m args below meth c H locs cells slots Q (F0 m pc ls (.int n :: rest)) := by
  refine va_newa (atype := .int) (ty := .int) (a0 := (N, .inl (fun _ => 0))) hx hb harr rfl hw.K hw.P hw.D hw.S hw.A (fun _ => rfl) hn hN (by show N * 4 ≤ _; omega) hcells hslots hdg (fun q cA H1 hK1 hP1 hD1 hS1 => ?_)
  have hq : q ∉ pL S := va_pl_fresh2 hD1
  have e1 : s.vm.findClass ("[" ++ FieldType.int.toString) = some cA := (hK1.2 5 (cA, .int) rfl).2
  have e2 : s.vm.findClass ("[" ++ FieldType.int.toString) = some C.2.2.1 := (hw.K.2 1 (C.2.2.1, .int) rfl).2
  have e3 : cA = C.2.2.1 := Option.some.inj (e1.symm.trans e2)
  subst e3
  rw [pq_push hq (T := nA S q 14 N) rfl nA_e] at hP1 hD1
  exact kk q H1 hq ⟨hw.K, hP1, hD1, hS1, hw.A, hw.fx, wf_nA hw.wf (by decide) hq⟩
theorem pn_newB {n : Int32} {N : Nat} (hx : p.tables.exec = Jvm.exec) (hb : c.code = cc) (harr : (Cond.arrayClass .byte).before args s = true) (hw : PW C X S A H locs s) (hn : ¬ n < 0) (hN : n.toNatClampNeg = N) (hbytes : N ≤ 100000) (hcells : cells + 1 ≤ R.cells) (hslots : slots + N ≤ R.slots) (hdg : decode cc pc = .ok (.newarray .byte, 2))
    (kk : ∀ (q : Nat) (H1 : Heap), q ∉ pL S → PW C X (nA S q 13 N) A H1 locs s → W p l e R s m args below meth c H1 locs (cells + 1) (slots + N) Q (F0 m (pc + 2) ls (.ref q :: rest))) : W p l e R s m args below meth c H locs cells slots Q (F0 m pc ls (.int n :: rest)) := by
  refine va_newa (atype := .byte) (ty := .byte) (a0 := (N, .inl (fun _ => 0))) hx hb harr rfl hw.K hw.P hw.D hw.S hw.A (fun _ => rfl) hn hN (by show N * 1 ≤ _; omega) hcells hslots hdg (fun q cA H1 hK1 hP1 hD1 hS1 => ?_)
  have hq : q ∉ pL S := va_pl_fresh2 hD1
  have e1 : s.vm.findClass ("[" ++ FieldType.byte.toString) = some cA := (hK1.2 5 (cA, .byte) rfl).2
  have e2 : s.vm.findClass ("[" ++ FieldType.byte.toString) = some C.2.1 := (hw.K.2 0 (C.2.1, .byte) rfl).2
  have e3 : cA = C.2.1 := Option.some.inj (e1.symm.trans e2)
  subst e3
  rw [pq_push hq (T := nA S q 13 N) rfl nB_e] at hP1 hD1
  exact kk q H1 hq ⟨hw.K, hP1, hD1, hS1, hw.A, hw.fx, wf_nA hw.wf (by decide) hq⟩
theorem pn_newP {own : String} {index N : Nat} {n : Int32} (hx : p.tables.exec = Jvm.exec) (hb : c.code = cc) (hown : s.vm.findClass own = some m.cls) (hcl : (Cond.classLink own index "WickNights$Past").before args s = true) (hw : PW C X S A H locs s) (hn : ¬ n < 0) (hN : n.toNatClampNeg = N) (hbytes : N ≤ 100000) (hcells : cells + 1 ≤ R.cells) (hslots : slots + N ≤ R.slots) (hdg : decode cc pc = .ok (.anewarray index, 3))
    (kk : ∀ (q : Nat) (H1 : Heap), q ∉ pL S → PW C X (nA S q 15 N) A H1 locs s → W p l e R s m args below meth c H1 locs (cells + 1) (slots + N) Q (F0 m (pc + 3) ls (.ref q :: rest))) : W p l e R s m args below meth c H locs cells slots Q (F0 m pc ls (.int n :: rest)) := by
  refine va_newq (C := "WickNights$Past") hx hb hown hcl hw.fx.1.2.2.2.1 hw.K hw.P hw.D hw.S hw.A hn hN (by omega) hcells hslots hdg (fun q cA H1 hK1 hP1 hD1 hS1 => ?_)
  have hq : q ∉ pL S := va_pl_fresh2 hD1
  obtain ⟨k1, p1, -, -, -, e1⟩ := (hK1.2 5 (cA, .object "WickNights$Past") rfl).2
  obtain ⟨k2, p2, -, -, -, e2⟩ := (hw.K.2 2 (C.2.2.2.1, .object "WickNights$Past") rfl).2
  have e3 : cA = C.2.2.2.1 := Option.some.inj (e1.symm.trans e2)
  subst e3
  rw [pq_push hq (T := nA S q 15 N) rfl nP_e] at hP1 hD1
  exact kk q H1 hq ⟨hw.K, hP1, hD1, hS1, hw.A, hw.fx, wf_nA hw.wf (by decide) hq⟩
theorem pn_newS {own : String} {index N : Nat} {n : Int32} (hx : p.tables.exec = Jvm.exec) (hb : c.code = cc) (hown : s.vm.findClass own = some m.cls) (hcl : (Cond.classLink own index "WickNights$State").before args s = true) (hw : PW C X S A H locs s) (hn : ¬ n < 0) (hN : n.toNatClampNeg = N) (hbytes : N ≤ 100000) (hcells : cells + 1 ≤ R.cells) (hslots : slots + N ≤ R.slots) (hdg : decode cc pc = .ok (.anewarray index, 3))
    (kk : ∀ (q : Nat) (H1 : Heap), q ∉ pL S → PW C X (nA S q 16 N) A H1 locs s → W p l e R s m args below meth c H1 locs (cells + 1) (slots + N) Q (F0 m (pc + 3) ls (.ref q :: rest))) : W p l e R s m args below meth c H locs cells slots Q (F0 m pc ls (.int n :: rest)) := by
  refine va_newq (C := "WickNights$State") hx hb hown hcl hw.fx.1.2.2.2.2 hw.K hw.P hw.D hw.S hw.A hn hN (by omega) hcells hslots hdg (fun q cA H1 hK1 hP1 hD1 hS1 => ?_)
  have hq : q ∉ pL S := va_pl_fresh2 hD1
  obtain ⟨k1, p1, -, -, -, e1⟩ := (hK1.2 5 (cA, .object "WickNights$State") rfl).2
  obtain ⟨k2, p2, -, -, -, e2⟩ := (hw.K.2 3 (C.2.2.2.2.1, .object "WickNights$State") rfl).2
  have e3 : cA = C.2.2.2.2.1 := Option.some.inj (e1.symm.trans e2)
  subst e3
  rw [pq_push hq (T := nA S q 16 N) rfl nS_e] at hP1 hD1
  exact kk q H1 hq ⟨hw.K, hP1, hD1, hS1, hw.A, hw.fx, wf_nA hw.wf (by decide) hq⟩
theorem ppF_i {own ref Cn : String} {Tt : u_T} {ty0 : Nat → FieldType} {N index k j f : Nat} {Ts : List Cond} {v : Int32} (hx : p.tables.exec = Jvm.exec) (hb : c.code = cc) (hown : s.vm.findClass own = some m.cls) (hts : ∀ w ∈ Ts, w.before args s = true) (hin : ∀ w ∈ u_ws Cn Tt N, w ∈ Ts) (hty : ∀ k, k < N → parseFieldDescriptor (Tt k).2.2.1 = some (ty0 k)) (hnm : ∀ a, a < N → ∀ b, b < N → a ≠ b → (Tt a).2.1 ≠ (Tt b).2.1) (hw : PW C X S A H locs s) (hT : TY S a k) (hf : k < 13 ∧ j < N ∧ pq_nf k = N ∧ pq_ref k j = false ∧ 100 * k + j = f) (hc : vwCl[k]? = some (Cn, Tt, N)) (hlink : (Cond.fieldLink own index ref (Tt j).2.1 (Tt j).2.2.1).before args s = true) (href : (Tt j).1 = ref) (hfin : (Tt j).2.2.2 = true) (hin2 : meth.name = "<init>") (hdecl : (Tt j).1 = own) (hti : ty0 j = .int) (hdg : decode cc pc = .ok (.putfield index, 3))
    (kk : ∀ (H1 : Heap) (locs1 : List Loc), PW C X (sI S f a v) A H1 locs1 s → W p l e R s m args below meth c H1 locs1 cells slots Q (F0 m (pc + 3) ls rest)) : W p l e R s m args below meth c H locs cells slots Q (F0 m pc ls (.int v :: .ref a :: rest)) := by
  obtain ⟨h1, h2, h3, h4, rfl⟩ := hf
  subst href
  obtain ⟨q0, h0⟩ := pq_get (cB := C.2.1) (cI := C.2.2.1) (cP := C.2.2.2.1) (cS := C.2.2.2.2.1) X hT h1
  refine va_putF (D := C.1) (ci := k) (ty := .int) hx hb hts hin ty0 hty hnm hown hw.K hw.P hw.D hw.S q0 h0 hc j h2 hlink (fun _ h9 => h9) hfin hin2 hdecl (by rw [hty j h2, hti]) rfl rfl (by rw [pq_fsLen]; omega) hdg (fun H1 locs1 hP1 hD1 hS1 => ?_)
  rw [pq_putI hw.D hT h1 (by omega) h4 h0] at hP1 hD1
  exact kk H1 locs1 ⟨hw.K, hP1, hD1, hS1, hw.A, hw.fx, hw.wf.sI _ _ _⟩
theorem ppF_r {own ref Cn : String} {Tt : u_T} {ty0 : Nat → FieldType} {ty : FieldType} {N index k j f b : Nat} {Ts : List Cond} (hx : p.tables.exec = Jvm.exec) (hb : c.code = cc) (hown : s.vm.findClass own = some m.cls) (hts : ∀ w ∈ Ts, w.before args s = true) (hin : ∀ w ∈ u_ws Cn Tt N, w ∈ Ts) (hty : ∀ k, k < N → parseFieldDescriptor (Tt k).2.2.1 = some (ty0 k)) (hnm : ∀ a, a < N → ∀ b, b < N → a ≠ b → (Tt a).2.1 ≠ (Tt b).2.1) (hw : PW C X S A H locs s) (hT : TY S a k) (hTb : TY S b (pq_ty k j)) (hf : k < 13 ∧ j < N ∧ pq_nf k = N ∧ pq_ref k j = true ∧ 100 * k + j = f) (hc : vwCl[k]? = some (Cn, Tt, N)) (hlink : (Cond.fieldLink own index ref (Tt j).2.1 (Tt j).2.2.1).before args s = true) (href : (Tt j).1 = ref) (hfin : (Tt j).2.2.2 = true) (hin2 : meth.name = "<init>") (hdecl : (Tt j).1 = own) (hti : ty0 j = ty) (hnr : narrow ty (.ref b) = .ref b) (hft : fits ty (.ref b) = true) (hdg : decode cc pc = .ok (.putfield index, 3))
    (kk : ∀ (H1 : Heap) (locs1 : List Loc), PW C X (sR S f a (some b)) A H1 locs1 s → W p l e R s m args below meth c H1 locs1 cells slots Q (F0 m (pc + 3) ls rest)) : W p l e R s m args below meth c H locs cells slots Q (F0 m pc ls (.ref b :: .ref a :: rest)) := by
  obtain ⟨h1, h2, h3, h4, rfl⟩ := hf
  subst href
  obtain ⟨q0, h0⟩ := pq_get (cB := C.2.1) (cI := C.2.2.1) (cP := C.2.2.2.1) (cS := C.2.2.2.2.1) X hT h1
  refine va_putF (D := C.1) (ci := k) (ty := ty) hx hb hts hin ty0 hty hnm hown hw.K hw.P hw.D hw.S q0 h0 hc j h2 hlink (fun _ h9 => h9) hfin hin2 hdecl (by rw [hty j h2, hti]) hnr hft (by rw [pq_fsLen]; omega) hdg (fun H1 locs1 hP1 hD1 hS1 => ?_)
  have e := pq_putR (v := some b) hw.D hT h1 (by omega) h4 h0
  rw [show va_rf (some b) = Value.ref b from rfl] at e
  rw [e] at hP1 hD1
  exact kk H1 locs1 ⟨hw.K, hP1, hD1, hS1, hw.A, hw.fx, hw.wf.sR hT h1 (by omega) pq_nf100 hTb⟩
theorem pp_r {own ref Cn : String} {Tt : u_T} {ty0 : Nat → FieldType} {ty : FieldType} {N index k j f b : Nat} {Ts : List Cond} (hx : p.tables.exec = Jvm.exec) (hb : c.code = cc) (hown : s.vm.findClass own = some m.cls) (hts : ∀ w ∈ Ts, w.before args s = true) (hin : ∀ w ∈ u_ws Cn Tt N, w ∈ Ts) (hty : ∀ k, k < N → parseFieldDescriptor (Tt k).2.2.1 = some (ty0 k)) (hnm : ∀ a, a < N → ∀ b, b < N → a ≠ b → (Tt a).2.1 ≠ (Tt b).2.1) (hw : PW C X S A H locs s) (hT : TY S a k) (hTb : TY S b (pq_ty k j)) (hf : k < 13 ∧ j < N ∧ pq_nf k = N ∧ pq_ref k j = true ∧ 100 * k + j = f) (hc : vwCl[k]? = some (Cn, Tt, N)) (hlink : (Cond.fieldLink own index ref (Tt j).2.1 (Tt j).2.2.1).before args s = true) (href : (Tt j).1 = ref) (hfin : (Tt j).2.2.2 = false) (hti : ty0 j = ty) (hnr : narrow ty (.ref b) = .ref b) (hft : fits ty (.ref b) = true) (hdg : decode cc pc = .ok (.putfield index, 3))
    (kk : ∀ (H1 : Heap) (locs1 : List Loc), PW C X (sR S f a (some b)) A H1 locs1 s → W p l e R s m args below meth c H1 locs1 cells slots Q (F0 m (pc + 3) ls rest)) : W p l e R s m args below meth c H locs cells slots Q (F0 m pc ls (.ref b :: .ref a :: rest)) := by
  obtain ⟨h1, h2, h3, h4, rfl⟩ := hf
  subst href
  obtain ⟨q0, h0⟩ := pq_get (cB := C.2.1) (cI := C.2.2.1) (cP := C.2.2.2.1) (cS := C.2.2.2.2.1) X hT h1
  refine va_put (D := C.1) (ci := k) (ty := ty) hx hb hts hin ty0 hty hnm hown hw.K hw.P hw.D hw.S q0 h0 hc j h2 hlink (fun _ h9 => h9) hfin (by rw [hty j h2, hti]) hnr hft (by rw [pq_fsLen]; omega) hdg (fun H1 locs1 hP1 hD1 hS1 => ?_)
  have e := pq_putR (v := some b) hw.D hT h1 (by omega) h4 h0
  rw [show va_rf (some b) = Value.ref b from rfl] at e
  rw [e] at hP1 hD1
  exact kk H1 locs1 ⟨hw.K, hP1, hD1, hS1, hw.A, hw.fx, hw.wf.sR hT h1 (by omega) pq_nf100 hTb⟩
theorem pq_eQ {cB cI cP cS : ClassId} {S : pq_S} {a i b1 b : Nat} {k : Nat} (hT : TY S a k) (hk : k = 15 ∨ k = 16) (hb : b ≠ a) : pq_e cB cI cP cS (sQ S a i (some b1)) b = pq_e cB cI cP cS S b := by
  have h4 : pQ (sQ S a i (some b1)) b = pQ S b := by funext j; show (if b = a ∧ j = i then some b1 else _) = _; rw [if_neg (fun h => hb h.1)]
  show (if pK S b = 13 then Sum.inl (cB, pN S b, Sum.inl (pA S b)) else if pK S b = 14 then Sum.inl (cI, pN S b, Sum.inl (pA S b)) else if pK S b = 15 then Sum.inl (cP, pN S b, Sum.inr (Sum.inr (Sum.inr (Sum.inr (pQ (sQ S a i (some b1)) b))))) else if pK S b = 16 then Sum.inl (cS, pN S b, Sum.inr (Sum.inr (Sum.inr (Sum.inr (pQ (sQ S a i (some b1)) b))))) else Sum.inr (pK S b, pq_fs S (pK S b) b)) = _
  rw [h4]
  rfl
theorem sQ_up (S : pq_S) (a i b : Nat) : va_up (pQ S a) i (some b) = pQ (sQ S a i (some b)) a := by
  funext j
  show (if j = i then some b else pQ S a j) = (if a = a ∧ j = i then some b else pQ S a j)
  simp
theorem pw_aastS {i : Int32} {b : Nat} (hx : p.tables.exec = Jvm.exec) (hb : c.code = cc) (hw : PW C X S A H locs s) (hT : TY S a 16) (hTb : TY S b 8) (hi : ix i (pN S a)) (hdg : decode cc pc = .ok (.aastore, 1))
    (kk : ∀ (H1 : Heap) (locs1 : List Loc), PW C X (sQ S a i.toNatClampNeg (some b)) A H1 locs1 s → W p l e R s m args below meth c H1 locs1 cells slots Q (F0 m (pc + 1) ls rest)) : W p l e R s m args below meth c H locs cells slots Q (F0 m pc ls (.ref b :: .int i :: .ref a :: rest)) := by
  obtain ⟨q0, h0⟩ := pq_getS (cB := C.2.1) (cI := C.2.2.1) (cP := C.2.2.2.1) (cS := C.2.2.2.2.1) X hT
  obtain ⟨q1, h1⟩ := pq_get (cB := C.2.1) (cI := C.2.2.1) (cP := C.2.2.2.1) (cS := C.2.2.2.2.1) X hTb (by decide)
  refine va_astq (r := (RX8, TX8, 5)) hx hb hw.K hw.P hw.D hw.S q0 3 q1 8 h0 rfl h1 rfl hi.vp hdg (fun H1 locs1 hP1 hD1 hS1 => ?_)
  have e := pq_setW (T := sQ S a i.toNatClampNeg (some b)) (e := Sum.inl (C.2.2.2.2.1, pN S a, Sum.inr (Sum.inr (Sum.inr (Sum.inr (va_up (pQ S a) i.toNatClampNeg (some b))))))) hw.D hT.1 (by rw [h0]; simp [pq_e, hT.2]) rfl (fun b1 => by
    by_cases hb1 : b1 = a
    · subst hb1
      have h2 : pK (sQ S b1 i.toNatClampNeg (some b)) b1 = 16 := hT.2
      unfold pq_e
      rw [h2, if_neg (by omega), if_neg (by omega), if_neg (by omega), if_pos rfl, ← sQ_up]
      simp [va_up]
      rfl
    · rw [pq_eQ hT (Or.inr rfl) hb1]
      show (if b1 = a then _ else pq_e _ _ _ _ S b1) = _
      rw [if_neg hb1])
  rw [e] at hP1 hD1
  exact kk H1 locs1 ⟨hw.K, hP1, hD1, hS1, hw.A, hw.fx, hw.wf.sQ hT (Or.inr ⟨rfl, hTb⟩)⟩
theorem pw_aastP {i : Int32} {b : Nat} (hx : p.tables.exec = Jvm.exec) (hb : c.code = cc) (hw : PW C X S A H locs s) (hT : TY S a 15) (hTb : TY S b 5) (hi : ix i (pN S a)) (hdg : decode cc pc = .ok (.aastore, 1))
    (kk : ∀ (H1 : Heap) (locs1 : List Loc), PW C X (sQ S a i.toNatClampNeg (some b)) A H1 locs1 s → W p l e R s m args below meth c H1 locs1 cells slots Q (F0 m (pc + 1) ls rest)) : W p l e R s m args below meth c H locs cells slots Q (F0 m pc ls (.ref b :: .int i :: .ref a :: rest)) := by
  obtain ⟨q0, h0⟩ := pq_getP (cB := C.2.1) (cI := C.2.2.1) (cP := C.2.2.2.1) (cS := C.2.2.2.2.1) X hT
  obtain ⟨q1, h1⟩ := pq_get (cB := C.2.1) (cI := C.2.2.1) (cP := C.2.2.2.1) (cS := C.2.2.2.2.1) X hTb (by decide)
  refine va_astq (r := (RX5, TX5, 2)) hx hb hw.K hw.P hw.D hw.S q0 2 q1 5 h0 rfl h1 rfl hi.vp hdg (fun H1 locs1 hP1 hD1 hS1 => ?_)
  have e := pq_setW (T := sQ S a i.toNatClampNeg (some b)) (e := Sum.inl (C.2.2.2.1, pN S a, Sum.inr (Sum.inr (Sum.inr (Sum.inr (va_up (pQ S a) i.toNatClampNeg (some b))))))) hw.D hT.1 (by rw [h0]; simp [pq_e, hT.2]) rfl (fun b1 => by
    by_cases hb1 : b1 = a
    · subst hb1
      have h2 : pK (sQ S b1 i.toNatClampNeg (some b)) b1 = 15 := hT.2
      unfold pq_e
      rw [h2, if_neg (by omega), if_neg (by omega), if_pos rfl, ← sQ_up]
      simp [va_up]
      rfl
    · rw [pq_eQ hT (Or.inl rfl) hb1]
      show (if b1 = a then _ else pq_e _ _ _ _ S b1) = _
      rw [if_neg hb1])
  rw [e] at hP1 hD1
  exact kk H1 locs1 ⟨hw.K, hP1, hD1, hS1, hw.A, hw.fx, hw.wf.sQ hT (Or.inl ⟨rfl, hTb⟩)⟩
theorem pw_obj {own : String} {idx a : Nat} (hx : p.tables.exec = Jvm.exec) (hb : c.code = cc) (hml : c.maxLocals = ls.size) (hown : s.vm.findClass own = some m.cls) (hlink : (Cond.methodLink own idx Lib.objectInit).before args s = true) (hinst : (Cond.instanceMethod Lib.objectInit).before args s = true) (hcode : (Cond.code Lib.objectInit ⟨#[0xb1]⟩ 1 none).before args s = true) (hd : decode cc pc = .ok (.invokespecial idx, 3)) (hframes : 1 ≤ R.frames) (hlocals : 20 ≤ R.locals)
    (kk : W p l e R s m args below meth c H locs cells slots Q (F0 m (pc + 3) ls [])) : W p l e R s m args below meth c H locs cells slots Q (F0 m pc ls [.ref a]) := by
  refine W.objInit hx hb hown hlink hinst hcode rfl (by rw [hml]) rfl hd hframes ?_ ?_
  · have := lv_room (m := m) (pc := pc) (ls := ls) (rest := [.ref a]) (st := []) (by decide)
    omega
  · exact W.eq rfl kk
-- ends and calls of methods that make things, or throw
theorem pw_wv {K : pq_S → Prop} (hr : va_Run p l e R s m args below meth c H locs cells slots mc ms (F0 m pc ls st0) rest (QwV C X S H.size K av) (pq_F C X S H.size)) (hw : PW C X S A H locs s)
    (kk : ∀ (S1 : pq_S) (H1 : Heap) (locs1 : List Loc), K S1 → PW C X S1 A H1 locs1 s → Ext S S1 → W p l e R s m args below meth c H1 locs1 (cells + mc) (slots + ms) Q (F0 m (pc + 3) ls rest)) : W p l e R s m args below meth c H locs cells slots Q (F0 m pc ls st0) := by
  refine va_callv hr hw.S (fun q _ h => pw_free hw q h) (pw_free hw) (fun u t H1 locs1 ht hvm hq hB hz1 hk1 hS => ?_)
  obtain ⟨hK0, hF, hE⟩ := hq
  obtain ⟨hP1, hK1, hD1⟩ := hB
  rw [ht] at hP1
  exact kk u H1 locs1 hK0 ⟨va_K.moved hvm.symm hK1, hP1, hD1.weaken (fun _ q _ h => pw_free hw q.1 h), hS, hw.A, hw.fx, hF⟩ hE
theorem pw_wi {K : Int32 → pq_S → Prop} (hr : va_Run p l e R s m args below meth c H locs cells slots mc ms (F0 m pc ls st0) rest (QwI C X S H.size K av) (pq_F C X S H.size)) (hw : PW C X S A H locs s)
    (kk : ∀ (r : Int32) (S1 : pq_S) (H1 : Heap) (locs1 : List Loc), K r S1 → PW C X S1 A H1 locs1 s → Ext S S1 → W p l e R s m args below meth c H1 locs1 (cells + mc) (slots + ms) Q (F0 m (pc + 3) ls (.int r :: rest))) : W p l e R s m args below meth c H locs cells slots Q (F0 m pc ls st0) := by
  refine va_calli hr hw.S (fun q _ h => pw_free hw q h) (pw_free hw) (fun r u t H1 locs1 ht hvm hq hB hz1 hk1 hS => ?_)
  obtain ⟨hK0, hF, hE⟩ := hq
  obtain ⟨hP1, hK1, hD1⟩ := hB
  rw [ht] at hP1
  exact kk r u H1 locs1 hK0 ⟨va_K.moved hvm.symm hK1, hP1, hD1.weaken (fun _ q _ h => pw_free hw q.1 h), hS, hw.A, hw.fx, hF⟩ hE
theorem pw_wvret {K : pq_S → Prop} (hexec : p.tables.exec = Jvm.exec) (hb : c.code = cc) (hr : meth.sig.returnType = none) (hlocks : meth.locks = false) (hw : PW C X S (pq_F C X S0 s.heap.size) H locs s) (hE : Ext S0 S) (hk : K S) (h1 : cells ≤ mc) (h2 : slots ≤ ms) (hdg : decode cc pc = .ok (.return_, 1)) :
    W p l e R s m args below meth c H locs cells slots (MQ below (QwV C X S0 s.heap.size K) args s mc ms (pq_F C X S0 s.heap.size)) (F0 m pc ls []) := by
  refine W.widen h1 h2 ?_
  exact W.vret hexec hb hr (fun t ht hW => ⟨⟨S, rfl, ⟨hk, hw.wf, hE⟩, by rw [ht]; exact hw.P, va_K.moved hW.alike hw.K, hw.D⟩, hw.S.F ht⟩) hw.S.2.2 hdg hlocks
theorem pw_wiret {K : Int32 → pq_S → Prop} {v : Int32} {ty : FieldType} (hexec : p.tables.exec = Jvm.exec) (hb : c.code = cc) (hr : meth.sig.returnType = some ty) (hn : narrow ty (.int v) = .int v) (hlocks : meth.locks = false) (hw : PW C X S (pq_F C X S0 s.heap.size) H locs s) (hE : Ext S0 S) (hk : K v S) (h1 : cells ≤ mc) (h2 : slots ≤ ms) (hdg : decode cc pc = .ok (.ireturn, 1)) :
    W p l e R s m args below meth c H locs cells slots (MQ below (QwI C X S0 s.heap.size K) args s mc ms (pq_F C X S0 s.heap.size)) (F0 m pc ls [.int v]) := by
  refine W.widen h1 h2 ?_
  exact W.zret hexec hb hr hn (fun t ht hW => ⟨⟨v, S, rfl, ⟨hk, hw.wf, hE⟩, by rw [ht]; exact hw.P, va_K.moved hW.alike hw.K, hw.D⟩, hw.S.F ht⟩) hw.S.2.2 hdg hlocks
theorem pw_wzret {K : Int32 → pq_S → Prop} {v : Int32} (hexec : p.tables.exec = Jvm.exec) (hb : c.code = cc) (hr : meth.sig.returnType = some .boolean) (hz : bz v) (hlocks : meth.locks = false) (hw : PW C X S (pq_F C X S0 s.heap.size) H locs s) (hE : Ext S0 S) (hk : K v S) (h1 : cells ≤ mc) (h2 : slots ≤ ms) (hdg : decode cc pc = .ok (.ireturn, 1)) :
    W p l e R s m args below meth c H locs cells slots (MQ below (QwZ C X S0 s.heap.size K) args s mc ms (pq_F C X S0 s.heap.size)) (F0 m pc ls [.int v]) := by
  refine W.widen h1 h2 ?_
  exact W.zret hexec hb hr (bz_n hz) (fun t ht hW => ⟨⟨v, S, rfl, ⟨hk, hz, hw.wf, hE⟩, by rw [ht]; exact hw.P, va_K.moved hW.alike hw.K, hw.D⟩, hw.S.F ht⟩) hw.S.2.2 hdg hlocks
theorem pw_wjret {K : Int64 → pq_S → Prop} {v : Int64} (hexec : p.tables.exec = Jvm.exec) (hb : c.code = cc) (hr : meth.sig.returnType = some .long) (hlocks : meth.locks = false) (hw : PW C X S (pq_F C X S0 s.heap.size) H locs s) (hE : Ext S0 S) (hk : K v S) (h1 : cells ≤ mc) (h2 : slots ≤ ms) (hdg : decode cc pc = .ok (.lreturn, 1)) :
    W p l e R s m args below meth c H locs cells slots (MQ below (QwJ C X S0 s.heap.size K) args s mc ms (pq_F C X S0 s.heap.size)) (F0 m pc ls [.long v]) := by
  refine W.widen h1 h2 ?_
  exact W.lret hexec hb hr (fun t ht hW => ⟨⟨v, S, rfl, ⟨hk, hw.wf, hE⟩, by rw [ht]; exact hw.P, va_K.moved hW.alike hw.K, hw.D⟩, hw.S.F ht⟩) hw.S.2.2 hdg hlocks
/-- a callee that may throw: what it throws goes on -/
theorem px_out {Qc : Array Value → State → Outcome → State → Prop} {E : Nat → pq_S → Prop} {Es : String} {ce : Cell} {q9 : Addr} {u : Nat × pq_S} {t : State} {H1 : Heap} {locs1 : List Loc} (hno : ∀ x ∈ c.exceptionTable.toList, False) (hlk : meth.locks = false) (hw : PW C X S (pq_F C X S0 s.heap.size) H locs s) (hE : Ext S0 S) (hc : cells ≤ mc) (hs : slots ≤ ms) (ht : t.heap = H1) (hvm : s.vm.Alike t.vm) (hpx : E u.1 u.2 ∧ WF u.2 ∧ Ext S u.2) (hB : Es = exn u.1 ∧ CPost C X u.2 (pq_F C X S H.size) t) (hS : va_S (pq_F C X S0 s.heap.size) s.heap H1 locs1) (hce : H1[q9]? = some ce) (hcv : ce.vm = .none) (hcl : s.vm.findClass Es = some ce.cls) :
    vx_W p l e R s m args below meth c H1 locs1 cells slots (vx_MQ below Qc (XcP C X S0 s.heap.size E) args s mc ms (pq_F C X S0 s.heap.size)) (F0 m pc ls rest) q9 := by
  obtain ⟨hEu, hF, hEx⟩ := hpx
  obtain ⟨hes, hP1, hK1, hD1⟩ := hB
  refine vx_out (fun x hx => (hno x hx).elim) hlk hce hcv hcl (fun t2 ht2 hv2 => ⟨u, ⟨hEu, hF, Ext.tr hE hEx⟩, ⟨hes, by rw [ht2, ← ht]; exact hP1, va_K.moved hv2 (va_K.moved hvm.symm hK1), hD1.weaken (fun _ q _ h => pw_free hw q.1 h)⟩, hS.F ht2⟩) hS.2.2 hc hs
theorem px_v {Qc : Array Value → State → Outcome → State → Prop} {E : Nat → pq_S → Prop} {K : pq_S → Prop} {mc0 ms0 : Nat} (hr : vx_Run p l e R s m args below meth c H locs cells slots mc ms (F0 m pc ls st0) rest (QwV C X S H.size K av) (XcP C X S H.size E) (pq_F C X S H.size)) (hw : PW C X S (pq_F C X S0 s.heap.size) H locs s) (hE : Ext S0 S) (hno : ∀ x ∈ c.exceptionTable.toList, False) (hlk : meth.locks = false) (hc : cells + mc ≤ mc0) (hs : slots + ms ≤ ms0)
    (kk : ∀ (S1 : pq_S) (H1 : Heap) (locs1 : List Loc), K S1 → PW C X S1 (pq_F C X S0 s.heap.size) H1 locs1 s → Ext S S1 → W p l e R s m args below meth c H1 locs1 (cells + mc) (slots + ms) (vx_MQ below Qc (XcP C X S0 s.heap.size E) args s mc0 ms0 (pq_F C X S0 s.heap.size)) (F0 m (pc + 3) ls rest)) : W p l e R s m args below meth c H locs cells slots (vx_MQ below Qc (XcP C X S0 s.heap.size E) args s mc0 ms0 (pq_F C X S0 s.heap.size)) (F0 m pc ls st0) := by
  refine vx_callv hr hw.S (fun q _ h => pw_free hw q h) (pw_free hw) (fun q _ h => pw_free hw q h) (fun Es ce q9 u t H1 locs1 ht hvm hpx hB hz1 hk1 hS hce hcv hcl => px_out hno hlk hw hE hc hs ht hvm hpx hB hS hce hcv hcl) (fun u t H1 locs1 ht hvm hq hB hz1 hk1 hS => ?_)
  obtain ⟨hK0, hF, hEx⟩ := hq
  obtain ⟨hP1, hK1, hD1⟩ := hB
  rw [ht] at hP1
  exact kk u H1 locs1 hK0 ⟨va_K.moved hvm.symm hK1, hP1, hD1.weaken (fun _ q _ h => pw_free hw q.1 h), hS, hw.A, hw.fx, hF⟩ hEx
/-- 'throw new E()' -/
theorem px_throw {Qc : Array Value → State → Outcome → State → Prop} {E : Nat → pq_S → Prop} {own : String} {names : List String} {ik ic k mc0 ms0 : Nat} (hx : p.tables.exec = Jvm.exec) (hb : c.code = cc) (hl : l.stackTraces = false) (hown : s.vm.findClass own = some m.cls) (hcls : Bundle.fit (exn k) = true) (hnames : ∀ n ∈ names, Bundle.fit n = true) (hk : (Cond.classLink own ik (exn k)).before args s = true) (hini : (Cond.initialized (exn k)).before args s = true) (hat : ∀ w ∈ vx_at0 own ic (exn k) names, w.before args s = true) (hgood : ∀ w ∈ Cond.classLink own ik (exn k) :: Cond.initialized (exn k) :: vx_at0 own ic (exn k) names, vx_ot w = true) (hw : PW C X S (pq_F C X S0 s.heap.size) H locs s) (hE : Ext S0 S) (hEk : E k S) (hsize : ls.size = c.maxLocals)
    (d0 : decode cc pc = .ok (.new ik, 3)) (d3 : decode cc (pc + 3) = .ok (.dup, 1)) (d4 : decode cc (pc + 4) = .ok (.invokespecial ic, 3)) (d7 : decode cc (pc + 7) = .ok (.athrow, 1)) (hno : ∀ x ∈ c.exceptionTable.toList, False) (hRframes : names.length + 3 < R.frames) (hRlocals : (rest.map fun v => v.category).sum + (13 * (names.length + 1) + 42) ≤ R.locals) (hRcells : cells + 1 ≤ R.cells) (hRslots : slots + 6 ≤ R.slots) (hlk : meth.locks = false) (hc : cells + 1 ≤ mc0) (hs : slots + 6 ≤ ms0) :
    W p l e R s m args below meth c H locs cells slots (vx_MQ below Qc (XcP C X S0 s.heap.size E) args s mc0 ms0 (pq_F C X S0 s.heap.size)) (F0 m pc ls rest) := by
  refine vx_throw0 (A := pq_F C X S0 s.heap.size) hx hb hl hown hcls hnames hk hini hat hgood hw.fx.2.2.2.1 hw.fx.2.2.2.2.1 hw.S hsize d0 d3 d4 d7 (fun x hx => (hno x hx).elim) hRframes hRlocals hRcells hRslots hlk (fun t hvm hz hk => ?_) hw.S.2.2 hc hs
  refine ⟨(k, S), ⟨hEk, hw.wf, hE⟩, ⟨rfl, ?_, va_K.moved hvm hw.K, hw.D⟩, ?_⟩
  · exact hw.P.kept (fun k1 x hx1 => hk x.1 ((hw.P k1 x hx1).lt))
  · exact ⟨Nat.le_trans hw.S.1 hz, fun q h1 h2 => (hk q (Nat.lt_of_lt_of_le h1 hw.S.1)).trans (hw.S.2.1 q h1 h2)⟩
end PWN
theorem lt_prop {α : Type} {x : α} {k : α → Prop} (h : lt_ x k) : ∃ y, y = x ∧ k y := ⟨x, rfl, h⟩
