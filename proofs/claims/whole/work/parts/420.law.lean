/-! THE CLAIM OUT OF ONE WALK OF THE LAW'S BODY. Your part is whole_start (and what it stands on); all else here is the same for every law, but numbers. -/
def R_law : String := "WickNightsLaw"
def lw_P (b : Addr) (xs : List Int32) (args : Array Value) (s : State) : Prop := args = #[.ref b] ∧ s.IntsAt b xs ∧ xs.length ≤ 4096 ∧ (Jvm.Cond.and given_1 narrow_1).before args s = true
def lw_Q (_ : Array Value) (s : State) (o : Outcome) (t : State) : Prop := o = .returned (some (.int 1)) ∧ Framed s o t [] room_1.cells room_1.slots
def lw_Z (below : List Frame) (a : Array Value) (s : State) : State → Prop := fun t => ∃ o, t.status = .running ∧ Ended t below o ∧ lw_Q a s o t
/-- the law's own end, with 1 on the stack, nothing written that was there before, its room as the claim has it -/
theorem lw_ret {p : Program} {l : Launch} {e : Env} {s : State} {m : MethodId} {below : List Frame} {meth : Method} {c : Code} {b : Nat} (hx : p.tables.exec = Jvm.exec) (hb : c.code = code) (hr : meth.sig.returnType = ret) (hlocks : meth.locks = false) {pc : Nat} {H : Heap} {ls : Array Slot} (hdg : decode code pc = .ok (.ireturn, 1)) : W p l e room_1 s m #[Value.ref b] below meth c H [] room_1.cells room_1.slots (lw_Z below #[Value.ref b] s) (F0 m pc ls [.int 1]) := by
  intro T hT X
  obtain ⟨fs, hret, hrun, hended, hW, hframe⟩ := X.leave (v := some (.int 1)) (hlocks := hlocks) (fun h => by rw [hr] at h; cases h)
  have hmeth' : T.vm.method? m = some meth := X.method'
  refine ⟨T.setFrames fs, ?_, .returned (some (.int 1)), hrun, hended, rfl, ⟨_, rfl⟩, hW, hframe⟩
  jvm_step X.here [X.here.top, hx, hb, hdg, hmeth', hr, ret, narrow_b1]
  (try refine ⟨rfl, ?_⟩); (try refine ⟨rfl, ?_⟩)
  first | (intro acts; rw [hret _ acts rfl rfl rfl]) | rw [hret _ _ rfl rfl rfl]
  exact Steps.refl _
/-- what holds at the law's entry: the machine, the code, the tables' words (any of lw_tbl by 'hts w (by decide +kernel)'), the script of L ints xs at the cell b, what the Statement gives of the start (any of its parts by flat_of_before) -/
def lw_At (p : Program) (s : State) (m : MethodId) (meth : Method) (c : Code) (b L : Nat) (xs : Nat → Int32) : Prop :=
  p.tables.exec = Jvm.exec ∧ c.code = code ∧ meth.sig.returnType = ret ∧ c.maxLocals = 8 ∧ s.vm.findClass R_law = some m.cls ∧ (∀ w ∈ lw_tbl, w.before #[Value.ref b] s = true) ∧ va_X b L xs s s.heap ∧ b < s.heap.size ∧ meth.locks = false ∧ (Jvm.Cond.and given_1 narrow_1).before #[Value.ref b] s = true
theorem pq_gS {own : String} {idx : Nat} {y : MethodName} {b : ByteArray} {n : Nat} {r : Option FieldType} {hh : List (Nat × Nat × Nat × Nat)} (h1 : Cond.methodLink own idx y ∈ pq_U) (h2 : Cond.static y ∈ pq_U) (h3 : Cond.initialized y.cls ∈ pq_U) (h4 : Cond.codeWith y b n r hh ∈ pq_U) : GoodIn pq_U (va_wsS own idx y (.codeWith y b n r hh :: pq_U)) := fun w hw => by
  have hm : w ∈ pq_U := by
    unfold va_wsS at hw
    rcases List.mem_append.mp hw with q | q
    · simp only [List.mem_cons, List.not_mem_nil, or_false] at q
      rcases q with rfl | rfl | rfl
      · exact h1
      · exact h2
      · exact h3
    · rcases List.mem_cons.mp q with rfl | q
      · exact h4
      · exact q
  exact ⟨hm, good_of_word (List.mem_filter.mp hm).2⟩
theorem pw_lpost {C : pq_C} {ao : Nat} {f f1 : Nat → Int64} {S S1 : pq_S} {A : Nat → Prop} {H H1 : Heap} {locs locs1 : List Loc} {s t : State} (hw : PW C (XL C ao f) S A H locs s) (ht : t.heap = H1) (hvm : s.vm.Alike t.vm) (hF : WF S1) (hB : CPost C (XL C ao f1) S1 (pq_F C (XL C ao f) S H.size) t) (hS : va_S A s.heap H1 locs1) : PW C (XL C ao f1) S1 A H1 locs1 s := by
  obtain ⟨hP1, hK1, hD1⟩ := hB
  rw [ht] at hP1
  exact ⟨va_K.moved hvm.symm hK1, hP1, hD1.weaken (fun _ q _ h => pw_free hw q.1 h), hS, hw.A, hw.fx, hF⟩
-- what the law's body rests on: the class's call, then the reference's, answers alike, the invariant again
def KI (J : pq_S → Prop) (ma : Nat) (g : pq_S → Option (Int32 × pq_S)) : Int32 → (Nat → Int64) → pq_S → Prop := fun k f S1 => ∃ b S2, g S1 = some (b, S2) ∧ pI S2 1200 ma = k ∧ (k = 0 → f 0 = Int32.toInt64 b) ∧ J S2
def KJ (J : pq_S → Prop) (ma : Nat) (g : pq_S → Option (Int64 × pq_S)) : Int32 → (Nat → Int64) → pq_S → Prop := fun k f S1 => ∃ b S2, g S1 = some (b, S2) ∧ pI S2 1200 ma = k ∧ (k = 0 → f 0 = b) ∧ J S2
def KZ (J : pq_S → Prop) (ma : Nat) (g : pq_S → Option (Int32 × pq_S)) : Int32 → (Nat → Int64) → pq_S → Prop := fun k f S1 => ∃ b S2, g S1 = some (b, S2) ∧ pI S2 1200 ma = k ∧ (k = 0 → f 0 = (if b = 0 then 0 else 1)) ∧ J S2
abbrev lw_A (s : State) : Nat → Prop := fun q => s.heap.size ≤ q
theorem lw_cmp0 {x y : Int64} (h : x = y) : lg_cmp x y = 0 := by subst h; unfold lg_cmp; simp

def OB_0 (n xa ma : Nat) (J : pq_S → Prop) : Prop := ∀ (S : pq_S), J S → ∀ (y1 : Int32) (y2 : Int32) (y3 : Int32) (y4 : Int32) (y5 : Int32), ∃ r S1 S2, m_X11_feed n xa y1 y2 y3 y4 y5 S = some (r, S1) ∧ m_X12_feed n ma y1 y2 y3 y4 y5 S1 = some (r, S2) ∧ J S2
def OB_1 (n xa ma : Nat) (J : pq_S → Prop) : Prop := ∀ (S : pq_S) (f : Nat → Int64), J S → ∀ (y1 : Int32), ∃ mc ms : Nat, mc ≤ 200 ∧ ms ≤ 8000 ∧ wp_X11_coast n xa y1 S mc ms (fun (k : Nat) (S1 : pq_S) => (k = 1 ∧ (KI J ma (m_X12_coast n ma y1)) 1 f S1)) (fun r (S1 : pq_S) => (KI J ma (m_X12_coast n ma y1)) 0 (vp_updL f 0 (Int32.toInt64 r)) S1)
def OB_2 (n xa ma : Nat) (J : pq_S → Prop) : Prop := ∀ (S : pq_S) (f : Nat → Int64), J S → ∀ (y1 : Int32) (y2 : Int32), ∃ mc ms : Nat, mc ≤ 200 ∧ ms ≤ 8000 ∧ wp_X11_law n xa y1 y2 S mc ms (fun (k : Nat) (S1 : pq_S) => (k = 1 ∧ (KI J ma (m_X12_law n ma y1 y2)) 1 f S1)) (fun r (S1 : pq_S) => (KI J ma (m_X12_law n ma y1 y2)) 0 (vp_updL f 0 (Int32.toInt64 r)) S1)
def OB_3 (n xa ma : Nat) (J : pq_S → Prop) : Prop := ∀ (S : pq_S) (f : Nat → Int64), J S → ∀ (y1 : Int32), ∃ mc ms : Nat, mc ≤ 200 ∧ ms ≤ 8000 ∧ wp_X11_work n xa y1 S mc ms (fun (k : Nat) (S1 : pq_S) => (k = 1 ∧ (KI J ma (m_X12_work n ma y1)) 1 f S1)) (fun r (S1 : pq_S) => (KI J ma (m_X12_work n ma y1)) 0 (vp_updL f 0 (Int32.toInt64 r)) S1)
def OB_4 (n xa ma : Nat) (J : pq_S → Prop) : Prop := ∀ (S : pq_S) (f : Nat → Int64), J S → ∀ (y1 : Int32), ∃ mc ms : Nat, mc ≤ 200 ∧ ms ≤ 8000 ∧ wp_X11_book n xa y1 S mc ms (fun (k : Nat) (S1 : pq_S) => (k = 1 ∧ (KI J ma (m_X12_book n ma y1)) 1 f S1)) (fun r (S1 : pq_S) => (KI J ma (m_X12_book n ma y1)) 0 (vp_updL f 0 (Int32.toInt64 r)) S1)
def OB_5 (n xa ma : Nat) (J : pq_S → Prop) : Prop := ∀ (S : pq_S), J S → ∃ r S1 S2, m_X11_fault n xa S = some (r, S1) ∧ m_X12_fault n ma S1 = some (r, S2) ∧ J S2
def OB_6 (n xa ma : Nat) (J : pq_S → Prop) : Prop := ∀ (S : pq_S), J S → ∃ r S1 S2, m_X11_undo n xa S = some (r, S1) ∧ m_X12_undo n ma S1 = some (r, S2) ∧ J S2
def OB_7 (n xa ma : Nat) (J : pq_S → Prop) : Prop := ∀ (S : pq_S) (f : Nat → Int64), J S → ∀ (y1 : Int32), ∃ mc ms : Nat, mc ≤ 200 ∧ ms ≤ 8000 ∧ wp_X11_told n xa y1 S mc ms (fun (k : Nat) (S1 : pq_S) => (k = 1 ∧ (KI J ma (m_X12_told n ma y1)) 1 f S1)) (fun r (S1 : pq_S) => (KI J ma (m_X12_told n ma y1)) 0 (vp_updL f 0 (Int32.toInt64 r)) S1)
def OB_8 (n xa ma : Nat) (J : pq_S → Prop) : Prop := ∀ (S : pq_S) (f : Nat → Int64), J S → ∀ (y1 : Int32) (y2 : Int32), ∃ mc ms : Nat, mc ≤ 200 ∧ ms ≤ 8000 ∧ wp_X11_place n xa y1 y2 S mc ms (fun (k : Nat) (S1 : pq_S) => (k = 2 ∧ (KI J ma (m_X12_place n ma y1 y2)) 1 f S1) ∨ (k = 1 ∧ (KI J ma (m_X12_place n ma y1 y2)) 2 f S1)) (fun r (S1 : pq_S) => (KI J ma (m_X12_place n ma y1 y2)) 0 (vp_updL f 0 (Int32.toInt64 r)) S1)
def OB_9 (n xa ma : Nat) (J : pq_S → Prop) : Prop := ∀ (S : pq_S) (f : Nat → Int64), J S → ∀ (y1 : Int32) (y2 : Int32), ∃ mc ms : Nat, mc ≤ 200 ∧ ms ≤ 8000 ∧ wp_X11_want n xa y1 y2 S mc ms (fun (k : Nat) (S1 : pq_S) => (k = 2 ∧ (KI J ma (m_X12_want n ma y1 y2)) 1 f S1) ∨ (k = 1 ∧ (KI J ma (m_X12_want n ma y1 y2)) 2 f S1)) (fun r (S1 : pq_S) => (KI J ma (m_X12_want n ma y1 y2)) 0 (vp_updL f 0 (Int32.toInt64 r)) S1)
def OB_10 (n xa ma : Nat) (J : pq_S → Prop) : Prop := ∀ (S : pq_S) (f : Nat → Int64), J S → ∀ (y1 : Int32) (y2 : Int32), ∃ mc ms : Nat, mc ≤ 200 ∧ ms ≤ 8000 ∧ wp_X11_mine n xa y1 y2 S mc ms (fun (k : Nat) (S1 : pq_S) => (k = 2 ∧ (KI J ma (m_X12_mine n ma y1 y2)) 1 f S1) ∨ (k = 1 ∧ (KI J ma (m_X12_mine n ma y1 y2)) 2 f S1)) (fun r (S1 : pq_S) => (KI J ma (m_X12_mine n ma y1 y2)) 0 (vp_updL f 0 (Int32.toInt64 r)) S1)
def OB_11 (n xa ma : Nat) (J : pq_S → Prop) : Prop := ∀ (S : pq_S) (f : Nat → Int64), J S → ∀ (y1 : Int32) (y2 : Int32) (y3 : Int32) (y4 : Int32), ∃ mc ms : Nat, mc ≤ 200 ∧ ms ≤ 8000 ∧ wp_X11_arrives n xa y1 y2 y3 y4 S mc ms (fun (k : Nat) (S1 : pq_S) => (k = 2 ∧ (KI J ma (m_X12_arrives n ma y1 y2 y3 y4)) 1 f S1) ∨ (k = 1 ∧ (KI J ma (m_X12_arrives n ma y1 y2 y3 y4)) 2 f S1)) (fun r (S1 : pq_S) => (KI J ma (m_X12_arrives n ma y1 y2 y3 y4)) 0 (vp_updL f 0 (Int32.toInt64 r)) S1)
def OB_12 (n xa ma : Nat) (J : pq_S → Prop) : Prop := ∀ (S : pq_S) (f : Nat → Int64), J S → ∀ (y1 : Int32) (y2 : Int32), ∃ mc ms : Nat, mc ≤ 200 ∧ ms ≤ 8000 ∧ wp_X11_digs n xa y1 y2 S mc ms (fun (k : Nat) (S1 : pq_S) => (k = 2 ∧ (KI J ma (m_X12_digs n ma y1 y2)) 1 f S1) ∨ (k = 1 ∧ (KI J ma (m_X12_digs n ma y1 y2)) 2 f S1)) (fun r (S1 : pq_S) => (KI J ma (m_X12_digs n ma y1 y2)) 0 (vp_updL f 0 (Int32.toInt64 r)) S1)
def OB_13 (n xa ma : Nat) (J : pq_S → Prop) : Prop := ∀ (S : pq_S) (f : Nat → Int64), J S → ∀ (y1 : Int32), ∃ mc ms : Nat, mc ≤ 200 ∧ ms ≤ 8000 ∧ wp_X11_can n xa y1 S mc ms (fun (k : Nat) (S1 : pq_S) => (k = 2 ∧ (KZ J ma (m_X12_can n ma y1)) 1 f S1)) (fun r (S1 : pq_S) => (KZ J ma (m_X12_can n ma y1)) 0 (vp_updL f 0 (if r = 0 then 0 else 1)) S1)
def OB_14 (n xa ma : Nat) (J : pq_S → Prop) : Prop := ∀ (S : pq_S) (f : Nat → Int64), J S → ∀ (y1 : Int32), ∃ mc ms : Nat, mc ≤ 200 ∧ ms ≤ 8000 ∧ wp_X11_sales n xa y1 S mc ms (fun (k : Nat) (S1 : pq_S) => (k = 1 ∧ (KI J ma (m_X12_sales n ma y1)) 1 f S1)) (fun r (S1 : pq_S) => (KI J ma (m_X12_sales n ma y1)) 0 (vp_updL f 0 (Int32.toInt64 r)) S1)
def OB_15 (n xa ma : Nat) (J : pq_S → Prop) : Prop := ∀ (S : pq_S) (f : Nat → Int64), J S → ∀ (y1 : Int32) (y2 : Int32), ∃ mc ms : Nat, mc ≤ 200 ∧ ms ≤ 8000 ∧ wp_X11_more n xa y1 y2 S mc ms (fun (k : Nat) (S1 : pq_S) => (k = 2 ∧ (KI J ma (m_X12_more n ma y1 y2)) 1 f S1) ∨ (k = 1 ∧ (KI J ma (m_X12_more n ma y1 y2)) 2 f S1)) (fun r (S1 : pq_S) => (KI J ma (m_X12_more n ma y1 y2)) 0 (vp_updL f 0 (Int32.toInt64 r)) S1)
def OB_16 (n xa ma : Nat) (J : pq_S → Prop) : Prop := ∀ (S : pq_S) (f : Nat → Int64), J S → ∀ (y1 : Int32) (y2 : Int32) (y3 : Int32), ∃ mc ms : Nat, mc ≤ 200 ∧ ms ≤ 8000 ∧ wp_X11_brings n xa y1 y2 y3 S mc ms (fun (k : Nat) (S1 : pq_S) => (k = 2 ∧ (KI J ma (m_X12_brings n ma y1 y2 y3)) 1 f S1) ∨ (k = 1 ∧ (KI J ma (m_X12_brings n ma y1 y2 y3)) 2 f S1)) (fun r (S1 : pq_S) => (KI J ma (m_X12_brings n ma y1 y2 y3)) 0 (vp_updL f 0 (Int32.toInt64 r)) S1)
def OB_17 (n xa ma : Nat) (J : pq_S → Prop) : Prop := ∀ (S : pq_S) (f : Nat → Int64), J S → ∀ (y1 : Int32), ∃ mc ms : Nat, mc ≤ 200 ∧ ms ≤ 8000 ∧ wp_X11_price n xa y1 S mc ms (fun (k : Nat) (S1 : pq_S) => (k = 2 ∧ (KI J ma (m_X12_price n ma y1)) 1 f S1)) (fun r (S1 : pq_S) => (KI J ma (m_X12_price n ma y1)) 0 (vp_updL f 0 (Int32.toInt64 r)) S1)
def OB_18 (n xa ma : Nat) (J : pq_S → Prop) : Prop := ∀ (S : pq_S) (f : Nat → Int64), J S → ∀ (y1 : Int32) (y2 : Int32), ∃ mc ms : Nat, mc ≤ 200 ∧ ms ≤ 8000 ∧ wp_X11_corner n xa y1 y2 S mc ms (fun (k : Nat) (S1 : pq_S) => (k = 2 ∧ (KI J ma (m_X12_corner n ma y1 y2)) 1 f S1) ∨ (k = 1 ∧ (KI J ma (m_X12_corner n ma y1 y2)) 2 f S1)) (fun r (S1 : pq_S) => (KI J ma (m_X12_corner n ma y1 y2)) 0 (vp_updL f 0 (Int32.toInt64 r)) S1)
def OB_19 (n xa ma : Nat) (J : pq_S → Prop) : Prop := ∀ (S : pq_S) (f : Nat → Int64), J S → ∀ (y1 : Int32) (y2 : Int32) (y3 : Int32) (y4 : Int32) (y5 : Int32) (y6 : Int32) (y7 : Int32), ∃ mc ms : Nat, mc ≤ 200 ∧ ms ≤ 8000 ∧ wp_X11_option n xa y1 y2 y3 y4 y5 y6 y7 S mc ms (fun (k : Nat) (S1 : pq_S) => (k = 1 ∧ (KJ J ma (m_X12_option n ma y1 y2 y3 y4 y5 y6 y7)) 1 f S1)) (fun r (S1 : pq_S) => (KJ J ma (m_X12_option n ma y1 y2 y3 y4 y5 y6 y7)) 0 (vp_updL f 0 r) S1)
def OB_20 (n xa ma : Nat) (J : pq_S → Prop) : Prop := ∀ (S : pq_S) (f : Nat → Int64), J S → ∀ (y1 : Int32) (y2 : Int32) (y3 : Int32) (y4 : Int32) (y5 : Int32) (y6 : Int32) (y7 : Int32), ∃ mc ms : Nat, mc ≤ 200 ∧ ms ≤ 8000 ∧ wp_X11_late n xa y1 y2 y3 y4 y5 y6 y7 S mc ms (fun (k : Nat) (S1 : pq_S) => (k = 1 ∧ (KJ J ma (m_X12_late n ma y1 y2 y3 y4 y5 y6 y7)) 1 f S1)) (fun r (S1 : pq_S) => (KJ J ma (m_X12_late n ma y1 y2 y3 y4 y5 y6 y7)) 0 (vp_updL f 0 r) S1)
def OB_21 (n xa ma : Nat) (J : pq_S → Prop) : Prop := ∀ (S : pq_S) (f : Nat → Int64), J S → ∀ (y1 : Int32) (y2 : Int32) (y3 : Int32) (y4 : Int32) (y5 : Int32) (y6 : Int32), ∃ mc ms : Nat, mc ≤ 200 ∧ ms ≤ 8000 ∧ wp_X11_now n xa y1 y2 y3 y4 y5 y6 S mc ms (fun (k : Nat) (S1 : pq_S) => (k = 1 ∧ (KZ J ma (m_X12_now n ma y1 y2 y3 y4 y5 y6)) 1 f S1)) (fun r (S1 : pq_S) => (KZ J ma (m_X12_now n ma y1 y2 y3 y4 y5 y6)) 0 (vp_updL f 0 (if r = 0 then 0 else 1)) S1)
def OB_22 (n xa ma : Nat) (J : pq_S → Prop) : Prop := ∀ (S : pq_S) (f : Nat → Int64), J S → ∀ (y1 : Int32) (y2 : Int32), ∃ mc ms : Nat, mc ≤ 200 ∧ ms ≤ 8000 ∧ wp_X11_nights n xa y1 y2 S mc ms (fun (k : Nat) (S1 : pq_S) => (k = 2 ∧ (KI J ma (m_X12_nights n ma y1 y2)) 1 f S1) ∨ (k = 1 ∧ (KI J ma (m_X12_nights n ma y1 y2)) 2 f S1)) (fun r (S1 : pq_S) => (KI J ma (m_X12_nights n ma y1 y2)) 0 (vp_updL f 0 (Int32.toInt64 r)) S1)
def OB_23 (n xa ma : Nat) (J : pq_S → Prop) : Prop := ∀ (S : pq_S) (f : Nat → Int64), J S → ∀ (y1 : Int32) (y2 : Int32), ∃ mc ms : Nat, mc ≤ 200 ∧ ms ≤ 8000 ∧ wp_X11_night n xa y1 y2 S mc ms (fun (k : Nat) (S1 : pq_S) => (k = 2 ∧ (KI J ma (m_X12_night n ma y1 y2)) 1 f S1) ∨ (k = 1 ∧ (KI J ma (m_X12_night n ma y1 y2)) 2 f S1)) (fun r (S1 : pq_S) => (KI J ma (m_X12_night n ma y1 y2)) 0 (vp_updL f 0 (Int32.toInt64 r)) S1)
def OB_24 (n xa ma : Nat) (J : pq_S → Prop) : Prop := ∀ (S : pq_S) (f : Nat → Int64), J S → ∀ (y1 : Int32) (y2 : Int32) (y3 : Int32), ∃ mc ms : Nat, mc ≤ 200 ∧ ms ≤ 8000 ∧ wp_X11_looks n xa y1 y2 y3 S mc ms (fun (k : Nat) (S1 : pq_S) => (k = 1 ∧ (KI J ma (m_X12_looks n ma y1 y2 y3)) 1 f S1)) (fun r (S1 : pq_S) => (KI J ma (m_X12_looks n ma y1 y2 y3)) 0 (vp_updL f 0 (Int32.toInt64 r)) S1)
def OB_25 (n xa ma : Nat) (J : pq_S → Prop) : Prop := ∀ (S : pq_S) (f : Nat → Int64), J S → ∀ (y1 : Int32), ∃ mc ms : Nat, mc ≤ 200 ∧ ms ≤ 8000 ∧ wp_X11_leaky n xa y1 S mc ms (fun (k : Nat) (S1 : pq_S) => (k = 1 ∧ (KI J ma (m_X12_leaky n ma y1)) 1 f S1)) (fun r (S1 : pq_S) => (KI J ma (m_X12_leaky n ma y1)) 0 (vp_updL f 0 (Int32.toInt64 r)) S1)
def OB_26 (n xa ma : Nat) (J : pq_S → Prop) : Prop := ∀ (S : pq_S) (f : Nat → Int64), J S → ∀ (y1 : Int32) (y2 : Int32), ∃ mc ms : Nat, mc ≤ 200 ∧ ms ≤ 8000 ∧ wp_X11_misses n xa y1 y2 S mc ms (fun (k : Nat) (S1 : pq_S) => (k = 2 ∧ (KI J ma (m_X12_misses n ma y1 y2)) 1 f S1) ∨ (k = 1 ∧ (KI J ma (m_X12_misses n ma y1 y2)) 2 f S1)) (fun r (S1 : pq_S) => (KI J ma (m_X12_misses n ma y1 y2)) 0 (vp_updL f 0 (Int32.toInt64 r)) S1)
def OB_27 (n xa ma : Nat) (J : pq_S → Prop) : Prop := ∀ (S : pq_S) (f : Nat → Int64), J S → ∀ (y1 : Int32) (y2 : Int32) (y3 : Int32) (y4 : Int32), ∃ mc ms : Nat, mc ≤ 200 ∧ ms ≤ 8000 ∧ wp_X11_seam n xa y1 y2 y3 y4 S mc ms (fun (k : Nat) (S1 : pq_S) => (k = 2 ∧ (KI J ma (m_X12_seam n ma y1 y2 y3 y4)) 1 f S1) ∨ (k = 1 ∧ (KI J ma (m_X12_seam n ma y1 y2 y3 y4)) 2 f S1)) (fun r (S1 : pq_S) => (KI J ma (m_X12_seam n ma y1 y2 y3 y4)) 0 (vp_updL f 0 (Int32.toInt64 r)) S1)
def OB_28 (n xa ma : Nat) (J : pq_S → Prop) : Prop := ∀ (S : pq_S) (f : Nat → Int64), J S → ∀ (y1 : Int32) (y2 : Int32) (y3 : Int32), ∃ mc ms : Nat, mc ≤ 200 ∧ ms ≤ 8000 ∧ wp_X11_sellers n xa y1 y2 y3 S mc ms (fun (k : Nat) (S1 : pq_S) => (k = 2 ∧ (KI J ma (m_X12_sellers n ma y1 y2 y3)) 1 f S1) ∨ (k = 1 ∧ (KI J ma (m_X12_sellers n ma y1 y2 y3)) 2 f S1)) (fun r (S1 : pq_S) => (KI J ma (m_X12_sellers n ma y1 y2 y3)) 0 (vp_updL f 0 (Int32.toInt64 r)) S1)
def OB_29 (n xa ma : Nat) (J : pq_S → Prop) : Prop := ∀ (S : pq_S) (f : Nat → Int64), J S → ∀ (y1 : Int32) (y2 : Int32) (y3 : Int32), ∃ mc ms : Nat, mc ≤ 200 ∧ ms ≤ 8000 ∧ wp_X11_gets n xa y1 y2 y3 S mc ms (fun (k : Nat) (S1 : pq_S) => (k = 2 ∧ (KI J ma (m_X12_gets n ma y1 y2 y3)) 1 f S1) ∨ (k = 1 ∧ (KI J ma (m_X12_gets n ma y1 y2 y3)) 2 f S1)) (fun r (S1 : pq_S) => (KI J ma (m_X12_gets n ma y1 y2 y3)) 0 (vp_updL f 0 (Int32.toInt64 r)) S1)
def OB_30 (n xa ma : Nat) (J : pq_S → Prop) : Prop := ∀ (S : pq_S) (f : Nat → Int64), J S → ∀ (y1 : Int32), ∃ mc ms : Nat, mc ≤ 200 ∧ ms ≤ 8000 ∧ wp_X11_moons n xa y1 S mc ms (fun (k : Nat) (S1 : pq_S) => (k = 1 ∧ (KI J ma (m_X12_moons n ma y1)) 1 f S1)) (fun r (S1 : pq_S) => (KI J ma (m_X12_moons n ma y1)) 0 (vp_updL f 0 (Int32.toInt64 r)) S1)
def OB_31 (n xa ma : Nat) (J : pq_S → Prop) : Prop := ∀ (S : pq_S) (f : Nat → Int64), J S → ∀ (y1 : Int32), ∃ mc ms : Nat, mc ≤ 200 ∧ ms ≤ 8000 ∧ wp_X11_dark n xa y1 S mc ms (fun (k : Nat) (S1 : pq_S) => (k = 1 ∧ (KI J ma (m_X12_dark n ma y1)) 1 f S1)) (fun r (S1 : pq_S) => (KI J ma (m_X12_dark n ma y1)) 0 (vp_updL f 0 (Int32.toInt64 r)) S1)
def OB_32 (n xa ma : Nat) (J : pq_S → Prop) : Prop := ∀ (S : pq_S) (f : Nat → Int64), J S → ∀ (y1 : Int32), ∃ mc ms : Nat, mc ≤ 200 ∧ ms ≤ 8000 ∧ wp_X11_bright n xa y1 S mc ms (fun (k : Nat) (S1 : pq_S) => (k = 1 ∧ (KI J ma (m_X12_bright n ma y1)) 1 f S1)) (fun r (S1 : pq_S) => (KI J ma (m_X12_bright n ma y1)) 0 (vp_updL f 0 (Int32.toInt64 r)) S1)
def OB_33 (n xa ma : Nat) (J : pq_S → Prop) : Prop := ∀ (S : pq_S) (f : Nat → Int64), J S → ∀ (y1 : Int32) (y2 : Int32), ∃ mc ms : Nat, mc ≤ 200 ∧ ms ≤ 8000 ∧ wp_X11_darks n xa y1 y2 S mc ms (fun (k : Nat) (S1 : pq_S) => (k = 1 ∧ (KI J ma (m_X12_darks n ma y1 y2)) 1 f S1)) (fun r (S1 : pq_S) => (KI J ma (m_X12_darks n ma y1 y2)) 0 (vp_updL f 0 (Int32.toInt64 r)) S1)
def OB_34 (n xa ma : Nat) (J : pq_S → Prop) : Prop := ∀ (S : pq_S) (f : Nat → Int64), J S → ∀ (y1 : Int32) (y2 : Int32) (y3 : Int32) (y4 : Int32) (y5 : Int32), ∃ mc ms : Nat, mc ≤ 200 ∧ ms ≤ 8000 ∧ wp_X11_clouds n xa y1 y2 y3 y4 y5 S mc ms (fun (k : Nat) (S1 : pq_S) => (k = 1 ∧ (KI J ma (m_X12_clouds n ma y1 y2 y3 y4 y5)) 1 f S1)) (fun r (S1 : pq_S) => (KI J ma (m_X12_clouds n ma y1 y2 y3 y4 y5)) 0 (vp_updL f 0 (Int32.toInt64 r)) S1)
def OB_35 (n xa ma : Nat) (J : pq_S → Prop) : Prop := ∀ (S : pq_S) (f : Nat → Int64), J S → ∀ (y1 : Int32) (y2 : Int32) (y3 : Int32) (y4 : Int32) (y5 : Int32) (y6 : Int32), ∃ mc ms : Nat, mc ≤ 200 ∧ ms ≤ 8000 ∧ wp_X11_span n xa y1 y2 y3 y4 y5 y6 S mc ms (fun (k : Nat) (S1 : pq_S) => (k = 1 ∧ (KI J ma (m_X12_span n ma y1 y2 y3 y4 y5 y6)) 1 f S1)) (fun r (S1 : pq_S) => (KI J ma (m_X12_span n ma y1 y2 y3 y4 y5 y6)) 0 (vp_updL f 0 (Int32.toInt64 r)) S1)
def OB_36 (n xa ma : Nat) (J : pq_S → Prop) : Prop := ∀ (S : pq_S) (f : Nat → Int64), J S → ∀ (y1 : Int32) (y2 : Int32) (y3 : Int32), ∃ mc ms : Nat, mc ≤ 200 ∧ ms ≤ 8000 ∧ wp_X11_ahead n xa y1 y2 y3 S mc ms (fun (k : Nat) (S1 : pq_S) => (k = 2 ∧ (KI J ma (m_X12_ahead n ma y1 y2 y3)) 1 f S1) ∨ (k = 1 ∧ (KI J ma (m_X12_ahead n ma y1 y2 y3)) 2 f S1)) (fun r (S1 : pq_S) => (KI J ma (m_X12_ahead n ma y1 y2 y3)) 0 (vp_updL f 0 (Int32.toInt64 r)) S1)
def OB_37 (n xa ma : Nat) (J : pq_S → Prop) : Prop := ∀ (S : pq_S) (f : Nat → Int64), J S → ∀ (y1 : Int32), ∃ mc ms : Nat, mc ≤ 200 ∧ ms ≤ 8000 ∧ wp_X11_chosen n xa y1 S mc ms (fun (k : Nat) (S1 : pq_S) => (k = 1 ∧ (KI J ma (m_X12_chosen n ma y1)) 1 f S1)) (fun r (S1 : pq_S) => (KI J ma (m_X12_chosen n ma y1)) 0 (vp_updL f 0 (Int32.toInt64 r)) S1)
def OB_38 (n xa ma : Nat) (J : pq_S → Prop) : Prop := ∀ (S : pq_S), J S → ∃ mc ms : Nat, mc ≤ 200 ∧ ms ≤ 8000 ∧ wp_X11_image n xa S mc ms (fun r (S1 : pq_S) => ∃ S2, m_X12_image n ma S1 = some (r, S2) ∧ J S2)
def OB_39 (n xa ma : Nat) (J : pq_S → Prop) : Prop := ∀ (S : pq_S), J S → ∃ mc ms : Nat, mc ≤ 200 ∧ ms ≤ 8000 ∧ wp_X11_restore n xa S mc ms (fun r (S1 : pq_S) => ∃ S2, m_X12_restore n ma S1 = some (r, S2) ∧ J S2)
def OB_40 (n xa ma : Nat) (J : pq_S → Prop) : Prop := ∀ (S : pq_S), J S → ∀ (y1 : Int32), ∃ r S1 S2, m_X11_status n xa y1 S = some (r, S1) ∧ m_X12_status n ma y1 S1 = some (r, S2) ∧ J S2
def OB_41 (n xa ma : Nat) (J : pq_S → Prop) : Prop := ∀ (S : pq_S), J S → ∀ (y1 : Int32), ∃ r S1 S2, m_X11_count n xa y1 S = some (r, S1) ∧ m_X12_count n ma y1 S1 = some (r, S2) ∧ J S2
def OB (n xa ma : Nat) (J : pq_S → Prop) : Prop := (∀ S, J S → TY S xa 11 ∧ TY S ma 12) ∧ OB_0 n xa ma J ∧ OB_1 n xa ma J ∧ OB_2 n xa ma J ∧ OB_3 n xa ma J ∧ OB_4 n xa ma J ∧ OB_5 n xa ma J ∧ OB_6 n xa ma J ∧ OB_7 n xa ma J ∧ OB_8 n xa ma J ∧ OB_9 n xa ma J ∧ OB_10 n xa ma J ∧ OB_11 n xa ma J ∧ OB_12 n xa ma J ∧ OB_13 n xa ma J ∧ OB_14 n xa ma J ∧ OB_15 n xa ma J ∧ OB_16 n xa ma J ∧ OB_17 n xa ma J ∧ OB_18 n xa ma J ∧ OB_19 n xa ma J ∧ OB_20 n xa ma J ∧ OB_21 n xa ma J ∧ OB_22 n xa ma J ∧ OB_23 n xa ma J ∧ OB_24 n xa ma J ∧ OB_25 n xa ma J ∧ OB_26 n xa ma J ∧ OB_27 n xa ma J ∧ OB_28 n xa ma J ∧ OB_29 n xa ma J ∧ OB_30 n xa ma J ∧ OB_31 n xa ma J ∧ OB_32 n xa ma J ∧ OB_33 n xa ma J ∧ OB_34 n xa ma J ∧ OB_35 n xa ma J ∧ OB_36 n xa ma J ∧ OB_37 n xa ma J ∧ OB_38 n xa ma J ∧ OB_39 n xa ma J ∧ OB_40 n xa ma J ∧ OB_41 n xa ma J
set_option maxHeartbeats 4000000 in
set_option maxRecDepth 100000 in
theorem lc_0 {p : Program} {l : Launch} {e : Env} {s : State} {m : MethodId} {below : List Frame} {meth : Method} {c : Code} {b L : Nat} {xs : Nat → Int32} (C0 : lw_At p s m meth c b L xs) (hst : l.stackTraces = false) (C : pq_C) (n xa ma ao : Nat) (J : pq_S → Prop) (hTY : ∀ S, J S → TY S xa 11 ∧ TY S ma 12) (hob : OB_0 n xa ma J) (x4 : Int32) (hi1 : vp_in (x4 + 1) L) (hi2 : vp_in (x4 + 2) L) (hi3 : vp_in (x4 + 3) L) (hi4 : vp_in (x4 + 4) L) (hi5 : vp_in (x4 + 5) L) (S : pq_S) (f : Nat → Int64) (H : Heap) (locs : List Loc) (ls : Array Slot) (cells slots : Nat) (hJ : J S) (hcc : cells + 200 ≤ room_1.cells) (hss : slots + 8000 ≤ room_1.slots) (hw : PW C (XL C ao f) S (lw_A s) H locs s) (hl : lv_has ls 8 [(0, .ref b), (1, .ref xa), (2, .ref ma), (3, .ref ao), (4, .int x4)]) (hk : ∀ (S2 : pq_S) (f2 : Nat → Int64) (H2 : Heap) (locs2 : List Loc) (ls2 : Array Slot), J S2 → PW C (XL C ao f2) S2 (lw_A s) H2 locs2 s → lv_has ls2 8 [(0, .ref b), (1, .ref xa), (2, .ref ma), (3, .ref ao), (4, .int x4)] → W p l e room_1 s m #[Value.ref b] below meth c H2 locs2 (cells + 200) (slots + 8000) (lw_Z below #[Value.ref b] s) (F0 m 3019 ls2 [])) : W p l e room_1 s m #[Value.ref b] below meth c H locs cells slots (lw_Z below #[Value.ref b] s) (F0 m 224 ls []) := by
  obtain ⟨hx, hb, hr, hml, hown, hts, hX, hbl, hlocks, hgv⟩ := id C0
  have hb : c.code = cL_law_ := hb
  have hown : s.vm.findClass RL = some m.cls := hown
  have hbA : ¬ lw_A s b := Nat.not_le.mpr hbl
  have hU : ∀ w ∈ pq_U, w.before _ s = true := fun w h => hts w (List.mem_filter.mp h).1
  obtain ⟨Tx, Tm⟩ := hTY S hJ
  refine lv_aload_n hx hb dL_law__224 rfl (lv_at hl 1 rfl) ?_
  refine lv_aload_n hx hb dL_law__225 rfl (lv_at hl 0 rfl) ?_
  refine lv_iload hx hb dL_law__226 (lv_at hl 4 rfl) ?_
  refine lv_iconst (v := 1) hx hb dL_law__228 (by decide) ?_
  refine lv_iadd hx hb dL_law__229 ?_
  refine va_sld hx hb hX hbl hbA hw.S hi1 dL_law__230 ?_
  refine lv_aload_n hx hb dL_law__231 rfl (lv_at hl 0 rfl) ?_
  refine lv_iload hx hb dL_law__232 (lv_at hl 4 rfl) ?_
  refine lv_iconst (v := 2) hx hb dL_law__234 (by decide) ?_
  refine lv_iadd hx hb dL_law__235 ?_
  refine va_sld hx hb hX hbl hbA hw.S hi2 dL_law__236 ?_
  refine lv_aload_n hx hb dL_law__237 rfl (lv_at hl 0 rfl) ?_
  refine lv_iload hx hb dL_law__238 (lv_at hl 4 rfl) ?_
  refine lv_iconst (v := 3) hx hb dL_law__240 (by decide) ?_
  refine lv_iadd hx hb dL_law__241 ?_
  refine va_sld hx hb hX hbl hbA hw.S hi3 dL_law__242 ?_
  refine lv_aload_n hx hb dL_law__243 rfl (lv_at hl 0 rfl) ?_
  refine lv_iload hx hb dL_law__244 (lv_at hl 4 rfl) ?_
  refine lv_iconst (v := 4) hx hb dL_law__246 (by decide) ?_
  refine lv_iadd hx hb dL_law__247 ?_
  refine va_sld hx hb hX hbl hbA hw.S hi4 dL_law__248 ?_
  refine lv_aload_n hx hb dL_law__249 rfl (lv_at hl 0 rfl) ?_
  refine lv_iload hx hb dL_law__250 (lv_at hl 4 rfl) ?_
  refine lv_iconst (v := 5) hx hb dL_law__252 (by decide) ?_
  refine lv_iadd hx hb dL_law__253 ?_
  refine va_sld hx hb hX hbl hbA hw.S hi5 dL_law__254 ?_
  obtain ⟨r, S1, S2, hm1, hm2, hJ2⟩ := hob S hJ (xs (Int32.toNatClampNeg (x4 + 1))) (xs (Int32.toNatClampNeg (x4 + 2))) (xs (Int32.toNatClampNeg (x4 + 3))) (xs (Int32.toNatClampNeg (x4 + 4))) (xs (Int32.toNatClampNeg (x4 + 5)))
  refine pw_ci (va_runV (As := [.int (xs (Int32.toNatClampNeg (x4 + 1))), .int (xs (Int32.toNatClampNeg (x4 + 2))), .int (xs (Int32.toNatClampNeg (x4 + 3))), .int (xs (Int32.toNatClampNeg (x4 + 4))), .int (xs (Int32.toNatClampNeg (x4 + 5)))]) (rest := []) ⟨hx, hb, hml, hown, hU⟩ (c_X11_feed l C (XL C ao f) n S hw.wf _ xa (xs (Int32.toNatClampNeg (x4 + 1))) (xs (Int32.toNatClampNeg (x4 + 2))) (xs (Int32.toNatClampNeg (x4 + 3))) (xs (Int32.toNatClampNeg (x4 + 4))) (xs (Int32.toNatClampNeg (x4 + 5))) Tx r S1 hm1) (cwV 5 hU (pq_gV tw415 tw416 tw417 tw1 tc_X11_feed) rfl rfl rfl cd_X11_feed ⟨Nat.le_of_ble_eq_true rfl, Nat.le_of_ble_eq_true rfl⟩) (pw_preV hw Tx (by decide) rfl) rfl rfl hl.1 rfl (lv_room (Nat.le_of_ble_eq_true rfl)) dL_law__255 ⟨by show _ ≤ room_1.cells; omega, by show _ ≤ room_1.slots; omega⟩) hw (fun H locs hw hx1 => ?_)
  have Tm : TY S1 ma 12 := ty_ext hx1 Tm
  refine lv_aload_n hx hb dL_law__258 rfl (lv_at hl 2 rfl) ?_
  refine lv_aload_n hx hb dL_law__259 rfl (lv_at hl 0 rfl) ?_
  refine lv_iload hx hb dL_law__260 (lv_at hl 4 rfl) ?_
  refine lv_iconst (v := 1) hx hb dL_law__262 (by decide) ?_
  refine lv_iadd hx hb dL_law__263 ?_
  refine va_sld hx hb hX hbl hbA hw.S hi1 dL_law__264 ?_
  refine lv_aload_n hx hb dL_law__265 rfl (lv_at hl 0 rfl) ?_
  refine lv_iload hx hb dL_law__266 (lv_at hl 4 rfl) ?_
  refine lv_iconst (v := 2) hx hb dL_law__268 (by decide) ?_
  refine lv_iadd hx hb dL_law__269 ?_
  refine va_sld hx hb hX hbl hbA hw.S hi2 dL_law__270 ?_
  refine lv_aload_n hx hb dL_law__271 rfl (lv_at hl 0 rfl) ?_
  refine lv_iload hx hb dL_law__272 (lv_at hl 4 rfl) ?_
  refine lv_iconst (v := 3) hx hb dL_law__274 (by decide) ?_
  refine lv_iadd hx hb dL_law__275 ?_
  refine va_sld hx hb hX hbl hbA hw.S hi3 dL_law__276 ?_
  refine lv_aload_n hx hb dL_law__277 rfl (lv_at hl 0 rfl) ?_
  refine lv_iload hx hb dL_law__278 (lv_at hl 4 rfl) ?_
  refine lv_iconst (v := 4) hx hb dL_law__280 (by decide) ?_
  refine lv_iadd hx hb dL_law__281 ?_
  refine va_sld hx hb hX hbl hbA hw.S hi4 dL_law__282 ?_
  refine lv_aload_n hx hb dL_law__283 rfl (lv_at hl 0 rfl) ?_
  refine lv_iload hx hb dL_law__284 (lv_at hl 4 rfl) ?_
  refine lv_iconst (v := 5) hx hb dL_law__286 (by decide) ?_
  refine lv_iadd hx hb dL_law__287 ?_
  refine va_sld hx hb hX hbl hbA hw.S hi5 dL_law__288 ?_
  refine pw_ci (va_runV (As := [.int (xs (Int32.toNatClampNeg (x4 + 1))), .int (xs (Int32.toNatClampNeg (x4 + 2))), .int (xs (Int32.toNatClampNeg (x4 + 3))), .int (xs (Int32.toNatClampNeg (x4 + 4))), .int (xs (Int32.toNatClampNeg (x4 + 5)))]) (rest := [.int r]) ⟨hx, hb, hml, hown, hU⟩ (c_X12_feed l C (XL C ao f) n S1 hw.wf _ ma (xs (Int32.toNatClampNeg (x4 + 1))) (xs (Int32.toNatClampNeg (x4 + 2))) (xs (Int32.toNatClampNeg (x4 + 3))) (xs (Int32.toNatClampNeg (x4 + 4))) (xs (Int32.toNatClampNeg (x4 + 5))) Tm r S2 hm2) (cwV 5 hU (pq_gV tw1691 tw1692 tw1693 tw14 tc_X12_feed) rfl rfl rfl cd_X12_feed ⟨Nat.le_of_ble_eq_true rfl, Nat.le_of_ble_eq_true rfl⟩) (pw_preV hw Tm (by decide) rfl) rfl rfl hl.1 rfl (lv_room (Nat.le_of_ble_eq_true rfl)) dL_law__289 ⟨by show _ ≤ room_1.cells; omega, by show _ ≤ room_1.slots; omega⟩) hw (fun H locs hw hx2 => ?_)
  refine lv_icmp_eq (tgt := 3019) hx hb dL_law__292 (by decide) (fun _ => ?_) (fun h9 => absurd rfl h9)
  exact W.widen (by omega) (by omega) (hk S2 f _ _ ls hJ2 hw (lv_sub hl [0, 1, 2, 3, 4] rfl))
set_option maxHeartbeats 4000000 in
set_option maxRecDepth 100000 in
theorem lc_1 {p : Program} {l : Launch} {e : Env} {s : State} {m : MethodId} {below : List Frame} {meth : Method} {c : Code} {b L : Nat} {xs : Nat → Int32} (C0 : lw_At p s m meth c b L xs) (hst : l.stackTraces = false) (C : pq_C) (n xa ma ao : Nat) (J : pq_S → Prop) (hTY : ∀ S, J S → TY S xa 11 ∧ TY S ma 12) (hob : OB_1 n xa ma J) (x4 : Int32) (hi1 : vp_in (x4 + 1) L) (S : pq_S) (f : Nat → Int64) (H : Heap) (locs : List Loc) (ls : Array Slot) (cells slots : Nat) (hJ : J S) (hcc : cells + 200 ≤ room_1.cells) (hss : slots + 8000 ≤ room_1.slots) (hw : PW C (XL C ao f) S (lw_A s) H locs s) (hl : lv_has ls 8 [(0, .ref b), (1, .ref xa), (2, .ref ma), (3, .ref ao), (4, .int x4)]) (hk : ∀ (S2 : pq_S) (f2 : Nat → Int64) (H2 : Heap) (locs2 : List Loc) (ls2 : Array Slot), J S2 → PW C (XL C ao f2) S2 (lw_A s) H2 locs2 s → lv_has ls2 8 [(0, .ref b), (1, .ref xa), (2, .ref ma), (3, .ref ao), (4, .int x4)] → W p l e room_1 s m #[Value.ref b] below meth c H2 locs2 (cells + 200) (slots + 8000) (lw_Z below #[Value.ref b] s) (F0 m 3019 ls2 [])) : W p l e room_1 s m #[Value.ref b] below meth c H locs cells slots (lw_Z below #[Value.ref b] s) (F0 m 297 ls []) := by
  obtain ⟨hx, hb, hr, hml, hown, hts, hX, hbl, hlocks, hgv⟩ := id C0
  have hb : c.code = cL_law_ := hb
  have hown : s.vm.findClass RL = some m.cls := hown
  have hbA : ¬ lw_A s b := Nat.not_le.mpr hbl
  have hU : ∀ w ∈ pq_U, w.before _ s = true := fun w h => hts w (List.mem_filter.mp h).1
  obtain ⟨Tx, Tm⟩ := hTY S hJ
  refine lv_aload_n hx hb dL_law__297 rfl (lv_at hl 1 rfl) ?_
  refine lv_aload_n hx hb dL_law__298 rfl (lv_at hl 0 rfl) ?_
  refine lv_iload hx hb dL_law__299 (lv_at hl 4 rfl) ?_
  refine lv_iconst (v := 1) hx hb dL_law__301 (by decide) ?_
  refine lv_iadd hx hb dL_law__302 ?_
  refine va_sld hx hb hX hbl hbA hw.S hi1 dL_law__303 ?_
  refine lv_aload_n hx hb dL_law__304 rfl (lv_at hl 3 rfl) ?_
  obtain ⟨mc, ms, h1, h2, hm⟩ := hob S f hJ (xs (Int32.toNatClampNeg (x4 + 1)))
  refine vx_calli (vx_runSX (As := [.ref xa, .int (xs (Int32.toNatClampNeg (x4 + 1))), .ref ao]) (rest := []) ⟨hx, hb, hml, hown, hU⟩ (cl_L_coast l C ao f n S hw.wf _ xa (xs (Int32.toNatClampNeg (x4 + 1))) Tx mc ms hst _ hm) (vx_cwSW 3 hU (pq_gS tw478 tw479 tw0 tc_L_coast) rfl rfl rfl cd_L_coast ⟨Nat.le_of_ble_eq_true rfl, Nat.le_of_ble_eq_true rfl⟩) (pw_preS hw) rfl rfl hl.1 rfl (lv_room (Nat.le_of_ble_eq_true rfl)) dL_law__305 ⟨by show _ ≤ room_1.cells; omega, by show _ ≤ room_1.slots; omega⟩) hw.S (fun q _ h => pw_free hw q h) (pw_free hw) (fun q _ h => pw_free hw q h) (fun Es ce q9 u t H1 locs1 ht hvm hpx hB hz1 hk1 hS hce hcv hcl => hpx.elim) (fun k u t H1 locs1 ht hvm hq hB hz1 hk1 hS => ?_)
  obtain ⟨f1, S1⟩ := u
  obtain ⟨hK, hF1, hEx⟩ := hq
  dsimp only at hK hF1 hEx hB
  have hw : PW C (XL C ao f1) S1 (lw_A s) H1 locs1 s := pw_lpost hw ht hvm hF1 hB hS
  obtain ⟨b9, S2, hm2, hth, han, hJ2⟩ := hK
  have Tx : TY S1 xa 11 := ty_ext hEx Tx
  have Tm : TY S1 ma 12 := ty_ext hEx Tm
  refine lv_istore (lv' := [(5, .int k), (0, .ref b), (1, .ref xa), (2, .ref ma), (3, .ref ao), (4, .int x4)]) hx hb dL_law__308 hl (by decide) rfl (fun ls hl => ?_)
  refine lv_aload_n hx hb dL_law__310 rfl (lv_at hl 3 rfl) ?_
  refine lv_aload_n hx hb dL_law__311 rfl (lv_at hl 1 rfl) ?_
  refine lv_iload hx hb dL_law__312 (lv_at hl 5 rfl) ?_
  refine lv_iconst (v := 1) hx hb dL_law__314 (by decide) ?_
  refine lv_iadd hx hb dL_law__315 ?_
  refine va_sld hx hb hX hbl hbA hw.S hi1 dL_law__316 ?_
  refine pw_ci (va_runV (As := [.int (xs (Int32.toNatClampNeg (x4 + 1)))]) (rest := []) ⟨hx, hb, hml, hown, hU⟩ (c_X12_coast l C (XL C ao f1) n S1 hw.wf _ ma (xs (Int32.toNatClampNeg (x4 + 1))) Tm b9 S2 hm2) (cwV 1 hU (pq_gV tw1699 tw1700 tw1701 tw14 tc_X12_coast) rfl rfl rfl cd_X12_coast ⟨Nat.le_of_ble_eq_true rfl, Nat.le_of_ble_eq_true rfl⟩) (pw_preV hw Tm (by decide) rfl) rfl rfl hl.1 rfl (lv_room (Nat.le_of_ble_eq_true rfl)) dL_law__317 ⟨by show _ ≤ room_1.cells; omega, by show _ ≤ room_1.slots; omega⟩) hw (fun H locs hw hx2 => ?_)
  have Tm : TY S2 ma 12 := ty_ext hx2 Tm
  refine lv_istore (lv' := [(6, .int b9), (5, .int k), (0, .ref b), (1, .ref xa), (2, .ref ma), (3, .ref ao), (4, .int x4)]) hx hb dL_law__320 hl (by decide) rfl (fun ls hl => ?_)
  refine lv_aload_n hx hb dL_law__322 rfl (lv_at hl 4 rfl) ?_
  refine pw_ci (va_runV (As := []) (rest := []) ⟨hx, hb, hml, hown, hU⟩ (c_X12_thrown l C (XL C ao f1) n S2 hw.wf _ ma Tm (pI S2 1200 ma) S2 rfl) (cwV 0 hU (pq_gV tw1449 tw1450 tw1451 tw14 tc_X12_thrown) rfl rfl rfl cd_X12_thrown ⟨Nat.le_of_ble_eq_true rfl, Nat.le_of_ble_eq_true rfl⟩) (pw_preV hw Tm (by decide) rfl) rfl rfl hl.1 rfl (lv_room (Nat.le_of_ble_eq_true rfl)) dL_law__323 ⟨by show _ ≤ room_1.cells; omega, by show _ ≤ room_1.slots; omega⟩) hw (fun H locs hw hx3 => ?_)
  refine lv_iload hx hb dL_law__326 (lv_at hl 1 rfl) ?_
  refine lv_icmp_eq (tgt := 333) hx hb dL_law__328 (by decide) (fun _ => ?_) (fun h9 => absurd hth h9)
  refine lv_iload hx hb dL_law__333 (lv_at hl 1 rfl) ?_
  refine lv_if_ne (tgt := 350) hx hb dL_law__335 (by decide) (fun _ => ?_) (fun h9 => ?_)
  · refine lv_goto (tgt := 3019) hx hb dL_law__350 (by decide) ?_
    exact W.widen (by omega) (by omega) (hk S2 f1 _ _ ls hJ2 hw (lv_sub hl [2, 3, 4, 5, 6] rfl))
  · refine lv_aload_n hx hb dL_law__338 rfl (lv_at hl 5 rfl) ?_
    refine lv_iconst (v := 0) hx hb dL_law__339 (by decide) ?_
    refine pw_lald hx hb hw dL_law__340 ?_
    refine lv_iload hx hb dL_law__341 (lv_at hl 0 rfl) ?_
    refine lv_i2l (v := Int32.toInt64 b9) hx hb dL_law__343 rfl ?_
    refine W.lcmp hx hb dL_law__344 ?_
    refine lv_if_eq (tgt := 350) hx hb dL_law__345 (by decide) (fun _ => ?_) (fun h7 => absurd (lw_cmp0 (han h9)) h7)
    refine lv_goto (tgt := 3019) hx hb dL_law__350 (by decide) ?_
    exact W.widen (by omega) (by omega) (hk S2 f1 _ _ ls hJ2 hw (lv_sub hl [2, 3, 4, 5, 6] rfl))
set_option maxHeartbeats 4000000 in
set_option maxRecDepth 100000 in
theorem lc_2 {p : Program} {l : Launch} {e : Env} {s : State} {m : MethodId} {below : List Frame} {meth : Method} {c : Code} {b L : Nat} {xs : Nat → Int32} (C0 : lw_At p s m meth c b L xs) (hst : l.stackTraces = false) (C : pq_C) (n xa ma ao : Nat) (J : pq_S → Prop) (hTY : ∀ S, J S → TY S xa 11 ∧ TY S ma 12) (hob : OB_2 n xa ma J) (x4 : Int32) (hi1 : vp_in (x4 + 1) L) (hi2 : vp_in (x4 + 2) L) (S : pq_S) (f : Nat → Int64) (H : Heap) (locs : List Loc) (ls : Array Slot) (cells slots : Nat) (hJ : J S) (hcc : cells + 200 ≤ room_1.cells) (hss : slots + 8000 ≤ room_1.slots) (hw : PW C (XL C ao f) S (lw_A s) H locs s) (hl : lv_has ls 8 [(0, .ref b), (1, .ref xa), (2, .ref ma), (3, .ref ao), (4, .int x4)]) (hk : ∀ (S2 : pq_S) (f2 : Nat → Int64) (H2 : Heap) (locs2 : List Loc) (ls2 : Array Slot), J S2 → PW C (XL C ao f2) S2 (lw_A s) H2 locs2 s → lv_has ls2 8 [(0, .ref b), (1, .ref xa), (2, .ref ma), (3, .ref ao), (4, .int x4)] → W p l e room_1 s m #[Value.ref b] below meth c H2 locs2 (cells + 200) (slots + 8000) (lw_Z below #[Value.ref b] s) (F0 m 3019 ls2 [])) : W p l e room_1 s m #[Value.ref b] below meth c H locs cells slots (lw_Z below #[Value.ref b] s) (F0 m 353 ls []) := by
  obtain ⟨hx, hb, hr, hml, hown, hts, hX, hbl, hlocks, hgv⟩ := id C0
  have hb : c.code = cL_law_ := hb
  have hown : s.vm.findClass RL = some m.cls := hown
  have hbA : ¬ lw_A s b := Nat.not_le.mpr hbl
  have hU : ∀ w ∈ pq_U, w.before _ s = true := fun w h => hts w (List.mem_filter.mp h).1
  obtain ⟨Tx, Tm⟩ := hTY S hJ
  refine lv_aload_n hx hb dL_law__353 rfl (lv_at hl 1 rfl) ?_
  refine lv_aload_n hx hb dL_law__354 rfl (lv_at hl 0 rfl) ?_
  refine lv_iload hx hb dL_law__355 (lv_at hl 4 rfl) ?_
  refine lv_iconst (v := 1) hx hb dL_law__357 (by decide) ?_
  refine lv_iadd hx hb dL_law__358 ?_
  refine va_sld hx hb hX hbl hbA hw.S hi1 dL_law__359 ?_
  refine lv_aload_n hx hb dL_law__360 rfl (lv_at hl 0 rfl) ?_
  refine lv_iload hx hb dL_law__361 (lv_at hl 4 rfl) ?_
  refine lv_iconst (v := 2) hx hb dL_law__363 (by decide) ?_
  refine lv_iadd hx hb dL_law__364 ?_
  refine va_sld hx hb hX hbl hbA hw.S hi2 dL_law__365 ?_
  refine lv_aload_n hx hb dL_law__366 rfl (lv_at hl 3 rfl) ?_
  obtain ⟨mc, ms, h1, h2, hm⟩ := hob S f hJ (xs (Int32.toNatClampNeg (x4 + 1))) (xs (Int32.toNatClampNeg (x4 + 2)))
  refine vx_calli (vx_runSX (As := [.ref xa, .int (xs (Int32.toNatClampNeg (x4 + 1))), .int (xs (Int32.toNatClampNeg (x4 + 2))), .ref ao]) (rest := []) ⟨hx, hb, hml, hown, hU⟩ (cl_L_law l C ao f n S hw.wf _ xa (xs (Int32.toNatClampNeg (x4 + 1))) (xs (Int32.toNatClampNeg (x4 + 2))) Tx mc ms hst _ hm) (vx_cwSW 4 hU (pq_gS tw730 tw731 tw0 tc_L_law) rfl rfl rfl cd_L_law ⟨Nat.le_of_ble_eq_true rfl, Nat.le_of_ble_eq_true rfl⟩) (pw_preS hw) rfl rfl hl.1 rfl (lv_room (Nat.le_of_ble_eq_true rfl)) dL_law__367 ⟨by show _ ≤ room_1.cells; omega, by show _ ≤ room_1.slots; omega⟩) hw.S (fun q _ h => pw_free hw q h) (pw_free hw) (fun q _ h => pw_free hw q h) (fun Es ce q9 u t H1 locs1 ht hvm hpx hB hz1 hk1 hS hce hcv hcl => hpx.elim) (fun k u t H1 locs1 ht hvm hq hB hz1 hk1 hS => ?_)
  obtain ⟨f1, S1⟩ := u
  obtain ⟨hK, hF1, hEx⟩ := hq
  dsimp only at hK hF1 hEx hB
  have hw : PW C (XL C ao f1) S1 (lw_A s) H1 locs1 s := pw_lpost hw ht hvm hF1 hB hS
  obtain ⟨b9, S2, hm2, hth, han, hJ2⟩ := hK
  have Tx : TY S1 xa 11 := ty_ext hEx Tx
  have Tm : TY S1 ma 12 := ty_ext hEx Tm
  refine lv_istore (lv' := [(5, .int k), (0, .ref b), (1, .ref xa), (2, .ref ma), (3, .ref ao), (4, .int x4)]) hx hb dL_law__370 hl (by decide) rfl (fun ls hl => ?_)
  refine lv_aload_n hx hb dL_law__372 rfl (lv_at hl 3 rfl) ?_
  refine lv_aload_n hx hb dL_law__373 rfl (lv_at hl 1 rfl) ?_
  refine lv_iload hx hb dL_law__374 (lv_at hl 5 rfl) ?_
  refine lv_iconst (v := 1) hx hb dL_law__376 (by decide) ?_
  refine lv_iadd hx hb dL_law__377 ?_
  refine va_sld hx hb hX hbl hbA hw.S hi1 dL_law__378 ?_
  refine lv_aload_n hx hb dL_law__379 rfl (lv_at hl 1 rfl) ?_
  refine lv_iload hx hb dL_law__380 (lv_at hl 5 rfl) ?_
  refine lv_iconst (v := 2) hx hb dL_law__382 (by decide) ?_
  refine lv_iadd hx hb dL_law__383 ?_
  refine va_sld hx hb hX hbl hbA hw.S hi2 dL_law__384 ?_
  refine pw_ci (va_runV (As := [.int (xs (Int32.toNatClampNeg (x4 + 1))), .int (xs (Int32.toNatClampNeg (x4 + 2)))]) (rest := []) ⟨hx, hb, hml, hown, hU⟩ (c_X12_law l C (XL C ao f1) n S1 hw.wf _ ma (xs (Int32.toNatClampNeg (x4 + 1))) (xs (Int32.toNatClampNeg (x4 + 2))) Tm b9 S2 hm2) (cwV 2 hU (pq_gV tw1772 tw1773 tw1774 tw14 tc_X12_law) rfl rfl rfl cd_X12_law ⟨Nat.le_of_ble_eq_true rfl, Nat.le_of_ble_eq_true rfl⟩) (pw_preV hw Tm (by decide) rfl) rfl rfl hl.1 rfl (lv_room (Nat.le_of_ble_eq_true rfl)) dL_law__385 ⟨by show _ ≤ room_1.cells; omega, by show _ ≤ room_1.slots; omega⟩) hw (fun H locs hw hx2 => ?_)
  have Tm : TY S2 ma 12 := ty_ext hx2 Tm
  refine lv_istore (lv' := [(6, .int b9), (5, .int k), (0, .ref b), (1, .ref xa), (2, .ref ma), (3, .ref ao), (4, .int x4)]) hx hb dL_law__388 hl (by decide) rfl (fun ls hl => ?_)
  refine lv_aload_n hx hb dL_law__390 rfl (lv_at hl 4 rfl) ?_
  refine pw_ci (va_runV (As := []) (rest := []) ⟨hx, hb, hml, hown, hU⟩ (c_X12_thrown l C (XL C ao f1) n S2 hw.wf _ ma Tm (pI S2 1200 ma) S2 rfl) (cwV 0 hU (pq_gV tw1449 tw1450 tw1451 tw14 tc_X12_thrown) rfl rfl rfl cd_X12_thrown ⟨Nat.le_of_ble_eq_true rfl, Nat.le_of_ble_eq_true rfl⟩) (pw_preV hw Tm (by decide) rfl) rfl rfl hl.1 rfl (lv_room (Nat.le_of_ble_eq_true rfl)) dL_law__391 ⟨by show _ ≤ room_1.cells; omega, by show _ ≤ room_1.slots; omega⟩) hw (fun H locs hw hx3 => ?_)
  refine lv_iload hx hb dL_law__394 (lv_at hl 1 rfl) ?_
  refine lv_icmp_eq (tgt := 401) hx hb dL_law__396 (by decide) (fun _ => ?_) (fun h9 => absurd hth h9)
  refine lv_iload hx hb dL_law__401 (lv_at hl 1 rfl) ?_
  refine lv_if_ne (tgt := 418) hx hb dL_law__403 (by decide) (fun _ => ?_) (fun h9 => ?_)
  · refine lv_goto (tgt := 3019) hx hb dL_law__418 (by decide) ?_
    exact W.widen (by omega) (by omega) (hk S2 f1 _ _ ls hJ2 hw (lv_sub hl [2, 3, 4, 5, 6] rfl))
  · refine lv_aload_n hx hb dL_law__406 rfl (lv_at hl 5 rfl) ?_
    refine lv_iconst (v := 0) hx hb dL_law__407 (by decide) ?_
    refine pw_lald hx hb hw dL_law__408 ?_
    refine lv_iload hx hb dL_law__409 (lv_at hl 0 rfl) ?_
    refine lv_i2l (v := Int32.toInt64 b9) hx hb dL_law__411 rfl ?_
    refine W.lcmp hx hb dL_law__412 ?_
    refine lv_if_eq (tgt := 418) hx hb dL_law__413 (by decide) (fun _ => ?_) (fun h7 => absurd (lw_cmp0 (han h9)) h7)
    refine lv_goto (tgt := 3019) hx hb dL_law__418 (by decide) ?_
    exact W.widen (by omega) (by omega) (hk S2 f1 _ _ ls hJ2 hw (lv_sub hl [2, 3, 4, 5, 6] rfl))
set_option maxHeartbeats 4000000 in
set_option maxRecDepth 100000 in
theorem lc_3 {p : Program} {l : Launch} {e : Env} {s : State} {m : MethodId} {below : List Frame} {meth : Method} {c : Code} {b L : Nat} {xs : Nat → Int32} (C0 : lw_At p s m meth c b L xs) (hst : l.stackTraces = false) (C : pq_C) (n xa ma ao : Nat) (J : pq_S → Prop) (hTY : ∀ S, J S → TY S xa 11 ∧ TY S ma 12) (hob : OB_3 n xa ma J) (x4 : Int32) (hi1 : vp_in (x4 + 1) L) (S : pq_S) (f : Nat → Int64) (H : Heap) (locs : List Loc) (ls : Array Slot) (cells slots : Nat) (hJ : J S) (hcc : cells + 200 ≤ room_1.cells) (hss : slots + 8000 ≤ room_1.slots) (hw : PW C (XL C ao f) S (lw_A s) H locs s) (hl : lv_has ls 8 [(0, .ref b), (1, .ref xa), (2, .ref ma), (3, .ref ao), (4, .int x4)]) (hk : ∀ (S2 : pq_S) (f2 : Nat → Int64) (H2 : Heap) (locs2 : List Loc) (ls2 : Array Slot), J S2 → PW C (XL C ao f2) S2 (lw_A s) H2 locs2 s → lv_has ls2 8 [(0, .ref b), (1, .ref xa), (2, .ref ma), (3, .ref ao), (4, .int x4)] → W p l e room_1 s m #[Value.ref b] below meth c H2 locs2 (cells + 200) (slots + 8000) (lw_Z below #[Value.ref b] s) (F0 m 3019 ls2 [])) : W p l e room_1 s m #[Value.ref b] below meth c H locs cells slots (lw_Z below #[Value.ref b] s) (F0 m 421 ls []) := by
  obtain ⟨hx, hb, hr, hml, hown, hts, hX, hbl, hlocks, hgv⟩ := id C0
  have hb : c.code = cL_law_ := hb
  have hown : s.vm.findClass RL = some m.cls := hown
  have hbA : ¬ lw_A s b := Nat.not_le.mpr hbl
  have hU : ∀ w ∈ pq_U, w.before _ s = true := fun w h => hts w (List.mem_filter.mp h).1
  obtain ⟨Tx, Tm⟩ := hTY S hJ
  refine lv_aload_n hx hb dL_law__421 rfl (lv_at hl 1 rfl) ?_
  refine lv_aload_n hx hb dL_law__422 rfl (lv_at hl 0 rfl) ?_
  refine lv_iload hx hb dL_law__423 (lv_at hl 4 rfl) ?_
  refine lv_iconst (v := 1) hx hb dL_law__425 (by decide) ?_
  refine lv_iadd hx hb dL_law__426 ?_
  refine va_sld hx hb hX hbl hbA hw.S hi1 dL_law__427 ?_
  refine lv_aload_n hx hb dL_law__428 rfl (lv_at hl 3 rfl) ?_
  obtain ⟨mc, ms, h1, h2, hm⟩ := hob S f hJ (xs (Int32.toNatClampNeg (x4 + 1)))
  refine vx_calli (vx_runSX (As := [.ref xa, .int (xs (Int32.toNatClampNeg (x4 + 1))), .ref ao]) (rest := []) ⟨hx, hb, hml, hown, hU⟩ (cl_L_work l C ao f n S hw.wf _ xa (xs (Int32.toNatClampNeg (x4 + 1))) Tx mc ms hst _ hm) (vx_cwSW 3 hU (pq_gS tw794 tw795 tw0 tc_L_work) rfl rfl rfl cd_L_work ⟨Nat.le_of_ble_eq_true rfl, Nat.le_of_ble_eq_true rfl⟩) (pw_preS hw) rfl rfl hl.1 rfl (lv_room (Nat.le_of_ble_eq_true rfl)) dL_law__429 ⟨by show _ ≤ room_1.cells; omega, by show _ ≤ room_1.slots; omega⟩) hw.S (fun q _ h => pw_free hw q h) (pw_free hw) (fun q _ h => pw_free hw q h) (fun Es ce q9 u t H1 locs1 ht hvm hpx hB hz1 hk1 hS hce hcv hcl => hpx.elim) (fun k u t H1 locs1 ht hvm hq hB hz1 hk1 hS => ?_)
  obtain ⟨f1, S1⟩ := u
  obtain ⟨hK, hF1, hEx⟩ := hq
  dsimp only at hK hF1 hEx hB
  have hw : PW C (XL C ao f1) S1 (lw_A s) H1 locs1 s := pw_lpost hw ht hvm hF1 hB hS
  obtain ⟨b9, S2, hm2, hth, han, hJ2⟩ := hK
  have Tx : TY S1 xa 11 := ty_ext hEx Tx
  have Tm : TY S1 ma 12 := ty_ext hEx Tm
  refine lv_istore (lv' := [(5, .int k), (0, .ref b), (1, .ref xa), (2, .ref ma), (3, .ref ao), (4, .int x4)]) hx hb dL_law__432 hl (by decide) rfl (fun ls hl => ?_)
  refine lv_aload_n hx hb dL_law__434 rfl (lv_at hl 3 rfl) ?_
  refine lv_aload_n hx hb dL_law__435 rfl (lv_at hl 1 rfl) ?_
  refine lv_iload hx hb dL_law__436 (lv_at hl 5 rfl) ?_
  refine lv_iconst (v := 1) hx hb dL_law__438 (by decide) ?_
  refine lv_iadd hx hb dL_law__439 ?_
  refine va_sld hx hb hX hbl hbA hw.S hi1 dL_law__440 ?_
  refine pw_ci (va_runV (As := [.int (xs (Int32.toNatClampNeg (x4 + 1)))]) (rest := []) ⟨hx, hb, hml, hown, hU⟩ (c_X12_work l C (XL C ao f1) n S1 hw.wf _ ma (xs (Int32.toNatClampNeg (x4 + 1))) Tm b9 S2 hm2) (cwV 1 hU (pq_gV tw1816 tw1817 tw1818 tw14 tc_X12_work) rfl rfl rfl cd_X12_work ⟨Nat.le_of_ble_eq_true rfl, Nat.le_of_ble_eq_true rfl⟩) (pw_preV hw Tm (by decide) rfl) rfl rfl hl.1 rfl (lv_room (Nat.le_of_ble_eq_true rfl)) dL_law__441 ⟨by show _ ≤ room_1.cells; omega, by show _ ≤ room_1.slots; omega⟩) hw (fun H locs hw hx2 => ?_)
  have Tm : TY S2 ma 12 := ty_ext hx2 Tm
  refine lv_istore (lv' := [(6, .int b9), (5, .int k), (0, .ref b), (1, .ref xa), (2, .ref ma), (3, .ref ao), (4, .int x4)]) hx hb dL_law__444 hl (by decide) rfl (fun ls hl => ?_)
  refine lv_aload_n hx hb dL_law__446 rfl (lv_at hl 4 rfl) ?_
  refine pw_ci (va_runV (As := []) (rest := []) ⟨hx, hb, hml, hown, hU⟩ (c_X12_thrown l C (XL C ao f1) n S2 hw.wf _ ma Tm (pI S2 1200 ma) S2 rfl) (cwV 0 hU (pq_gV tw1449 tw1450 tw1451 tw14 tc_X12_thrown) rfl rfl rfl cd_X12_thrown ⟨Nat.le_of_ble_eq_true rfl, Nat.le_of_ble_eq_true rfl⟩) (pw_preV hw Tm (by decide) rfl) rfl rfl hl.1 rfl (lv_room (Nat.le_of_ble_eq_true rfl)) dL_law__447 ⟨by show _ ≤ room_1.cells; omega, by show _ ≤ room_1.slots; omega⟩) hw (fun H locs hw hx3 => ?_)
  refine lv_iload hx hb dL_law__450 (lv_at hl 1 rfl) ?_
  refine lv_icmp_eq (tgt := 457) hx hb dL_law__452 (by decide) (fun _ => ?_) (fun h9 => absurd hth h9)
  refine lv_iload hx hb dL_law__457 (lv_at hl 1 rfl) ?_
  refine lv_if_ne (tgt := 474) hx hb dL_law__459 (by decide) (fun _ => ?_) (fun h9 => ?_)
  · refine lv_goto (tgt := 3019) hx hb dL_law__474 (by decide) ?_
    exact W.widen (by omega) (by omega) (hk S2 f1 _ _ ls hJ2 hw (lv_sub hl [2, 3, 4, 5, 6] rfl))
  · refine lv_aload_n hx hb dL_law__462 rfl (lv_at hl 5 rfl) ?_
    refine lv_iconst (v := 0) hx hb dL_law__463 (by decide) ?_
    refine pw_lald hx hb hw dL_law__464 ?_
    refine lv_iload hx hb dL_law__465 (lv_at hl 0 rfl) ?_
    refine lv_i2l (v := Int32.toInt64 b9) hx hb dL_law__467 rfl ?_
    refine W.lcmp hx hb dL_law__468 ?_
    refine lv_if_eq (tgt := 474) hx hb dL_law__469 (by decide) (fun _ => ?_) (fun h7 => absurd (lw_cmp0 (han h9)) h7)
    refine lv_goto (tgt := 3019) hx hb dL_law__474 (by decide) ?_
    exact W.widen (by omega) (by omega) (hk S2 f1 _ _ ls hJ2 hw (lv_sub hl [2, 3, 4, 5, 6] rfl))
set_option maxHeartbeats 4000000 in
set_option maxRecDepth 100000 in
theorem lc_4 {p : Program} {l : Launch} {e : Env} {s : State} {m : MethodId} {below : List Frame} {meth : Method} {c : Code} {b L : Nat} {xs : Nat → Int32} (C0 : lw_At p s m meth c b L xs) (hst : l.stackTraces = false) (C : pq_C) (n xa ma ao : Nat) (J : pq_S → Prop) (hTY : ∀ S, J S → TY S xa 11 ∧ TY S ma 12) (hob : OB_4 n xa ma J) (x4 : Int32) (hi1 : vp_in (x4 + 1) L) (S : pq_S) (f : Nat → Int64) (H : Heap) (locs : List Loc) (ls : Array Slot) (cells slots : Nat) (hJ : J S) (hcc : cells + 200 ≤ room_1.cells) (hss : slots + 8000 ≤ room_1.slots) (hw : PW C (XL C ao f) S (lw_A s) H locs s) (hl : lv_has ls 8 [(0, .ref b), (1, .ref xa), (2, .ref ma), (3, .ref ao), (4, .int x4)]) (hk : ∀ (S2 : pq_S) (f2 : Nat → Int64) (H2 : Heap) (locs2 : List Loc) (ls2 : Array Slot), J S2 → PW C (XL C ao f2) S2 (lw_A s) H2 locs2 s → lv_has ls2 8 [(0, .ref b), (1, .ref xa), (2, .ref ma), (3, .ref ao), (4, .int x4)] → W p l e room_1 s m #[Value.ref b] below meth c H2 locs2 (cells + 200) (slots + 8000) (lw_Z below #[Value.ref b] s) (F0 m 3019 ls2 [])) : W p l e room_1 s m #[Value.ref b] below meth c H locs cells slots (lw_Z below #[Value.ref b] s) (F0 m 477 ls []) := by
  obtain ⟨hx, hb, hr, hml, hown, hts, hX, hbl, hlocks, hgv⟩ := id C0
  have hb : c.code = cL_law_ := hb
  have hown : s.vm.findClass RL = some m.cls := hown
  have hbA : ¬ lw_A s b := Nat.not_le.mpr hbl
  have hU : ∀ w ∈ pq_U, w.before _ s = true := fun w h => hts w (List.mem_filter.mp h).1
  obtain ⟨Tx, Tm⟩ := hTY S hJ
  refine lv_aload_n hx hb dL_law__477 rfl (lv_at hl 1 rfl) ?_
  refine lv_aload_n hx hb dL_law__478 rfl (lv_at hl 0 rfl) ?_
  refine lv_iload hx hb dL_law__479 (lv_at hl 4 rfl) ?_
  refine lv_iconst (v := 1) hx hb dL_law__481 (by decide) ?_
  refine lv_iadd hx hb dL_law__482 ?_
  refine va_sld hx hb hX hbl hbA hw.S hi1 dL_law__483 ?_
  refine lv_aload_n hx hb dL_law__484 rfl (lv_at hl 3 rfl) ?_
  obtain ⟨mc, ms, h1, h2, hm⟩ := hob S f hJ (xs (Int32.toNatClampNeg (x4 + 1)))
  refine vx_calli (vx_runSX (As := [.ref xa, .int (xs (Int32.toNatClampNeg (x4 + 1))), .ref ao]) (rest := []) ⟨hx, hb, hml, hown, hU⟩ (cl_L_book l C ao f n S hw.wf _ xa (xs (Int32.toNatClampNeg (x4 + 1))) Tx mc ms hst _ hm) (vx_cwSW 3 hU (pq_gS tw950 tw951 tw0 tc_L_book) rfl rfl rfl cd_L_book ⟨Nat.le_of_ble_eq_true rfl, Nat.le_of_ble_eq_true rfl⟩) (pw_preS hw) rfl rfl hl.1 rfl (lv_room (Nat.le_of_ble_eq_true rfl)) dL_law__485 ⟨by show _ ≤ room_1.cells; omega, by show _ ≤ room_1.slots; omega⟩) hw.S (fun q _ h => pw_free hw q h) (pw_free hw) (fun q _ h => pw_free hw q h) (fun Es ce q9 u t H1 locs1 ht hvm hpx hB hz1 hk1 hS hce hcv hcl => hpx.elim) (fun k u t H1 locs1 ht hvm hq hB hz1 hk1 hS => ?_)
  obtain ⟨f1, S1⟩ := u
  obtain ⟨hK, hF1, hEx⟩ := hq
  dsimp only at hK hF1 hEx hB
  have hw : PW C (XL C ao f1) S1 (lw_A s) H1 locs1 s := pw_lpost hw ht hvm hF1 hB hS
  obtain ⟨b9, S2, hm2, hth, han, hJ2⟩ := hK
  have Tx : TY S1 xa 11 := ty_ext hEx Tx
  have Tm : TY S1 ma 12 := ty_ext hEx Tm
  refine lv_istore (lv' := [(5, .int k), (0, .ref b), (1, .ref xa), (2, .ref ma), (3, .ref ao), (4, .int x4)]) hx hb dL_law__488 hl (by decide) rfl (fun ls hl => ?_)
  refine lv_aload_n hx hb dL_law__490 rfl (lv_at hl 3 rfl) ?_
  refine lv_aload_n hx hb dL_law__491 rfl (lv_at hl 1 rfl) ?_
  refine lv_iload hx hb dL_law__492 (lv_at hl 5 rfl) ?_
  refine lv_iconst (v := 1) hx hb dL_law__494 (by decide) ?_
  refine lv_iadd hx hb dL_law__495 ?_
  refine va_sld hx hb hX hbl hbA hw.S hi1 dL_law__496 ?_
  refine pw_ci (va_runV (As := [.int (xs (Int32.toNatClampNeg (x4 + 1)))]) (rest := []) ⟨hx, hb, hml, hown, hU⟩ (c_X12_book l C (XL C ao f1) n S1 hw.wf _ ma (xs (Int32.toNatClampNeg (x4 + 1))) Tm b9 S2 hm2) (cwV 1 hU (pq_gV tw1898 tw1899 tw1900 tw14 tc_X12_book) rfl rfl rfl cd_X12_book ⟨Nat.le_of_ble_eq_true rfl, Nat.le_of_ble_eq_true rfl⟩) (pw_preV hw Tm (by decide) rfl) rfl rfl hl.1 rfl (lv_room (Nat.le_of_ble_eq_true rfl)) dL_law__497 ⟨by show _ ≤ room_1.cells; omega, by show _ ≤ room_1.slots; omega⟩) hw (fun H locs hw hx2 => ?_)
  have Tm : TY S2 ma 12 := ty_ext hx2 Tm
  refine lv_istore (lv' := [(6, .int b9), (5, .int k), (0, .ref b), (1, .ref xa), (2, .ref ma), (3, .ref ao), (4, .int x4)]) hx hb dL_law__500 hl (by decide) rfl (fun ls hl => ?_)
  refine lv_aload_n hx hb dL_law__502 rfl (lv_at hl 4 rfl) ?_
  refine pw_ci (va_runV (As := []) (rest := []) ⟨hx, hb, hml, hown, hU⟩ (c_X12_thrown l C (XL C ao f1) n S2 hw.wf _ ma Tm (pI S2 1200 ma) S2 rfl) (cwV 0 hU (pq_gV tw1449 tw1450 tw1451 tw14 tc_X12_thrown) rfl rfl rfl cd_X12_thrown ⟨Nat.le_of_ble_eq_true rfl, Nat.le_of_ble_eq_true rfl⟩) (pw_preV hw Tm (by decide) rfl) rfl rfl hl.1 rfl (lv_room (Nat.le_of_ble_eq_true rfl)) dL_law__503 ⟨by show _ ≤ room_1.cells; omega, by show _ ≤ room_1.slots; omega⟩) hw (fun H locs hw hx3 => ?_)
  refine lv_iload hx hb dL_law__506 (lv_at hl 1 rfl) ?_
  refine lv_icmp_eq (tgt := 513) hx hb dL_law__508 (by decide) (fun _ => ?_) (fun h9 => absurd hth h9)
  refine lv_iload hx hb dL_law__513 (lv_at hl 1 rfl) ?_
  refine lv_if_ne (tgt := 530) hx hb dL_law__515 (by decide) (fun _ => ?_) (fun h9 => ?_)
  · refine lv_goto (tgt := 3019) hx hb dL_law__530 (by decide) ?_
    exact W.widen (by omega) (by omega) (hk S2 f1 _ _ ls hJ2 hw (lv_sub hl [2, 3, 4, 5, 6] rfl))
  · refine lv_aload_n hx hb dL_law__518 rfl (lv_at hl 5 rfl) ?_
    refine lv_iconst (v := 0) hx hb dL_law__519 (by decide) ?_
    refine pw_lald hx hb hw dL_law__520 ?_
    refine lv_iload hx hb dL_law__521 (lv_at hl 0 rfl) ?_
    refine lv_i2l (v := Int32.toInt64 b9) hx hb dL_law__523 rfl ?_
    refine W.lcmp hx hb dL_law__524 ?_
    refine lv_if_eq (tgt := 530) hx hb dL_law__525 (by decide) (fun _ => ?_) (fun h7 => absurd (lw_cmp0 (han h9)) h7)
    refine lv_goto (tgt := 3019) hx hb dL_law__530 (by decide) ?_
    exact W.widen (by omega) (by omega) (hk S2 f1 _ _ ls hJ2 hw (lv_sub hl [2, 3, 4, 5, 6] rfl))
set_option maxHeartbeats 4000000 in
set_option maxRecDepth 100000 in
theorem lc_5 {p : Program} {l : Launch} {e : Env} {s : State} {m : MethodId} {below : List Frame} {meth : Method} {c : Code} {b L : Nat} {xs : Nat → Int32} (C0 : lw_At p s m meth c b L xs) (hst : l.stackTraces = false) (C : pq_C) (n xa ma ao : Nat) (J : pq_S → Prop) (hTY : ∀ S, J S → TY S xa 11 ∧ TY S ma 12) (hob : OB_5 n xa ma J) (x4 : Int32)  (S : pq_S) (f : Nat → Int64) (H : Heap) (locs : List Loc) (ls : Array Slot) (cells slots : Nat) (hJ : J S) (hcc : cells + 200 ≤ room_1.cells) (hss : slots + 8000 ≤ room_1.slots) (hw : PW C (XL C ao f) S (lw_A s) H locs s) (hl : lv_has ls 8 [(0, .ref b), (1, .ref xa), (2, .ref ma), (3, .ref ao), (4, .int x4)]) (hk : ∀ (S2 : pq_S) (f2 : Nat → Int64) (H2 : Heap) (locs2 : List Loc) (ls2 : Array Slot), J S2 → PW C (XL C ao f2) S2 (lw_A s) H2 locs2 s → lv_has ls2 8 [(0, .ref b), (1, .ref xa), (2, .ref ma), (3, .ref ao), (4, .int x4)] → W p l e room_1 s m #[Value.ref b] below meth c H2 locs2 (cells + 200) (slots + 8000) (lw_Z below #[Value.ref b] s) (F0 m 3019 ls2 [])) : W p l e room_1 s m #[Value.ref b] below meth c H locs cells slots (lw_Z below #[Value.ref b] s) (F0 m 533 ls []) := by
  obtain ⟨hx, hb, hr, hml, hown, hts, hX, hbl, hlocks, hgv⟩ := id C0
  have hb : c.code = cL_law_ := hb
  have hown : s.vm.findClass RL = some m.cls := hown
  have hbA : ¬ lw_A s b := Nat.not_le.mpr hbl
  have hU : ∀ w ∈ pq_U, w.before _ s = true := fun w h => hts w (List.mem_filter.mp h).1
  obtain ⟨Tx, Tm⟩ := hTY S hJ
  refine lv_aload_n hx hb dL_law__533 rfl (lv_at hl 1 rfl) ?_
  obtain ⟨r, S1, S2, hm1, hm2, hJ2⟩ := hob S hJ
  refine pw_ci (va_runV (As := []) (rest := []) ⟨hx, hb, hml, hown, hU⟩ (c_X11_fault l C (XL C ao f) n S hw.wf _ xa  Tx r S1 hm1) (cwV 0 hU (pq_gV tw423 tw424 tw425 tw1 tc_X11_fault) rfl rfl rfl cd_X11_fault ⟨Nat.le_of_ble_eq_true rfl, Nat.le_of_ble_eq_true rfl⟩) (pw_preV hw Tx (by decide) rfl) rfl rfl hl.1 rfl (lv_room (Nat.le_of_ble_eq_true rfl)) dL_law__534 ⟨by show _ ≤ room_1.cells; omega, by show _ ≤ room_1.slots; omega⟩) hw (fun H locs hw hx1 => ?_)
  have Tm : TY S1 ma 12 := ty_ext hx1 Tm
  refine lv_aload_n hx hb dL_law__537 rfl (lv_at hl 2 rfl) ?_
  refine pw_ci (va_runV (As := []) (rest := [.int r]) ⟨hx, hb, hml, hown, hU⟩ (c_X12_fault l C (XL C ao f) n S1 hw.wf _ ma  Tm r S2 hm2) (cwV 0 hU (pq_gV tw1695 tw1696 tw1697 tw14 tc_X12_fault) rfl rfl rfl cd_X12_fault ⟨Nat.le_of_ble_eq_true rfl, Nat.le_of_ble_eq_true rfl⟩) (pw_preV hw Tm (by decide) rfl) rfl rfl hl.1 rfl (lv_room (Nat.le_of_ble_eq_true rfl)) dL_law__538 ⟨by show _ ≤ room_1.cells; omega, by show _ ≤ room_1.slots; omega⟩) hw (fun H locs hw hx2 => ?_)
  refine lv_icmp_eq (tgt := 3019) hx hb dL_law__541 (by decide) (fun _ => ?_) (fun h9 => absurd rfl h9)
  exact W.widen (by omega) (by omega) (hk S2 f _ _ ls hJ2 hw (lv_sub hl [0, 1, 2, 3, 4] rfl))
set_option maxHeartbeats 4000000 in
set_option maxRecDepth 100000 in
theorem lc_6 {p : Program} {l : Launch} {e : Env} {s : State} {m : MethodId} {below : List Frame} {meth : Method} {c : Code} {b L : Nat} {xs : Nat → Int32} (C0 : lw_At p s m meth c b L xs) (hst : l.stackTraces = false) (C : pq_C) (n xa ma ao : Nat) (J : pq_S → Prop) (hTY : ∀ S, J S → TY S xa 11 ∧ TY S ma 12) (hob : OB_6 n xa ma J) (x4 : Int32)  (S : pq_S) (f : Nat → Int64) (H : Heap) (locs : List Loc) (ls : Array Slot) (cells slots : Nat) (hJ : J S) (hcc : cells + 200 ≤ room_1.cells) (hss : slots + 8000 ≤ room_1.slots) (hw : PW C (XL C ao f) S (lw_A s) H locs s) (hl : lv_has ls 8 [(0, .ref b), (1, .ref xa), (2, .ref ma), (3, .ref ao), (4, .int x4)]) (hk : ∀ (S2 : pq_S) (f2 : Nat → Int64) (H2 : Heap) (locs2 : List Loc) (ls2 : Array Slot), J S2 → PW C (XL C ao f2) S2 (lw_A s) H2 locs2 s → lv_has ls2 8 [(0, .ref b), (1, .ref xa), (2, .ref ma), (3, .ref ao), (4, .int x4)] → W p l e room_1 s m #[Value.ref b] below meth c H2 locs2 (cells + 200) (slots + 8000) (lw_Z below #[Value.ref b] s) (F0 m 3019 ls2 [])) : W p l e room_1 s m #[Value.ref b] below meth c H locs cells slots (lw_Z below #[Value.ref b] s) (F0 m 546 ls []) := by
  obtain ⟨hx, hb, hr, hml, hown, hts, hX, hbl, hlocks, hgv⟩ := id C0
  have hb : c.code = cL_law_ := hb
  have hown : s.vm.findClass RL = some m.cls := hown
  have hbA : ¬ lw_A s b := Nat.not_le.mpr hbl
  have hU : ∀ w ∈ pq_U, w.before _ s = true := fun w h => hts w (List.mem_filter.mp h).1
  obtain ⟨Tx, Tm⟩ := hTY S hJ
  refine lv_aload_n hx hb dL_law__546 rfl (lv_at hl 1 rfl) ?_
  obtain ⟨r, S1, S2, hm1, hm2, hJ2⟩ := hob S hJ
  refine pw_ci (va_runV (As := []) (rest := []) ⟨hx, hb, hml, hown, hU⟩ (c_X11_undo l C (XL C ao f) n S hw.wf _ xa  Tx r S1 hm1) (cwV 0 hU (pq_gV tw427 tw428 tw429 tw1 tc_X11_undo) rfl rfl rfl cd_X11_undo ⟨Nat.le_of_ble_eq_true rfl, Nat.le_of_ble_eq_true rfl⟩) (pw_preV hw Tx (by decide) rfl) rfl rfl hl.1 rfl (lv_room (Nat.le_of_ble_eq_true rfl)) dL_law__547 ⟨by show _ ≤ room_1.cells; omega, by show _ ≤ room_1.slots; omega⟩) hw (fun H locs hw hx1 => ?_)
  have Tm : TY S1 ma 12 := ty_ext hx1 Tm
  refine lv_aload_n hx hb dL_law__550 rfl (lv_at hl 2 rfl) ?_
  refine pw_ci (va_runV (As := []) (rest := [.int r]) ⟨hx, hb, hml, hown, hU⟩ (c_X12_undo l C (XL C ao f) n S1 hw.wf _ ma  Tm r S2 hm2) (cwV 0 hU (pq_gV tw1902 tw1903 tw1904 tw14 tc_X12_undo) rfl rfl rfl cd_X12_undo ⟨Nat.le_of_ble_eq_true rfl, Nat.le_of_ble_eq_true rfl⟩) (pw_preV hw Tm (by decide) rfl) rfl rfl hl.1 rfl (lv_room (Nat.le_of_ble_eq_true rfl)) dL_law__551 ⟨by show _ ≤ room_1.cells; omega, by show _ ≤ room_1.slots; omega⟩) hw (fun H locs hw hx2 => ?_)
  refine lv_icmp_eq (tgt := 3019) hx hb dL_law__554 (by decide) (fun _ => ?_) (fun h9 => absurd rfl h9)
  exact W.widen (by omega) (by omega) (hk S2 f _ _ ls hJ2 hw (lv_sub hl [0, 1, 2, 3, 4] rfl))
set_option maxHeartbeats 4000000 in
set_option maxRecDepth 100000 in
theorem lc_7 {p : Program} {l : Launch} {e : Env} {s : State} {m : MethodId} {below : List Frame} {meth : Method} {c : Code} {b L : Nat} {xs : Nat → Int32} (C0 : lw_At p s m meth c b L xs) (hst : l.stackTraces = false) (C : pq_C) (n xa ma ao : Nat) (J : pq_S → Prop) (hTY : ∀ S, J S → TY S xa 11 ∧ TY S ma 12) (hob : OB_7 n xa ma J) (x4 : Int32) (hi1 : vp_in (x4 + 1) L) (S : pq_S) (f : Nat → Int64) (H : Heap) (locs : List Loc) (ls : Array Slot) (cells slots : Nat) (hJ : J S) (hcc : cells + 200 ≤ room_1.cells) (hss : slots + 8000 ≤ room_1.slots) (hw : PW C (XL C ao f) S (lw_A s) H locs s) (hl : lv_has ls 8 [(0, .ref b), (1, .ref xa), (2, .ref ma), (3, .ref ao), (4, .int x4)]) (hk : ∀ (S2 : pq_S) (f2 : Nat → Int64) (H2 : Heap) (locs2 : List Loc) (ls2 : Array Slot), J S2 → PW C (XL C ao f2) S2 (lw_A s) H2 locs2 s → lv_has ls2 8 [(0, .ref b), (1, .ref xa), (2, .ref ma), (3, .ref ao), (4, .int x4)] → W p l e room_1 s m #[Value.ref b] below meth c H2 locs2 (cells + 200) (slots + 8000) (lw_Z below #[Value.ref b] s) (F0 m 3019 ls2 [])) : W p l e room_1 s m #[Value.ref b] below meth c H locs cells slots (lw_Z below #[Value.ref b] s) (F0 m 559 ls []) := by
  obtain ⟨hx, hb, hr, hml, hown, hts, hX, hbl, hlocks, hgv⟩ := id C0
  have hb : c.code = cL_law_ := hb
  have hown : s.vm.findClass RL = some m.cls := hown
  have hbA : ¬ lw_A s b := Nat.not_le.mpr hbl
  have hU : ∀ w ∈ pq_U, w.before _ s = true := fun w h => hts w (List.mem_filter.mp h).1
  obtain ⟨Tx, Tm⟩ := hTY S hJ
  refine lv_aload_n hx hb dL_law__559 rfl (lv_at hl 1 rfl) ?_
  refine lv_aload_n hx hb dL_law__560 rfl (lv_at hl 0 rfl) ?_
  refine lv_iload hx hb dL_law__561 (lv_at hl 4 rfl) ?_
  refine lv_iconst (v := 1) hx hb dL_law__563 (by decide) ?_
  refine lv_iadd hx hb dL_law__564 ?_
  refine va_sld hx hb hX hbl hbA hw.S hi1 dL_law__565 ?_
  refine lv_aload_n hx hb dL_law__566 rfl (lv_at hl 3 rfl) ?_
  obtain ⟨mc, ms, h1, h2, hm⟩ := hob S f hJ (xs (Int32.toNatClampNeg (x4 + 1)))
  refine vx_calli (vx_runSX (As := [.ref xa, .int (xs (Int32.toNatClampNeg (x4 + 1))), .ref ao]) (rest := []) ⟨hx, hb, hml, hown, hU⟩ (cl_L_told l C ao f n S hw.wf _ xa (xs (Int32.toNatClampNeg (x4 + 1))) Tx mc ms hst _ hm) (vx_cwSW 3 hU (pq_gS tw977 tw978 tw0 tc_L_told) rfl rfl rfl cd_L_told ⟨Nat.le_of_ble_eq_true rfl, Nat.le_of_ble_eq_true rfl⟩) (pw_preS hw) rfl rfl hl.1 rfl (lv_room (Nat.le_of_ble_eq_true rfl)) dL_law__567 ⟨by show _ ≤ room_1.cells; omega, by show _ ≤ room_1.slots; omega⟩) hw.S (fun q _ h => pw_free hw q h) (pw_free hw) (fun q _ h => pw_free hw q h) (fun Es ce q9 u t H1 locs1 ht hvm hpx hB hz1 hk1 hS hce hcv hcl => hpx.elim) (fun k u t H1 locs1 ht hvm hq hB hz1 hk1 hS => ?_)
  obtain ⟨f1, S1⟩ := u
  obtain ⟨hK, hF1, hEx⟩ := hq
  dsimp only at hK hF1 hEx hB
  have hw : PW C (XL C ao f1) S1 (lw_A s) H1 locs1 s := pw_lpost hw ht hvm hF1 hB hS
  obtain ⟨b9, S2, hm2, hth, han, hJ2⟩ := hK
  have Tx : TY S1 xa 11 := ty_ext hEx Tx
  have Tm : TY S1 ma 12 := ty_ext hEx Tm
  refine lv_istore (lv' := [(5, .int k), (0, .ref b), (1, .ref xa), (2, .ref ma), (3, .ref ao), (4, .int x4)]) hx hb dL_law__570 hl (by decide) rfl (fun ls hl => ?_)
  refine lv_aload_n hx hb dL_law__572 rfl (lv_at hl 3 rfl) ?_
  refine lv_aload_n hx hb dL_law__573 rfl (lv_at hl 1 rfl) ?_
  refine lv_iload hx hb dL_law__574 (lv_at hl 5 rfl) ?_
  refine lv_iconst (v := 1) hx hb dL_law__576 (by decide) ?_
  refine lv_iadd hx hb dL_law__577 ?_
  refine va_sld hx hb hX hbl hbA hw.S hi1 dL_law__578 ?_
  refine pw_ci (va_runV (As := [.int (xs (Int32.toNatClampNeg (x4 + 1)))]) (rest := []) ⟨hx, hb, hml, hown, hU⟩ (c_X12_told l C (XL C ao f1) n S1 hw.wf _ ma (xs (Int32.toNatClampNeg (x4 + 1))) Tm b9 S2 hm2) (cwV 1 hU (pq_gV tw1906 tw1907 tw1908 tw14 tc_X12_told) rfl rfl rfl cd_X12_told ⟨Nat.le_of_ble_eq_true rfl, Nat.le_of_ble_eq_true rfl⟩) (pw_preV hw Tm (by decide) rfl) rfl rfl hl.1 rfl (lv_room (Nat.le_of_ble_eq_true rfl)) dL_law__579 ⟨by show _ ≤ room_1.cells; omega, by show _ ≤ room_1.slots; omega⟩) hw (fun H locs hw hx2 => ?_)
  have Tm : TY S2 ma 12 := ty_ext hx2 Tm
  refine lv_istore (lv' := [(6, .int b9), (5, .int k), (0, .ref b), (1, .ref xa), (2, .ref ma), (3, .ref ao), (4, .int x4)]) hx hb dL_law__582 hl (by decide) rfl (fun ls hl => ?_)
  refine lv_aload_n hx hb dL_law__584 rfl (lv_at hl 4 rfl) ?_
  refine pw_ci (va_runV (As := []) (rest := []) ⟨hx, hb, hml, hown, hU⟩ (c_X12_thrown l C (XL C ao f1) n S2 hw.wf _ ma Tm (pI S2 1200 ma) S2 rfl) (cwV 0 hU (pq_gV tw1449 tw1450 tw1451 tw14 tc_X12_thrown) rfl rfl rfl cd_X12_thrown ⟨Nat.le_of_ble_eq_true rfl, Nat.le_of_ble_eq_true rfl⟩) (pw_preV hw Tm (by decide) rfl) rfl rfl hl.1 rfl (lv_room (Nat.le_of_ble_eq_true rfl)) dL_law__585 ⟨by show _ ≤ room_1.cells; omega, by show _ ≤ room_1.slots; omega⟩) hw (fun H locs hw hx3 => ?_)
  refine lv_iload hx hb dL_law__588 (lv_at hl 1 rfl) ?_
  refine lv_icmp_eq (tgt := 595) hx hb dL_law__590 (by decide) (fun _ => ?_) (fun h9 => absurd hth h9)
  refine lv_iload hx hb dL_law__595 (lv_at hl 1 rfl) ?_
  refine lv_if_ne (tgt := 612) hx hb dL_law__597 (by decide) (fun _ => ?_) (fun h9 => ?_)
  · refine lv_goto (tgt := 3019) hx hb dL_law__612 (by decide) ?_
    exact W.widen (by omega) (by omega) (hk S2 f1 _ _ ls hJ2 hw (lv_sub hl [2, 3, 4, 5, 6] rfl))
  · refine lv_aload_n hx hb dL_law__600 rfl (lv_at hl 5 rfl) ?_
    refine lv_iconst (v := 0) hx hb dL_law__601 (by decide) ?_
    refine pw_lald hx hb hw dL_law__602 ?_
    refine lv_iload hx hb dL_law__603 (lv_at hl 0 rfl) ?_
    refine lv_i2l (v := Int32.toInt64 b9) hx hb dL_law__605 rfl ?_
    refine W.lcmp hx hb dL_law__606 ?_
    refine lv_if_eq (tgt := 612) hx hb dL_law__607 (by decide) (fun _ => ?_) (fun h7 => absurd (lw_cmp0 (han h9)) h7)
    refine lv_goto (tgt := 3019) hx hb dL_law__612 (by decide) ?_
    exact W.widen (by omega) (by omega) (hk S2 f1 _ _ ls hJ2 hw (lv_sub hl [2, 3, 4, 5, 6] rfl))
set_option maxHeartbeats 4000000 in
set_option maxRecDepth 100000 in
theorem lc_8 {p : Program} {l : Launch} {e : Env} {s : State} {m : MethodId} {below : List Frame} {meth : Method} {c : Code} {b L : Nat} {xs : Nat → Int32} (C0 : lw_At p s m meth c b L xs) (hst : l.stackTraces = false) (C : pq_C) (n xa ma ao : Nat) (J : pq_S → Prop) (hTY : ∀ S, J S → TY S xa 11 ∧ TY S ma 12) (hob : OB_8 n xa ma J) (x4 : Int32) (hi1 : vp_in (x4 + 1) L) (hi2 : vp_in (x4 + 2) L) (S : pq_S) (f : Nat → Int64) (H : Heap) (locs : List Loc) (ls : Array Slot) (cells slots : Nat) (hJ : J S) (hcc : cells + 200 ≤ room_1.cells) (hss : slots + 8000 ≤ room_1.slots) (hw : PW C (XL C ao f) S (lw_A s) H locs s) (hl : lv_has ls 8 [(0, .ref b), (1, .ref xa), (2, .ref ma), (3, .ref ao), (4, .int x4)]) (hk : ∀ (S2 : pq_S) (f2 : Nat → Int64) (H2 : Heap) (locs2 : List Loc) (ls2 : Array Slot), J S2 → PW C (XL C ao f2) S2 (lw_A s) H2 locs2 s → lv_has ls2 8 [(0, .ref b), (1, .ref xa), (2, .ref ma), (3, .ref ao), (4, .int x4)] → W p l e room_1 s m #[Value.ref b] below meth c H2 locs2 (cells + 200) (slots + 8000) (lw_Z below #[Value.ref b] s) (F0 m 3019 ls2 [])) : W p l e room_1 s m #[Value.ref b] below meth c H locs cells slots (lw_Z below #[Value.ref b] s) (F0 m 615 ls []) := by
  obtain ⟨hx, hb, hr, hml, hown, hts, hX, hbl, hlocks, hgv⟩ := id C0
  have hb : c.code = cL_law_ := hb
  have hown : s.vm.findClass RL = some m.cls := hown
  have hbA : ¬ lw_A s b := Nat.not_le.mpr hbl
  have hU : ∀ w ∈ pq_U, w.before _ s = true := fun w h => hts w (List.mem_filter.mp h).1
  obtain ⟨Tx, Tm⟩ := hTY S hJ
  refine lv_aload_n hx hb dL_law__615 rfl (lv_at hl 1 rfl) ?_
  refine lv_aload_n hx hb dL_law__616 rfl (lv_at hl 0 rfl) ?_
  refine lv_iload hx hb dL_law__617 (lv_at hl 4 rfl) ?_
  refine lv_iconst (v := 1) hx hb dL_law__619 (by decide) ?_
  refine lv_iadd hx hb dL_law__620 ?_
  refine va_sld hx hb hX hbl hbA hw.S hi1 dL_law__621 ?_
  refine lv_aload_n hx hb dL_law__622 rfl (lv_at hl 0 rfl) ?_
  refine lv_iload hx hb dL_law__623 (lv_at hl 4 rfl) ?_
  refine lv_iconst (v := 2) hx hb dL_law__625 (by decide) ?_
  refine lv_iadd hx hb dL_law__626 ?_
  refine va_sld hx hb hX hbl hbA hw.S hi2 dL_law__627 ?_
  refine lv_aload_n hx hb dL_law__628 rfl (lv_at hl 3 rfl) ?_
  obtain ⟨mc, ms, h1, h2, hm⟩ := hob S f hJ (xs (Int32.toNatClampNeg (x4 + 1))) (xs (Int32.toNatClampNeg (x4 + 2)))
  refine vx_calli (vx_runSX (As := [.ref xa, .int (xs (Int32.toNatClampNeg (x4 + 1))), .int (xs (Int32.toNatClampNeg (x4 + 2))), .ref ao]) (rest := []) ⟨hx, hb, hml, hown, hU⟩ (cl_L_place l C ao f n S hw.wf _ xa (xs (Int32.toNatClampNeg (x4 + 1))) (xs (Int32.toNatClampNeg (x4 + 2))) Tx mc ms hst _ hm) (vx_cwSW 4 hU (pq_gS tw988 tw989 tw0 tc_L_place) rfl rfl rfl cd_L_place ⟨Nat.le_of_ble_eq_true rfl, Nat.le_of_ble_eq_true rfl⟩) (pw_preS hw) rfl rfl hl.1 rfl (lv_room (Nat.le_of_ble_eq_true rfl)) dL_law__629 ⟨by show _ ≤ room_1.cells; omega, by show _ ≤ room_1.slots; omega⟩) hw.S (fun q _ h => pw_free hw q h) (pw_free hw) (fun q _ h => pw_free hw q h) (fun Es ce q9 u t H1 locs1 ht hvm hpx hB hz1 hk1 hS hce hcv hcl => hpx.elim) (fun k u t H1 locs1 ht hvm hq hB hz1 hk1 hS => ?_)
  obtain ⟨f1, S1⟩ := u
  obtain ⟨hK, hF1, hEx⟩ := hq
  dsimp only at hK hF1 hEx hB
  have hw : PW C (XL C ao f1) S1 (lw_A s) H1 locs1 s := pw_lpost hw ht hvm hF1 hB hS
  obtain ⟨b9, S2, hm2, hth, han, hJ2⟩ := hK
  have Tx : TY S1 xa 11 := ty_ext hEx Tx
  have Tm : TY S1 ma 12 := ty_ext hEx Tm
  refine lv_istore (lv' := [(5, .int k), (0, .ref b), (1, .ref xa), (2, .ref ma), (3, .ref ao), (4, .int x4)]) hx hb dL_law__632 hl (by decide) rfl (fun ls hl => ?_)
  refine lv_aload_n hx hb dL_law__634 rfl (lv_at hl 3 rfl) ?_
  refine lv_aload_n hx hb dL_law__635 rfl (lv_at hl 1 rfl) ?_
  refine lv_iload hx hb dL_law__636 (lv_at hl 5 rfl) ?_
  refine lv_iconst (v := 1) hx hb dL_law__638 (by decide) ?_
  refine lv_iadd hx hb dL_law__639 ?_
  refine va_sld hx hb hX hbl hbA hw.S hi1 dL_law__640 ?_
  refine lv_aload_n hx hb dL_law__641 rfl (lv_at hl 1 rfl) ?_
  refine lv_iload hx hb dL_law__642 (lv_at hl 5 rfl) ?_
  refine lv_iconst (v := 2) hx hb dL_law__644 (by decide) ?_
  refine lv_iadd hx hb dL_law__645 ?_
  refine va_sld hx hb hX hbl hbA hw.S hi2 dL_law__646 ?_
  refine pw_ci (va_runV (As := [.int (xs (Int32.toNatClampNeg (x4 + 1))), .int (xs (Int32.toNatClampNeg (x4 + 2)))]) (rest := []) ⟨hx, hb, hml, hown, hU⟩ (c_X12_place l C (XL C ao f1) n S1 hw.wf _ ma (xs (Int32.toNatClampNeg (x4 + 1))) (xs (Int32.toNatClampNeg (x4 + 2))) Tm b9 S2 hm2) (cwV 2 hU (pq_gV tw1914 tw1915 tw1916 tw14 tc_X12_place) rfl rfl rfl cd_X12_place ⟨Nat.le_of_ble_eq_true rfl, Nat.le_of_ble_eq_true rfl⟩) (pw_preV hw Tm (by decide) rfl) rfl rfl hl.1 rfl (lv_room (Nat.le_of_ble_eq_true rfl)) dL_law__647 ⟨by show _ ≤ room_1.cells; omega, by show _ ≤ room_1.slots; omega⟩) hw (fun H locs hw hx2 => ?_)
  have Tm : TY S2 ma 12 := ty_ext hx2 Tm
  refine lv_istore (lv' := [(6, .int b9), (5, .int k), (0, .ref b), (1, .ref xa), (2, .ref ma), (3, .ref ao), (4, .int x4)]) hx hb dL_law__650 hl (by decide) rfl (fun ls hl => ?_)
  refine lv_aload_n hx hb dL_law__652 rfl (lv_at hl 4 rfl) ?_
  refine pw_ci (va_runV (As := []) (rest := []) ⟨hx, hb, hml, hown, hU⟩ (c_X12_thrown l C (XL C ao f1) n S2 hw.wf _ ma Tm (pI S2 1200 ma) S2 rfl) (cwV 0 hU (pq_gV tw1449 tw1450 tw1451 tw14 tc_X12_thrown) rfl rfl rfl cd_X12_thrown ⟨Nat.le_of_ble_eq_true rfl, Nat.le_of_ble_eq_true rfl⟩) (pw_preV hw Tm (by decide) rfl) rfl rfl hl.1 rfl (lv_room (Nat.le_of_ble_eq_true rfl)) dL_law__653 ⟨by show _ ≤ room_1.cells; omega, by show _ ≤ room_1.slots; omega⟩) hw (fun H locs hw hx3 => ?_)
  refine lv_iload hx hb dL_law__656 (lv_at hl 1 rfl) ?_
  refine lv_icmp_eq (tgt := 663) hx hb dL_law__658 (by decide) (fun _ => ?_) (fun h9 => absurd hth h9)
  refine lv_iload hx hb dL_law__663 (lv_at hl 1 rfl) ?_
  refine lv_if_ne (tgt := 680) hx hb dL_law__665 (by decide) (fun _ => ?_) (fun h9 => ?_)
  · refine lv_goto (tgt := 3019) hx hb dL_law__680 (by decide) ?_
    exact W.widen (by omega) (by omega) (hk S2 f1 _ _ ls hJ2 hw (lv_sub hl [2, 3, 4, 5, 6] rfl))
  · refine lv_aload_n hx hb dL_law__668 rfl (lv_at hl 5 rfl) ?_
    refine lv_iconst (v := 0) hx hb dL_law__669 (by decide) ?_
    refine pw_lald hx hb hw dL_law__670 ?_
    refine lv_iload hx hb dL_law__671 (lv_at hl 0 rfl) ?_
    refine lv_i2l (v := Int32.toInt64 b9) hx hb dL_law__673 rfl ?_
    refine W.lcmp hx hb dL_law__674 ?_
    refine lv_if_eq (tgt := 680) hx hb dL_law__675 (by decide) (fun _ => ?_) (fun h7 => absurd (lw_cmp0 (han h9)) h7)
    refine lv_goto (tgt := 3019) hx hb dL_law__680 (by decide) ?_
    exact W.widen (by omega) (by omega) (hk S2 f1 _ _ ls hJ2 hw (lv_sub hl [2, 3, 4, 5, 6] rfl))
set_option maxHeartbeats 4000000 in
set_option maxRecDepth 100000 in
theorem lc_9 {p : Program} {l : Launch} {e : Env} {s : State} {m : MethodId} {below : List Frame} {meth : Method} {c : Code} {b L : Nat} {xs : Nat → Int32} (C0 : lw_At p s m meth c b L xs) (hst : l.stackTraces = false) (C : pq_C) (n xa ma ao : Nat) (J : pq_S → Prop) (hTY : ∀ S, J S → TY S xa 11 ∧ TY S ma 12) (hob : OB_9 n xa ma J) (x4 : Int32) (hi1 : vp_in (x4 + 1) L) (hi2 : vp_in (x4 + 2) L) (S : pq_S) (f : Nat → Int64) (H : Heap) (locs : List Loc) (ls : Array Slot) (cells slots : Nat) (hJ : J S) (hcc : cells + 200 ≤ room_1.cells) (hss : slots + 8000 ≤ room_1.slots) (hw : PW C (XL C ao f) S (lw_A s) H locs s) (hl : lv_has ls 8 [(0, .ref b), (1, .ref xa), (2, .ref ma), (3, .ref ao), (4, .int x4)]) (hk : ∀ (S2 : pq_S) (f2 : Nat → Int64) (H2 : Heap) (locs2 : List Loc) (ls2 : Array Slot), J S2 → PW C (XL C ao f2) S2 (lw_A s) H2 locs2 s → lv_has ls2 8 [(0, .ref b), (1, .ref xa), (2, .ref ma), (3, .ref ao), (4, .int x4)] → W p l e room_1 s m #[Value.ref b] below meth c H2 locs2 (cells + 200) (slots + 8000) (lw_Z below #[Value.ref b] s) (F0 m 3019 ls2 [])) : W p l e room_1 s m #[Value.ref b] below meth c H locs cells slots (lw_Z below #[Value.ref b] s) (F0 m 683 ls []) := by
  obtain ⟨hx, hb, hr, hml, hown, hts, hX, hbl, hlocks, hgv⟩ := id C0
  have hb : c.code = cL_law_ := hb
  have hown : s.vm.findClass RL = some m.cls := hown
  have hbA : ¬ lw_A s b := Nat.not_le.mpr hbl
  have hU : ∀ w ∈ pq_U, w.before _ s = true := fun w h => hts w (List.mem_filter.mp h).1
  obtain ⟨Tx, Tm⟩ := hTY S hJ
  refine lv_aload_n hx hb dL_law__683 rfl (lv_at hl 1 rfl) ?_
  refine lv_aload_n hx hb dL_law__684 rfl (lv_at hl 0 rfl) ?_
  refine lv_iload hx hb dL_law__685 (lv_at hl 4 rfl) ?_
  refine lv_iconst (v := 1) hx hb dL_law__687 (by decide) ?_
  refine lv_iadd hx hb dL_law__688 ?_
  refine va_sld hx hb hX hbl hbA hw.S hi1 dL_law__689 ?_
  refine lv_aload_n hx hb dL_law__690 rfl (lv_at hl 0 rfl) ?_
  refine lv_iload hx hb dL_law__691 (lv_at hl 4 rfl) ?_
  refine lv_iconst (v := 2) hx hb dL_law__693 (by decide) ?_
  refine lv_iadd hx hb dL_law__694 ?_
  refine va_sld hx hb hX hbl hbA hw.S hi2 dL_law__695 ?_
  refine lv_aload_n hx hb dL_law__696 rfl (lv_at hl 3 rfl) ?_
  obtain ⟨mc, ms, h1, h2, hm⟩ := hob S f hJ (xs (Int32.toNatClampNeg (x4 + 1))) (xs (Int32.toNatClampNeg (x4 + 2)))
  refine vx_calli (vx_runSX (As := [.ref xa, .int (xs (Int32.toNatClampNeg (x4 + 1))), .int (xs (Int32.toNatClampNeg (x4 + 2))), .ref ao]) (rest := []) ⟨hx, hb, hml, hown, hU⟩ (cl_L_want l C ao f n S hw.wf _ xa (xs (Int32.toNatClampNeg (x4 + 1))) (xs (Int32.toNatClampNeg (x4 + 2))) Tx mc ms hst _ hm) (vx_cwSW 4 hU (pq_gS tw1032 tw1033 tw0 tc_L_want) rfl rfl rfl cd_L_want ⟨Nat.le_of_ble_eq_true rfl, Nat.le_of_ble_eq_true rfl⟩) (pw_preS hw) rfl rfl hl.1 rfl (lv_room (Nat.le_of_ble_eq_true rfl)) dL_law__697 ⟨by show _ ≤ room_1.cells; omega, by show _ ≤ room_1.slots; omega⟩) hw.S (fun q _ h => pw_free hw q h) (pw_free hw) (fun q _ h => pw_free hw q h) (fun Es ce q9 u t H1 locs1 ht hvm hpx hB hz1 hk1 hS hce hcv hcl => hpx.elim) (fun k u t H1 locs1 ht hvm hq hB hz1 hk1 hS => ?_)
  obtain ⟨f1, S1⟩ := u
  obtain ⟨hK, hF1, hEx⟩ := hq
  dsimp only at hK hF1 hEx hB
  have hw : PW C (XL C ao f1) S1 (lw_A s) H1 locs1 s := pw_lpost hw ht hvm hF1 hB hS
  obtain ⟨b9, S2, hm2, hth, han, hJ2⟩ := hK
  have Tx : TY S1 xa 11 := ty_ext hEx Tx
  have Tm : TY S1 ma 12 := ty_ext hEx Tm
  refine lv_istore (lv' := [(5, .int k), (0, .ref b), (1, .ref xa), (2, .ref ma), (3, .ref ao), (4, .int x4)]) hx hb dL_law__700 hl (by decide) rfl (fun ls hl => ?_)
  refine lv_aload_n hx hb dL_law__702 rfl (lv_at hl 3 rfl) ?_
  refine lv_aload_n hx hb dL_law__703 rfl (lv_at hl 1 rfl) ?_
  refine lv_iload hx hb dL_law__704 (lv_at hl 5 rfl) ?_
  refine lv_iconst (v := 1) hx hb dL_law__706 (by decide) ?_
  refine lv_iadd hx hb dL_law__707 ?_
  refine va_sld hx hb hX hbl hbA hw.S hi1 dL_law__708 ?_
  refine lv_aload_n hx hb dL_law__709 rfl (lv_at hl 1 rfl) ?_
  refine lv_iload hx hb dL_law__710 (lv_at hl 5 rfl) ?_
  refine lv_iconst (v := 2) hx hb dL_law__712 (by decide) ?_
  refine lv_iadd hx hb dL_law__713 ?_
  refine va_sld hx hb hX hbl hbA hw.S hi2 dL_law__714 ?_
  refine pw_ci (va_runV (As := [.int (xs (Int32.toNatClampNeg (x4 + 1))), .int (xs (Int32.toNatClampNeg (x4 + 2)))]) (rest := []) ⟨hx, hb, hml, hown, hU⟩ (c_X12_want l C (XL C ao f1) n S1 hw.wf _ ma (xs (Int32.toNatClampNeg (x4 + 1))) (xs (Int32.toNatClampNeg (x4 + 2))) Tm b9 S2 hm2) (cwV 2 hU (pq_gV tw1930 tw1931 tw1932 tw14 tc_X12_want) rfl rfl rfl cd_X12_want ⟨Nat.le_of_ble_eq_true rfl, Nat.le_of_ble_eq_true rfl⟩) (pw_preV hw Tm (by decide) rfl) rfl rfl hl.1 rfl (lv_room (Nat.le_of_ble_eq_true rfl)) dL_law__715 ⟨by show _ ≤ room_1.cells; omega, by show _ ≤ room_1.slots; omega⟩) hw (fun H locs hw hx2 => ?_)
  have Tm : TY S2 ma 12 := ty_ext hx2 Tm
  refine lv_istore (lv' := [(6, .int b9), (5, .int k), (0, .ref b), (1, .ref xa), (2, .ref ma), (3, .ref ao), (4, .int x4)]) hx hb dL_law__718 hl (by decide) rfl (fun ls hl => ?_)
  refine lv_aload_n hx hb dL_law__720 rfl (lv_at hl 4 rfl) ?_
  refine pw_ci (va_runV (As := []) (rest := []) ⟨hx, hb, hml, hown, hU⟩ (c_X12_thrown l C (XL C ao f1) n S2 hw.wf _ ma Tm (pI S2 1200 ma) S2 rfl) (cwV 0 hU (pq_gV tw1449 tw1450 tw1451 tw14 tc_X12_thrown) rfl rfl rfl cd_X12_thrown ⟨Nat.le_of_ble_eq_true rfl, Nat.le_of_ble_eq_true rfl⟩) (pw_preV hw Tm (by decide) rfl) rfl rfl hl.1 rfl (lv_room (Nat.le_of_ble_eq_true rfl)) dL_law__721 ⟨by show _ ≤ room_1.cells; omega, by show _ ≤ room_1.slots; omega⟩) hw (fun H locs hw hx3 => ?_)
  refine lv_iload hx hb dL_law__724 (lv_at hl 1 rfl) ?_
  refine lv_icmp_eq (tgt := 731) hx hb dL_law__726 (by decide) (fun _ => ?_) (fun h9 => absurd hth h9)
  refine lv_iload hx hb dL_law__731 (lv_at hl 1 rfl) ?_
  refine lv_if_ne (tgt := 748) hx hb dL_law__733 (by decide) (fun _ => ?_) (fun h9 => ?_)
  · refine lv_goto (tgt := 3019) hx hb dL_law__748 (by decide) ?_
    exact W.widen (by omega) (by omega) (hk S2 f1 _ _ ls hJ2 hw (lv_sub hl [2, 3, 4, 5, 6] rfl))
  · refine lv_aload_n hx hb dL_law__736 rfl (lv_at hl 5 rfl) ?_
    refine lv_iconst (v := 0) hx hb dL_law__737 (by decide) ?_
    refine pw_lald hx hb hw dL_law__738 ?_
    refine lv_iload hx hb dL_law__739 (lv_at hl 0 rfl) ?_
    refine lv_i2l (v := Int32.toInt64 b9) hx hb dL_law__741 rfl ?_
    refine W.lcmp hx hb dL_law__742 ?_
    refine lv_if_eq (tgt := 748) hx hb dL_law__743 (by decide) (fun _ => ?_) (fun h7 => absurd (lw_cmp0 (han h9)) h7)
    refine lv_goto (tgt := 3019) hx hb dL_law__748 (by decide) ?_
    exact W.widen (by omega) (by omega) (hk S2 f1 _ _ ls hJ2 hw (lv_sub hl [2, 3, 4, 5, 6] rfl))
set_option maxHeartbeats 4000000 in
set_option maxRecDepth 100000 in
theorem lc_10 {p : Program} {l : Launch} {e : Env} {s : State} {m : MethodId} {below : List Frame} {meth : Method} {c : Code} {b L : Nat} {xs : Nat → Int32} (C0 : lw_At p s m meth c b L xs) (hst : l.stackTraces = false) (C : pq_C) (n xa ma ao : Nat) (J : pq_S → Prop) (hTY : ∀ S, J S → TY S xa 11 ∧ TY S ma 12) (hob : OB_10 n xa ma J) (x4 : Int32) (hi1 : vp_in (x4 + 1) L) (hi2 : vp_in (x4 + 2) L) (S : pq_S) (f : Nat → Int64) (H : Heap) (locs : List Loc) (ls : Array Slot) (cells slots : Nat) (hJ : J S) (hcc : cells + 200 ≤ room_1.cells) (hss : slots + 8000 ≤ room_1.slots) (hw : PW C (XL C ao f) S (lw_A s) H locs s) (hl : lv_has ls 8 [(0, .ref b), (1, .ref xa), (2, .ref ma), (3, .ref ao), (4, .int x4)]) (hk : ∀ (S2 : pq_S) (f2 : Nat → Int64) (H2 : Heap) (locs2 : List Loc) (ls2 : Array Slot), J S2 → PW C (XL C ao f2) S2 (lw_A s) H2 locs2 s → lv_has ls2 8 [(0, .ref b), (1, .ref xa), (2, .ref ma), (3, .ref ao), (4, .int x4)] → W p l e room_1 s m #[Value.ref b] below meth c H2 locs2 (cells + 200) (slots + 8000) (lw_Z below #[Value.ref b] s) (F0 m 3019 ls2 [])) : W p l e room_1 s m #[Value.ref b] below meth c H locs cells slots (lw_Z below #[Value.ref b] s) (F0 m 751 ls []) := by
  obtain ⟨hx, hb, hr, hml, hown, hts, hX, hbl, hlocks, hgv⟩ := id C0
  have hb : c.code = cL_law_ := hb
  have hown : s.vm.findClass RL = some m.cls := hown
  have hbA : ¬ lw_A s b := Nat.not_le.mpr hbl
  have hU : ∀ w ∈ pq_U, w.before _ s = true := fun w h => hts w (List.mem_filter.mp h).1
  obtain ⟨Tx, Tm⟩ := hTY S hJ
  refine lv_aload_n hx hb dL_law__751 rfl (lv_at hl 1 rfl) ?_
  refine lv_aload_n hx hb dL_law__752 rfl (lv_at hl 0 rfl) ?_
  refine lv_iload hx hb dL_law__753 (lv_at hl 4 rfl) ?_
  refine lv_iconst (v := 1) hx hb dL_law__755 (by decide) ?_
  refine lv_iadd hx hb dL_law__756 ?_
  refine va_sld hx hb hX hbl hbA hw.S hi1 dL_law__757 ?_
  refine lv_aload_n hx hb dL_law__758 rfl (lv_at hl 0 rfl) ?_
  refine lv_iload hx hb dL_law__759 (lv_at hl 4 rfl) ?_
  refine lv_iconst (v := 2) hx hb dL_law__761 (by decide) ?_
  refine lv_iadd hx hb dL_law__762 ?_
  refine va_sld hx hb hX hbl hbA hw.S hi2 dL_law__763 ?_
  refine lv_aload_n hx hb dL_law__764 rfl (lv_at hl 3 rfl) ?_
  obtain ⟨mc, ms, h1, h2, hm⟩ := hob S f hJ (xs (Int32.toNatClampNeg (x4 + 1))) (xs (Int32.toNatClampNeg (x4 + 2)))
  refine vx_calli (vx_runSX (As := [.ref xa, .int (xs (Int32.toNatClampNeg (x4 + 1))), .int (xs (Int32.toNatClampNeg (x4 + 2))), .ref ao]) (rest := []) ⟨hx, hb, hml, hown, hU⟩ (cl_L_mine l C ao f n S hw.wf _ xa (xs (Int32.toNatClampNeg (x4 + 1))) (xs (Int32.toNatClampNeg (x4 + 2))) Tx mc ms hst _ hm) (vx_cwSW 4 hU (pq_gS tw1043 tw1044 tw0 tc_L_mine) rfl rfl rfl cd_L_mine ⟨Nat.le_of_ble_eq_true rfl, Nat.le_of_ble_eq_true rfl⟩) (pw_preS hw) rfl rfl hl.1 rfl (lv_room (Nat.le_of_ble_eq_true rfl)) dL_law__765 ⟨by show _ ≤ room_1.cells; omega, by show _ ≤ room_1.slots; omega⟩) hw.S (fun q _ h => pw_free hw q h) (pw_free hw) (fun q _ h => pw_free hw q h) (fun Es ce q9 u t H1 locs1 ht hvm hpx hB hz1 hk1 hS hce hcv hcl => hpx.elim) (fun k u t H1 locs1 ht hvm hq hB hz1 hk1 hS => ?_)
  obtain ⟨f1, S1⟩ := u
  obtain ⟨hK, hF1, hEx⟩ := hq
  dsimp only at hK hF1 hEx hB
  have hw : PW C (XL C ao f1) S1 (lw_A s) H1 locs1 s := pw_lpost hw ht hvm hF1 hB hS
  obtain ⟨b9, S2, hm2, hth, han, hJ2⟩ := hK
  have Tx : TY S1 xa 11 := ty_ext hEx Tx
  have Tm : TY S1 ma 12 := ty_ext hEx Tm
  refine lv_istore (lv' := [(5, .int k), (0, .ref b), (1, .ref xa), (2, .ref ma), (3, .ref ao), (4, .int x4)]) hx hb dL_law__768 hl (by decide) rfl (fun ls hl => ?_)
  refine lv_aload_n hx hb dL_law__770 rfl (lv_at hl 3 rfl) ?_
  refine lv_aload_n hx hb dL_law__771 rfl (lv_at hl 1 rfl) ?_
  refine lv_iload hx hb dL_law__772 (lv_at hl 5 rfl) ?_
  refine lv_iconst (v := 1) hx hb dL_law__774 (by decide) ?_
  refine lv_iadd hx hb dL_law__775 ?_
  refine va_sld hx hb hX hbl hbA hw.S hi1 dL_law__776 ?_
  refine lv_aload_n hx hb dL_law__777 rfl (lv_at hl 1 rfl) ?_
  refine lv_iload hx hb dL_law__778 (lv_at hl 5 rfl) ?_
  refine lv_iconst (v := 2) hx hb dL_law__780 (by decide) ?_
  refine lv_iadd hx hb dL_law__781 ?_
  refine va_sld hx hb hX hbl hbA hw.S hi2 dL_law__782 ?_
  refine pw_ci (va_runV (As := [.int (xs (Int32.toNatClampNeg (x4 + 1))), .int (xs (Int32.toNatClampNeg (x4 + 2)))]) (rest := []) ⟨hx, hb, hml, hown, hU⟩ (c_X12_mine l C (XL C ao f1) n S1 hw.wf _ ma (xs (Int32.toNatClampNeg (x4 + 1))) (xs (Int32.toNatClampNeg (x4 + 2))) Tm b9 S2 hm2) (cwV 2 hU (pq_gV tw1938 tw1939 tw1940 tw14 tc_X12_mine) rfl rfl rfl cd_X12_mine ⟨Nat.le_of_ble_eq_true rfl, Nat.le_of_ble_eq_true rfl⟩) (pw_preV hw Tm (by decide) rfl) rfl rfl hl.1 rfl (lv_room (Nat.le_of_ble_eq_true rfl)) dL_law__783 ⟨by show _ ≤ room_1.cells; omega, by show _ ≤ room_1.slots; omega⟩) hw (fun H locs hw hx2 => ?_)
  have Tm : TY S2 ma 12 := ty_ext hx2 Tm
  refine lv_istore (lv' := [(6, .int b9), (5, .int k), (0, .ref b), (1, .ref xa), (2, .ref ma), (3, .ref ao), (4, .int x4)]) hx hb dL_law__786 hl (by decide) rfl (fun ls hl => ?_)
  refine lv_aload_n hx hb dL_law__788 rfl (lv_at hl 4 rfl) ?_
  refine pw_ci (va_runV (As := []) (rest := []) ⟨hx, hb, hml, hown, hU⟩ (c_X12_thrown l C (XL C ao f1) n S2 hw.wf _ ma Tm (pI S2 1200 ma) S2 rfl) (cwV 0 hU (pq_gV tw1449 tw1450 tw1451 tw14 tc_X12_thrown) rfl rfl rfl cd_X12_thrown ⟨Nat.le_of_ble_eq_true rfl, Nat.le_of_ble_eq_true rfl⟩) (pw_preV hw Tm (by decide) rfl) rfl rfl hl.1 rfl (lv_room (Nat.le_of_ble_eq_true rfl)) dL_law__789 ⟨by show _ ≤ room_1.cells; omega, by show _ ≤ room_1.slots; omega⟩) hw (fun H locs hw hx3 => ?_)
  refine lv_iload hx hb dL_law__792 (lv_at hl 1 rfl) ?_
  refine lv_icmp_eq (tgt := 799) hx hb dL_law__794 (by decide) (fun _ => ?_) (fun h9 => absurd hth h9)
  refine lv_iload hx hb dL_law__799 (lv_at hl 1 rfl) ?_
  refine lv_if_ne (tgt := 816) hx hb dL_law__801 (by decide) (fun _ => ?_) (fun h9 => ?_)
  · refine lv_goto (tgt := 3019) hx hb dL_law__816 (by decide) ?_
    exact W.widen (by omega) (by omega) (hk S2 f1 _ _ ls hJ2 hw (lv_sub hl [2, 3, 4, 5, 6] rfl))
  · refine lv_aload_n hx hb dL_law__804 rfl (lv_at hl 5 rfl) ?_
    refine lv_iconst (v := 0) hx hb dL_law__805 (by decide) ?_
    refine pw_lald hx hb hw dL_law__806 ?_
    refine lv_iload hx hb dL_law__807 (lv_at hl 0 rfl) ?_
    refine lv_i2l (v := Int32.toInt64 b9) hx hb dL_law__809 rfl ?_
    refine W.lcmp hx hb dL_law__810 ?_
    refine lv_if_eq (tgt := 816) hx hb dL_law__811 (by decide) (fun _ => ?_) (fun h7 => absurd (lw_cmp0 (han h9)) h7)
    refine lv_goto (tgt := 3019) hx hb dL_law__816 (by decide) ?_
    exact W.widen (by omega) (by omega) (hk S2 f1 _ _ ls hJ2 hw (lv_sub hl [2, 3, 4, 5, 6] rfl))
set_option maxHeartbeats 4000000 in
set_option maxRecDepth 100000 in
theorem lc_11 {p : Program} {l : Launch} {e : Env} {s : State} {m : MethodId} {below : List Frame} {meth : Method} {c : Code} {b L : Nat} {xs : Nat → Int32} (C0 : lw_At p s m meth c b L xs) (hst : l.stackTraces = false) (C : pq_C) (n xa ma ao : Nat) (J : pq_S → Prop) (hTY : ∀ S, J S → TY S xa 11 ∧ TY S ma 12) (hob : OB_11 n xa ma J) (x4 : Int32) (hi1 : vp_in (x4 + 1) L) (hi2 : vp_in (x4 + 2) L) (hi3 : vp_in (x4 + 3) L) (hi4 : vp_in (x4 + 4) L) (S : pq_S) (f : Nat → Int64) (H : Heap) (locs : List Loc) (ls : Array Slot) (cells slots : Nat) (hJ : J S) (hcc : cells + 200 ≤ room_1.cells) (hss : slots + 8000 ≤ room_1.slots) (hw : PW C (XL C ao f) S (lw_A s) H locs s) (hl : lv_has ls 8 [(0, .ref b), (1, .ref xa), (2, .ref ma), (3, .ref ao), (4, .int x4)]) (hk : ∀ (S2 : pq_S) (f2 : Nat → Int64) (H2 : Heap) (locs2 : List Loc) (ls2 : Array Slot), J S2 → PW C (XL C ao f2) S2 (lw_A s) H2 locs2 s → lv_has ls2 8 [(0, .ref b), (1, .ref xa), (2, .ref ma), (3, .ref ao), (4, .int x4)] → W p l e room_1 s m #[Value.ref b] below meth c H2 locs2 (cells + 200) (slots + 8000) (lw_Z below #[Value.ref b] s) (F0 m 3019 ls2 [])) : W p l e room_1 s m #[Value.ref b] below meth c H locs cells slots (lw_Z below #[Value.ref b] s) (F0 m 819 ls []) := by
  obtain ⟨hx, hb, hr, hml, hown, hts, hX, hbl, hlocks, hgv⟩ := id C0
  have hb : c.code = cL_law_ := hb
  have hown : s.vm.findClass RL = some m.cls := hown
  have hbA : ¬ lw_A s b := Nat.not_le.mpr hbl
  have hU : ∀ w ∈ pq_U, w.before _ s = true := fun w h => hts w (List.mem_filter.mp h).1
  obtain ⟨Tx, Tm⟩ := hTY S hJ
  refine lv_aload_n hx hb dL_law__819 rfl (lv_at hl 1 rfl) ?_
  refine lv_aload_n hx hb dL_law__820 rfl (lv_at hl 0 rfl) ?_
  refine lv_iload hx hb dL_law__821 (lv_at hl 4 rfl) ?_
  refine lv_iconst (v := 1) hx hb dL_law__823 (by decide) ?_
  refine lv_iadd hx hb dL_law__824 ?_
  refine va_sld hx hb hX hbl hbA hw.S hi1 dL_law__825 ?_
  refine lv_aload_n hx hb dL_law__826 rfl (lv_at hl 0 rfl) ?_
  refine lv_iload hx hb dL_law__827 (lv_at hl 4 rfl) ?_
  refine lv_iconst (v := 2) hx hb dL_law__829 (by decide) ?_
  refine lv_iadd hx hb dL_law__830 ?_
  refine va_sld hx hb hX hbl hbA hw.S hi2 dL_law__831 ?_
  refine lv_aload_n hx hb dL_law__832 rfl (lv_at hl 0 rfl) ?_
  refine lv_iload hx hb dL_law__833 (lv_at hl 4 rfl) ?_
  refine lv_iconst (v := 3) hx hb dL_law__835 (by decide) ?_
  refine lv_iadd hx hb dL_law__836 ?_
  refine va_sld hx hb hX hbl hbA hw.S hi3 dL_law__837 ?_
  refine lv_aload_n hx hb dL_law__838 rfl (lv_at hl 0 rfl) ?_
  refine lv_iload hx hb dL_law__839 (lv_at hl 4 rfl) ?_
  refine lv_iconst (v := 4) hx hb dL_law__841 (by decide) ?_
  refine lv_iadd hx hb dL_law__842 ?_
  refine va_sld hx hb hX hbl hbA hw.S hi4 dL_law__843 ?_
  refine lv_aload_n hx hb dL_law__844 rfl (lv_at hl 3 rfl) ?_
  obtain ⟨mc, ms, h1, h2, hm⟩ := hob S f hJ (xs (Int32.toNatClampNeg (x4 + 1))) (xs (Int32.toNatClampNeg (x4 + 2))) (xs (Int32.toNatClampNeg (x4 + 3))) (xs (Int32.toNatClampNeg (x4 + 4)))
  refine vx_calli (vx_runSX (As := [.ref xa, .int (xs (Int32.toNatClampNeg (x4 + 1))), .int (xs (Int32.toNatClampNeg (x4 + 2))), .int (xs (Int32.toNatClampNeg (x4 + 3))), .int (xs (Int32.toNatClampNeg (x4 + 4))), .ref ao]) (rest := []) ⟨hx, hb, hml, hown, hU⟩ (cl_L_arrives l C ao f n S hw.wf _ xa (xs (Int32.toNatClampNeg (x4 + 1))) (xs (Int32.toNatClampNeg (x4 + 2))) (xs (Int32.toNatClampNeg (x4 + 3))) (xs (Int32.toNatClampNeg (x4 + 4))) Tx mc ms hst _ hm) (vx_cwSW 6 hU (pq_gS tw1055 tw1056 tw0 tc_L_arrives) rfl rfl rfl cd_L_arrives ⟨Nat.le_of_ble_eq_true rfl, Nat.le_of_ble_eq_true rfl⟩) (pw_preS hw) rfl rfl hl.1 rfl (lv_room (Nat.le_of_ble_eq_true rfl)) dL_law__845 ⟨by show _ ≤ room_1.cells; omega, by show _ ≤ room_1.slots; omega⟩) hw.S (fun q _ h => pw_free hw q h) (pw_free hw) (fun q _ h => pw_free hw q h) (fun Es ce q9 u t H1 locs1 ht hvm hpx hB hz1 hk1 hS hce hcv hcl => hpx.elim) (fun k u t H1 locs1 ht hvm hq hB hz1 hk1 hS => ?_)
  obtain ⟨f1, S1⟩ := u
  obtain ⟨hK, hF1, hEx⟩ := hq
  dsimp only at hK hF1 hEx hB
  have hw : PW C (XL C ao f1) S1 (lw_A s) H1 locs1 s := pw_lpost hw ht hvm hF1 hB hS
  obtain ⟨b9, S2, hm2, hth, han, hJ2⟩ := hK
  have Tx : TY S1 xa 11 := ty_ext hEx Tx
  have Tm : TY S1 ma 12 := ty_ext hEx Tm
  refine lv_istore (lv' := [(5, .int k), (0, .ref b), (1, .ref xa), (2, .ref ma), (3, .ref ao), (4, .int x4)]) hx hb dL_law__848 hl (by decide) rfl (fun ls hl => ?_)
  refine lv_aload_n hx hb dL_law__850 rfl (lv_at hl 3 rfl) ?_
  refine lv_aload_n hx hb dL_law__851 rfl (lv_at hl 1 rfl) ?_
  refine lv_iload hx hb dL_law__852 (lv_at hl 5 rfl) ?_
  refine lv_iconst (v := 1) hx hb dL_law__854 (by decide) ?_
  refine lv_iadd hx hb dL_law__855 ?_
  refine va_sld hx hb hX hbl hbA hw.S hi1 dL_law__856 ?_
  refine lv_aload_n hx hb dL_law__857 rfl (lv_at hl 1 rfl) ?_
  refine lv_iload hx hb dL_law__858 (lv_at hl 5 rfl) ?_
  refine lv_iconst (v := 2) hx hb dL_law__860 (by decide) ?_
  refine lv_iadd hx hb dL_law__861 ?_
  refine va_sld hx hb hX hbl hbA hw.S hi2 dL_law__862 ?_
  refine lv_aload_n hx hb dL_law__863 rfl (lv_at hl 1 rfl) ?_
  refine lv_iload hx hb dL_law__864 (lv_at hl 5 rfl) ?_
  refine lv_iconst (v := 3) hx hb dL_law__866 (by decide) ?_
  refine lv_iadd hx hb dL_law__867 ?_
  refine va_sld hx hb hX hbl hbA hw.S hi3 dL_law__868 ?_
  refine lv_aload_n hx hb dL_law__869 rfl (lv_at hl 1 rfl) ?_
  refine lv_iload hx hb dL_law__870 (lv_at hl 5 rfl) ?_
  refine lv_iconst (v := 4) hx hb dL_law__872 (by decide) ?_
  refine lv_iadd hx hb dL_law__873 ?_
  refine va_sld hx hb hX hbl hbA hw.S hi4 dL_law__874 ?_
  refine pw_ci (va_runV (As := [.int (xs (Int32.toNatClampNeg (x4 + 1))), .int (xs (Int32.toNatClampNeg (x4 + 2))), .int (xs (Int32.toNatClampNeg (x4 + 3))), .int (xs (Int32.toNatClampNeg (x4 + 4)))]) (rest := []) ⟨hx, hb, hml, hown, hU⟩ (c_X12_arrives l C (XL C ao f1) n S1 hw.wf _ ma (xs (Int32.toNatClampNeg (x4 + 1))) (xs (Int32.toNatClampNeg (x4 + 2))) (xs (Int32.toNatClampNeg (x4 + 3))) (xs (Int32.toNatClampNeg (x4 + 4))) Tm b9 S2 hm2) (cwV 4 hU (pq_gV tw1946 tw1947 tw1948 tw14 tc_X12_arrives) rfl rfl rfl cd_X12_arrives ⟨Nat.le_of_ble_eq_true rfl, Nat.le_of_ble_eq_true rfl⟩) (pw_preV hw Tm (by decide) rfl) rfl rfl hl.1 rfl (lv_room (Nat.le_of_ble_eq_true rfl)) dL_law__875 ⟨by show _ ≤ room_1.cells; omega, by show _ ≤ room_1.slots; omega⟩) hw (fun H locs hw hx2 => ?_)
  have Tm : TY S2 ma 12 := ty_ext hx2 Tm
  refine lv_istore (lv' := [(6, .int b9), (5, .int k), (0, .ref b), (1, .ref xa), (2, .ref ma), (3, .ref ao), (4, .int x4)]) hx hb dL_law__878 hl (by decide) rfl (fun ls hl => ?_)
  refine lv_aload_n hx hb dL_law__880 rfl (lv_at hl 4 rfl) ?_
  refine pw_ci (va_runV (As := []) (rest := []) ⟨hx, hb, hml, hown, hU⟩ (c_X12_thrown l C (XL C ao f1) n S2 hw.wf _ ma Tm (pI S2 1200 ma) S2 rfl) (cwV 0 hU (pq_gV tw1449 tw1450 tw1451 tw14 tc_X12_thrown) rfl rfl rfl cd_X12_thrown ⟨Nat.le_of_ble_eq_true rfl, Nat.le_of_ble_eq_true rfl⟩) (pw_preV hw Tm (by decide) rfl) rfl rfl hl.1 rfl (lv_room (Nat.le_of_ble_eq_true rfl)) dL_law__881 ⟨by show _ ≤ room_1.cells; omega, by show _ ≤ room_1.slots; omega⟩) hw (fun H locs hw hx3 => ?_)
  refine lv_iload hx hb dL_law__884 (lv_at hl 1 rfl) ?_
  refine lv_icmp_eq (tgt := 891) hx hb dL_law__886 (by decide) (fun _ => ?_) (fun h9 => absurd hth h9)
  refine lv_iload hx hb dL_law__891 (lv_at hl 1 rfl) ?_
  refine lv_if_ne (tgt := 908) hx hb dL_law__893 (by decide) (fun _ => ?_) (fun h9 => ?_)
  · refine lv_goto (tgt := 3019) hx hb dL_law__908 (by decide) ?_
    exact W.widen (by omega) (by omega) (hk S2 f1 _ _ ls hJ2 hw (lv_sub hl [2, 3, 4, 5, 6] rfl))
  · refine lv_aload_n hx hb dL_law__896 rfl (lv_at hl 5 rfl) ?_
    refine lv_iconst (v := 0) hx hb dL_law__897 (by decide) ?_
    refine pw_lald hx hb hw dL_law__898 ?_
    refine lv_iload hx hb dL_law__899 (lv_at hl 0 rfl) ?_
    refine lv_i2l (v := Int32.toInt64 b9) hx hb dL_law__901 rfl ?_
    refine W.lcmp hx hb dL_law__902 ?_
    refine lv_if_eq (tgt := 908) hx hb dL_law__903 (by decide) (fun _ => ?_) (fun h7 => absurd (lw_cmp0 (han h9)) h7)
    refine lv_goto (tgt := 3019) hx hb dL_law__908 (by decide) ?_
    exact W.widen (by omega) (by omega) (hk S2 f1 _ _ ls hJ2 hw (lv_sub hl [2, 3, 4, 5, 6] rfl))
set_option maxHeartbeats 4000000 in
set_option maxRecDepth 100000 in
theorem lc_12 {p : Program} {l : Launch} {e : Env} {s : State} {m : MethodId} {below : List Frame} {meth : Method} {c : Code} {b L : Nat} {xs : Nat → Int32} (C0 : lw_At p s m meth c b L xs) (hst : l.stackTraces = false) (C : pq_C) (n xa ma ao : Nat) (J : pq_S → Prop) (hTY : ∀ S, J S → TY S xa 11 ∧ TY S ma 12) (hob : OB_12 n xa ma J) (x4 : Int32) (hi1 : vp_in (x4 + 1) L) (hi2 : vp_in (x4 + 2) L) (S : pq_S) (f : Nat → Int64) (H : Heap) (locs : List Loc) (ls : Array Slot) (cells slots : Nat) (hJ : J S) (hcc : cells + 200 ≤ room_1.cells) (hss : slots + 8000 ≤ room_1.slots) (hw : PW C (XL C ao f) S (lw_A s) H locs s) (hl : lv_has ls 8 [(0, .ref b), (1, .ref xa), (2, .ref ma), (3, .ref ao), (4, .int x4)]) (hk : ∀ (S2 : pq_S) (f2 : Nat → Int64) (H2 : Heap) (locs2 : List Loc) (ls2 : Array Slot), J S2 → PW C (XL C ao f2) S2 (lw_A s) H2 locs2 s → lv_has ls2 8 [(0, .ref b), (1, .ref xa), (2, .ref ma), (3, .ref ao), (4, .int x4)] → W p l e room_1 s m #[Value.ref b] below meth c H2 locs2 (cells + 200) (slots + 8000) (lw_Z below #[Value.ref b] s) (F0 m 3019 ls2 [])) : W p l e room_1 s m #[Value.ref b] below meth c H locs cells slots (lw_Z below #[Value.ref b] s) (F0 m 911 ls []) := by
  obtain ⟨hx, hb, hr, hml, hown, hts, hX, hbl, hlocks, hgv⟩ := id C0
  have hb : c.code = cL_law_ := hb
  have hown : s.vm.findClass RL = some m.cls := hown
  have hbA : ¬ lw_A s b := Nat.not_le.mpr hbl
  have hU : ∀ w ∈ pq_U, w.before _ s = true := fun w h => hts w (List.mem_filter.mp h).1
  obtain ⟨Tx, Tm⟩ := hTY S hJ
  refine lv_aload_n hx hb dL_law__911 rfl (lv_at hl 1 rfl) ?_
  refine lv_aload_n hx hb dL_law__912 rfl (lv_at hl 0 rfl) ?_
  refine lv_iload hx hb dL_law__913 (lv_at hl 4 rfl) ?_
  refine lv_iconst (v := 1) hx hb dL_law__915 (by decide) ?_
  refine lv_iadd hx hb dL_law__916 ?_
  refine va_sld hx hb hX hbl hbA hw.S hi1 dL_law__917 ?_
  refine lv_aload_n hx hb dL_law__918 rfl (lv_at hl 0 rfl) ?_
  refine lv_iload hx hb dL_law__919 (lv_at hl 4 rfl) ?_
  refine lv_iconst (v := 2) hx hb dL_law__921 (by decide) ?_
  refine lv_iadd hx hb dL_law__922 ?_
  refine va_sld hx hb hX hbl hbA hw.S hi2 dL_law__923 ?_
  refine lv_aload_n hx hb dL_law__924 rfl (lv_at hl 3 rfl) ?_
  obtain ⟨mc, ms, h1, h2, hm⟩ := hob S f hJ (xs (Int32.toNatClampNeg (x4 + 1))) (xs (Int32.toNatClampNeg (x4 + 2)))
  refine vx_calli (vx_runSX (As := [.ref xa, .int (xs (Int32.toNatClampNeg (x4 + 1))), .int (xs (Int32.toNatClampNeg (x4 + 2))), .ref ao]) (rest := []) ⟨hx, hb, hml, hown, hU⟩ (cl_L_digs l C ao f n S hw.wf _ xa (xs (Int32.toNatClampNeg (x4 + 1))) (xs (Int32.toNatClampNeg (x4 + 2))) Tx mc ms hst _ hm) (vx_cwSW 4 hU (pq_gS tw1063 tw1064 tw0 tc_L_digs) rfl rfl rfl cd_L_digs ⟨Nat.le_of_ble_eq_true rfl, Nat.le_of_ble_eq_true rfl⟩) (pw_preS hw) rfl rfl hl.1 rfl (lv_room (Nat.le_of_ble_eq_true rfl)) dL_law__925 ⟨by show _ ≤ room_1.cells; omega, by show _ ≤ room_1.slots; omega⟩) hw.S (fun q _ h => pw_free hw q h) (pw_free hw) (fun q _ h => pw_free hw q h) (fun Es ce q9 u t H1 locs1 ht hvm hpx hB hz1 hk1 hS hce hcv hcl => hpx.elim) (fun k u t H1 locs1 ht hvm hq hB hz1 hk1 hS => ?_)
  obtain ⟨f1, S1⟩ := u
  obtain ⟨hK, hF1, hEx⟩ := hq
  dsimp only at hK hF1 hEx hB
  have hw : PW C (XL C ao f1) S1 (lw_A s) H1 locs1 s := pw_lpost hw ht hvm hF1 hB hS
  obtain ⟨b9, S2, hm2, hth, han, hJ2⟩ := hK
  have Tx : TY S1 xa 11 := ty_ext hEx Tx
  have Tm : TY S1 ma 12 := ty_ext hEx Tm
  refine lv_istore (lv' := [(5, .int k), (0, .ref b), (1, .ref xa), (2, .ref ma), (3, .ref ao), (4, .int x4)]) hx hb dL_law__928 hl (by decide) rfl (fun ls hl => ?_)
  refine lv_aload_n hx hb dL_law__930 rfl (lv_at hl 3 rfl) ?_
  refine lv_aload_n hx hb dL_law__931 rfl (lv_at hl 1 rfl) ?_
  refine lv_iload hx hb dL_law__932 (lv_at hl 5 rfl) ?_
  refine lv_iconst (v := 1) hx hb dL_law__934 (by decide) ?_
  refine lv_iadd hx hb dL_law__935 ?_
  refine va_sld hx hb hX hbl hbA hw.S hi1 dL_law__936 ?_
  refine lv_aload_n hx hb dL_law__937 rfl (lv_at hl 1 rfl) ?_
  refine lv_iload hx hb dL_law__938 (lv_at hl 5 rfl) ?_
  refine lv_iconst (v := 2) hx hb dL_law__940 (by decide) ?_
  refine lv_iadd hx hb dL_law__941 ?_
  refine va_sld hx hb hX hbl hbA hw.S hi2 dL_law__942 ?_
  refine pw_ci (va_runV (As := [.int (xs (Int32.toNatClampNeg (x4 + 1))), .int (xs (Int32.toNatClampNeg (x4 + 2)))]) (rest := []) ⟨hx, hb, hml, hown, hU⟩ (c_X12_digs l C (XL C ao f1) n S1 hw.wf _ ma (xs (Int32.toNatClampNeg (x4 + 1))) (xs (Int32.toNatClampNeg (x4 + 2))) Tm b9 S2 hm2) (cwV 2 hU (pq_gV tw1950 tw1951 tw1952 tw14 tc_X12_digs) rfl rfl rfl cd_X12_digs ⟨Nat.le_of_ble_eq_true rfl, Nat.le_of_ble_eq_true rfl⟩) (pw_preV hw Tm (by decide) rfl) rfl rfl hl.1 rfl (lv_room (Nat.le_of_ble_eq_true rfl)) dL_law__943 ⟨by show _ ≤ room_1.cells; omega, by show _ ≤ room_1.slots; omega⟩) hw (fun H locs hw hx2 => ?_)
  have Tm : TY S2 ma 12 := ty_ext hx2 Tm
  refine lv_istore (lv' := [(6, .int b9), (5, .int k), (0, .ref b), (1, .ref xa), (2, .ref ma), (3, .ref ao), (4, .int x4)]) hx hb dL_law__946 hl (by decide) rfl (fun ls hl => ?_)
  refine lv_aload_n hx hb dL_law__948 rfl (lv_at hl 4 rfl) ?_
  refine pw_ci (va_runV (As := []) (rest := []) ⟨hx, hb, hml, hown, hU⟩ (c_X12_thrown l C (XL C ao f1) n S2 hw.wf _ ma Tm (pI S2 1200 ma) S2 rfl) (cwV 0 hU (pq_gV tw1449 tw1450 tw1451 tw14 tc_X12_thrown) rfl rfl rfl cd_X12_thrown ⟨Nat.le_of_ble_eq_true rfl, Nat.le_of_ble_eq_true rfl⟩) (pw_preV hw Tm (by decide) rfl) rfl rfl hl.1 rfl (lv_room (Nat.le_of_ble_eq_true rfl)) dL_law__949 ⟨by show _ ≤ room_1.cells; omega, by show _ ≤ room_1.slots; omega⟩) hw (fun H locs hw hx3 => ?_)
  refine lv_iload hx hb dL_law__952 (lv_at hl 1 rfl) ?_
  refine lv_icmp_eq (tgt := 959) hx hb dL_law__954 (by decide) (fun _ => ?_) (fun h9 => absurd hth h9)
  refine lv_iload hx hb dL_law__959 (lv_at hl 1 rfl) ?_
  refine lv_if_ne (tgt := 976) hx hb dL_law__961 (by decide) (fun _ => ?_) (fun h9 => ?_)
  · refine lv_goto (tgt := 3019) hx hb dL_law__976 (by decide) ?_
    exact W.widen (by omega) (by omega) (hk S2 f1 _ _ ls hJ2 hw (lv_sub hl [2, 3, 4, 5, 6] rfl))
  · refine lv_aload_n hx hb dL_law__964 rfl (lv_at hl 5 rfl) ?_
    refine lv_iconst (v := 0) hx hb dL_law__965 (by decide) ?_
    refine pw_lald hx hb hw dL_law__966 ?_
    refine lv_iload hx hb dL_law__967 (lv_at hl 0 rfl) ?_
    refine lv_i2l (v := Int32.toInt64 b9) hx hb dL_law__969 rfl ?_
    refine W.lcmp hx hb dL_law__970 ?_
    refine lv_if_eq (tgt := 976) hx hb dL_law__971 (by decide) (fun _ => ?_) (fun h7 => absurd (lw_cmp0 (han h9)) h7)
    refine lv_goto (tgt := 3019) hx hb dL_law__976 (by decide) ?_
    exact W.widen (by omega) (by omega) (hk S2 f1 _ _ ls hJ2 hw (lv_sub hl [2, 3, 4, 5, 6] rfl))
set_option maxHeartbeats 4000000 in
set_option maxRecDepth 100000 in
theorem lc_13 {p : Program} {l : Launch} {e : Env} {s : State} {m : MethodId} {below : List Frame} {meth : Method} {c : Code} {b L : Nat} {xs : Nat → Int32} (C0 : lw_At p s m meth c b L xs) (hst : l.stackTraces = false) (C : pq_C) (n xa ma ao : Nat) (J : pq_S → Prop) (hTY : ∀ S, J S → TY S xa 11 ∧ TY S ma 12) (hob : OB_13 n xa ma J) (x4 : Int32) (hi1 : vp_in (x4 + 1) L) (S : pq_S) (f : Nat → Int64) (H : Heap) (locs : List Loc) (ls : Array Slot) (cells slots : Nat) (hJ : J S) (hcc : cells + 200 ≤ room_1.cells) (hss : slots + 8000 ≤ room_1.slots) (hw : PW C (XL C ao f) S (lw_A s) H locs s) (hl : lv_has ls 8 [(0, .ref b), (1, .ref xa), (2, .ref ma), (3, .ref ao), (4, .int x4)]) (hk : ∀ (S2 : pq_S) (f2 : Nat → Int64) (H2 : Heap) (locs2 : List Loc) (ls2 : Array Slot), J S2 → PW C (XL C ao f2) S2 (lw_A s) H2 locs2 s → lv_has ls2 8 [(0, .ref b), (1, .ref xa), (2, .ref ma), (3, .ref ao), (4, .int x4)] → W p l e room_1 s m #[Value.ref b] below meth c H2 locs2 (cells + 200) (slots + 8000) (lw_Z below #[Value.ref b] s) (F0 m 3019 ls2 [])) : W p l e room_1 s m #[Value.ref b] below meth c H locs cells slots (lw_Z below #[Value.ref b] s) (F0 m 979 ls []) := by
  obtain ⟨hx, hb, hr, hml, hown, hts, hX, hbl, hlocks, hgv⟩ := id C0
  have hb : c.code = cL_law_ := hb
  have hown : s.vm.findClass RL = some m.cls := hown
  have hbA : ¬ lw_A s b := Nat.not_le.mpr hbl
  have hU : ∀ w ∈ pq_U, w.before _ s = true := fun w h => hts w (List.mem_filter.mp h).1
  obtain ⟨Tx, Tm⟩ := hTY S hJ
  refine lv_aload_n hx hb dL_law__979 rfl (lv_at hl 1 rfl) ?_
  refine lv_aload_n hx hb dL_law__980 rfl (lv_at hl 0 rfl) ?_
  refine lv_iload hx hb dL_law__981 (lv_at hl 4 rfl) ?_
  refine lv_iconst (v := 1) hx hb dL_law__983 (by decide) ?_
  refine lv_iadd hx hb dL_law__984 ?_
  refine va_sld hx hb hX hbl hbA hw.S hi1 dL_law__985 ?_
  refine lv_aload_n hx hb dL_law__986 rfl (lv_at hl 3 rfl) ?_
  obtain ⟨mc, ms, h1, h2, hm⟩ := hob S f hJ (xs (Int32.toNatClampNeg (x4 + 1)))
  refine vx_calli (vx_runSX (As := [.ref xa, .int (xs (Int32.toNatClampNeg (x4 + 1))), .ref ao]) (rest := []) ⟨hx, hb, hml, hown, hU⟩ (cl_L_can l C ao f n S hw.wf _ xa (xs (Int32.toNatClampNeg (x4 + 1))) Tx mc ms hst _ hm) (vx_cwSW 3 hU (pq_gS tw1071 tw1072 tw0 tc_L_can) rfl rfl rfl cd_L_can ⟨Nat.le_of_ble_eq_true rfl, Nat.le_of_ble_eq_true rfl⟩) (pw_preS hw) rfl rfl hl.1 rfl (lv_room (Nat.le_of_ble_eq_true rfl)) dL_law__987 ⟨by show _ ≤ room_1.cells; omega, by show _ ≤ room_1.slots; omega⟩) hw.S (fun q _ h => pw_free hw q h) (pw_free hw) (fun q _ h => pw_free hw q h) (fun Es ce q9 u t H1 locs1 ht hvm hpx hB hz1 hk1 hS hce hcv hcl => hpx.elim) (fun k u t H1 locs1 ht hvm hq hB hz1 hk1 hS => ?_)
  obtain ⟨f1, S1⟩ := u
  obtain ⟨hK, hF1, hEx⟩ := hq
  dsimp only at hK hF1 hEx hB
  have hw : PW C (XL C ao f1) S1 (lw_A s) H1 locs1 s := pw_lpost hw ht hvm hF1 hB hS
  obtain ⟨b9, S2, hm2, hth, han, hJ2⟩ := hK
  have Tx : TY S1 xa 11 := ty_ext hEx Tx
  have Tm : TY S1 ma 12 := ty_ext hEx Tm
  refine lv_istore (lv' := [(5, .int k), (0, .ref b), (1, .ref xa), (2, .ref ma), (3, .ref ao), (4, .int x4)]) hx hb dL_law__990 hl (by decide) rfl (fun ls hl => ?_)
  refine lv_aload_n hx hb dL_law__992 rfl (lv_at hl 3 rfl) ?_
  refine lv_aload_n hx hb dL_law__993 rfl (lv_at hl 1 rfl) ?_
  refine lv_iload hx hb dL_law__994 (lv_at hl 5 rfl) ?_
  refine lv_iconst (v := 1) hx hb dL_law__996 (by decide) ?_
  refine lv_iadd hx hb dL_law__997 ?_
  refine va_sld hx hb hX hbl hbA hw.S hi1 dL_law__998 ?_
  refine pw_cz (va_runV (As := [.int (xs (Int32.toNatClampNeg (x4 + 1)))]) (rest := []) ⟨hx, hb, hml, hown, hU⟩ (c_X12_can l C (XL C ao f1) n S1 hw.wf _ ma (xs (Int32.toNatClampNeg (x4 + 1))) Tm b9 S2 hm2) (cwV 1 hU (pq_gV tw1954 tw1955 tw1956 tw14 tc_X12_can) rfl rfl rfl cd_X12_can ⟨Nat.le_of_ble_eq_true rfl, Nat.le_of_ble_eq_true rfl⟩) (pw_preV hw Tm (by decide) rfl) rfl rfl hl.1 rfl (lv_room (Nat.le_of_ble_eq_true rfl)) dL_law__999 ⟨by show _ ≤ room_1.cells; omega, by show _ ≤ room_1.slots; omega⟩) hw (fun H locs hw hx2 hz2 => ?_)
  have Tm : TY S2 ma 12 := ty_ext hx2 Tm
  refine lv_istore (lv' := [(6, .int b9), (5, .int k), (0, .ref b), (1, .ref xa), (2, .ref ma), (3, .ref ao), (4, .int x4)]) hx hb dL_law__1002 hl (by decide) rfl (fun ls hl => ?_)
  refine lv_aload_n hx hb dL_law__1004 rfl (lv_at hl 4 rfl) ?_
  refine pw_ci (va_runV (As := []) (rest := []) ⟨hx, hb, hml, hown, hU⟩ (c_X12_thrown l C (XL C ao f1) n S2 hw.wf _ ma Tm (pI S2 1200 ma) S2 rfl) (cwV 0 hU (pq_gV tw1449 tw1450 tw1451 tw14 tc_X12_thrown) rfl rfl rfl cd_X12_thrown ⟨Nat.le_of_ble_eq_true rfl, Nat.le_of_ble_eq_true rfl⟩) (pw_preV hw Tm (by decide) rfl) rfl rfl hl.1 rfl (lv_room (Nat.le_of_ble_eq_true rfl)) dL_law__1005 ⟨by show _ ≤ room_1.cells; omega, by show _ ≤ room_1.slots; omega⟩) hw (fun H locs hw hx3 => ?_)
  refine lv_iload hx hb dL_law__1008 (lv_at hl 1 rfl) ?_
  refine lv_icmp_eq (tgt := 1015) hx hb dL_law__1010 (by decide) (fun _ => ?_) (fun h9 => absurd hth h9)
  refine lv_iload hx hb dL_law__1015 (lv_at hl 1 rfl) ?_
  refine lv_if_ne (tgt := 1039) hx hb dL_law__1017 (by decide) (fun _ => ?_) (fun h9 => ?_)
  · refine lv_goto (tgt := 3019) hx hb dL_law__1039 (by decide) ?_
    exact W.widen (by omega) (by omega) (hk S2 f1 _ _ ls hJ2 hw (lv_sub hl [2, 3, 4, 5, 6] rfl))
  · refine lv_aload_n hx hb dL_law__1020 rfl (lv_at hl 5 rfl) ?_
    refine lv_iconst (v := 0) hx hb dL_law__1021 (by decide) ?_
    refine pw_lald hx hb hw dL_law__1022 ?_
    refine lv_iload hx hb dL_law__1023 (lv_at hl 0 rfl) ?_
    refine lv_if_eq (tgt := 1032) hx hb dL_law__1025 (by decide) (fun h8 => ?_) (fun h8 => ?_)
    · refine lv_lconst (v := 0) hx hb dL_law__1032 (by decide) ?_
      refine W.lcmp hx hb dL_law__1033 ?_
      refine lv_if_eq (tgt := 1039) hx hb dL_law__1034 (by decide) (fun _ => ?_) (fun h7 => absurd (lw_cmp0 (by rw [han h9, if_pos h8])) h7)
      refine lv_goto (tgt := 3019) hx hb dL_law__1039 (by decide) ?_
      exact W.widen (by omega) (by omega) (hk S2 f1 _ _ ls hJ2 hw (lv_sub hl [2, 3, 4, 5, 6] rfl))
    · refine lv_lconst (v := 1) hx hb dL_law__1028 (by decide) ?_
      refine lv_goto (tgt := 1033) hx hb dL_law__1029 (by decide) ?_
      refine W.lcmp hx hb dL_law__1033 ?_
      refine lv_if_eq (tgt := 1039) hx hb dL_law__1034 (by decide) (fun _ => ?_) (fun h7 => absurd (lw_cmp0 (by rw [han h9, if_neg h8])) h7)
      refine lv_goto (tgt := 3019) hx hb dL_law__1039 (by decide) ?_
      exact W.widen (by omega) (by omega) (hk S2 f1 _ _ ls hJ2 hw (lv_sub hl [2, 3, 4, 5, 6] rfl))
set_option maxHeartbeats 4000000 in
set_option maxRecDepth 100000 in
theorem lc_14 {p : Program} {l : Launch} {e : Env} {s : State} {m : MethodId} {below : List Frame} {meth : Method} {c : Code} {b L : Nat} {xs : Nat → Int32} (C0 : lw_At p s m meth c b L xs) (hst : l.stackTraces = false) (C : pq_C) (n xa ma ao : Nat) (J : pq_S → Prop) (hTY : ∀ S, J S → TY S xa 11 ∧ TY S ma 12) (hob : OB_14 n xa ma J) (x4 : Int32) (hi1 : vp_in (x4 + 1) L) (S : pq_S) (f : Nat → Int64) (H : Heap) (locs : List Loc) (ls : Array Slot) (cells slots : Nat) (hJ : J S) (hcc : cells + 200 ≤ room_1.cells) (hss : slots + 8000 ≤ room_1.slots) (hw : PW C (XL C ao f) S (lw_A s) H locs s) (hl : lv_has ls 8 [(0, .ref b), (1, .ref xa), (2, .ref ma), (3, .ref ao), (4, .int x4)]) (hk : ∀ (S2 : pq_S) (f2 : Nat → Int64) (H2 : Heap) (locs2 : List Loc) (ls2 : Array Slot), J S2 → PW C (XL C ao f2) S2 (lw_A s) H2 locs2 s → lv_has ls2 8 [(0, .ref b), (1, .ref xa), (2, .ref ma), (3, .ref ao), (4, .int x4)] → W p l e room_1 s m #[Value.ref b] below meth c H2 locs2 (cells + 200) (slots + 8000) (lw_Z below #[Value.ref b] s) (F0 m 3019 ls2 [])) : W p l e room_1 s m #[Value.ref b] below meth c H locs cells slots (lw_Z below #[Value.ref b] s) (F0 m 1042 ls []) := by
  obtain ⟨hx, hb, hr, hml, hown, hts, hX, hbl, hlocks, hgv⟩ := id C0
  have hb : c.code = cL_law_ := hb
  have hown : s.vm.findClass RL = some m.cls := hown
  have hbA : ¬ lw_A s b := Nat.not_le.mpr hbl
  have hU : ∀ w ∈ pq_U, w.before _ s = true := fun w h => hts w (List.mem_filter.mp h).1
  obtain ⟨Tx, Tm⟩ := hTY S hJ
  refine lv_aload_n hx hb dL_law__1042 rfl (lv_at hl 1 rfl) ?_
  refine lv_aload_n hx hb dL_law__1043 rfl (lv_at hl 0 rfl) ?_
  refine lv_iload hx hb dL_law__1044 (lv_at hl 4 rfl) ?_
  refine lv_iconst (v := 1) hx hb dL_law__1046 (by decide) ?_
  refine lv_iadd hx hb dL_law__1047 ?_
  refine va_sld hx hb hX hbl hbA hw.S hi1 dL_law__1048 ?_
  refine lv_aload_n hx hb dL_law__1049 rfl (lv_at hl 3 rfl) ?_
  obtain ⟨mc, ms, h1, h2, hm⟩ := hob S f hJ (xs (Int32.toNatClampNeg (x4 + 1)))
  refine vx_calli (vx_runSX (As := [.ref xa, .int (xs (Int32.toNatClampNeg (x4 + 1))), .ref ao]) (rest := []) ⟨hx, hb, hml, hown, hU⟩ (cl_L_sales l C ao f n S hw.wf _ xa (xs (Int32.toNatClampNeg (x4 + 1))) Tx mc ms hst _ hm) (vx_cwSW 3 hU (pq_gS tw1079 tw1080 tw0 tc_L_sales) rfl rfl rfl cd_L_sales ⟨Nat.le_of_ble_eq_true rfl, Nat.le_of_ble_eq_true rfl⟩) (pw_preS hw) rfl rfl hl.1 rfl (lv_room (Nat.le_of_ble_eq_true rfl)) dL_law__1050 ⟨by show _ ≤ room_1.cells; omega, by show _ ≤ room_1.slots; omega⟩) hw.S (fun q _ h => pw_free hw q h) (pw_free hw) (fun q _ h => pw_free hw q h) (fun Es ce q9 u t H1 locs1 ht hvm hpx hB hz1 hk1 hS hce hcv hcl => hpx.elim) (fun k u t H1 locs1 ht hvm hq hB hz1 hk1 hS => ?_)
  obtain ⟨f1, S1⟩ := u
  obtain ⟨hK, hF1, hEx⟩ := hq
  dsimp only at hK hF1 hEx hB
  have hw : PW C (XL C ao f1) S1 (lw_A s) H1 locs1 s := pw_lpost hw ht hvm hF1 hB hS
  obtain ⟨b9, S2, hm2, hth, han, hJ2⟩ := hK
  have Tx : TY S1 xa 11 := ty_ext hEx Tx
  have Tm : TY S1 ma 12 := ty_ext hEx Tm
  refine lv_istore (lv' := [(5, .int k), (0, .ref b), (1, .ref xa), (2, .ref ma), (3, .ref ao), (4, .int x4)]) hx hb dL_law__1053 hl (by decide) rfl (fun ls hl => ?_)
  refine lv_aload_n hx hb dL_law__1055 rfl (lv_at hl 3 rfl) ?_
  refine lv_aload_n hx hb dL_law__1056 rfl (lv_at hl 1 rfl) ?_
  refine lv_iload hx hb dL_law__1057 (lv_at hl 5 rfl) ?_
  refine lv_iconst (v := 1) hx hb dL_law__1059 (by decide) ?_
  refine lv_iadd hx hb dL_law__1060 ?_
  refine va_sld hx hb hX hbl hbA hw.S hi1 dL_law__1061 ?_
  refine pw_ci (va_runV (As := [.int (xs (Int32.toNatClampNeg (x4 + 1)))]) (rest := []) ⟨hx, hb, hml, hown, hU⟩ (c_X12_sales l C (XL C ao f1) n S1 hw.wf _ ma (xs (Int32.toNatClampNeg (x4 + 1))) Tm b9 S2 hm2) (cwV 1 hU (pq_gV tw1958 tw1959 tw1960 tw14 tc_X12_sales) rfl rfl rfl cd_X12_sales ⟨Nat.le_of_ble_eq_true rfl, Nat.le_of_ble_eq_true rfl⟩) (pw_preV hw Tm (by decide) rfl) rfl rfl hl.1 rfl (lv_room (Nat.le_of_ble_eq_true rfl)) dL_law__1062 ⟨by show _ ≤ room_1.cells; omega, by show _ ≤ room_1.slots; omega⟩) hw (fun H locs hw hx2 => ?_)
  have Tm : TY S2 ma 12 := ty_ext hx2 Tm
  refine lv_istore (lv' := [(6, .int b9), (5, .int k), (0, .ref b), (1, .ref xa), (2, .ref ma), (3, .ref ao), (4, .int x4)]) hx hb dL_law__1065 hl (by decide) rfl (fun ls hl => ?_)
  refine lv_aload_n hx hb dL_law__1067 rfl (lv_at hl 4 rfl) ?_
  refine pw_ci (va_runV (As := []) (rest := []) ⟨hx, hb, hml, hown, hU⟩ (c_X12_thrown l C (XL C ao f1) n S2 hw.wf _ ma Tm (pI S2 1200 ma) S2 rfl) (cwV 0 hU (pq_gV tw1449 tw1450 tw1451 tw14 tc_X12_thrown) rfl rfl rfl cd_X12_thrown ⟨Nat.le_of_ble_eq_true rfl, Nat.le_of_ble_eq_true rfl⟩) (pw_preV hw Tm (by decide) rfl) rfl rfl hl.1 rfl (lv_room (Nat.le_of_ble_eq_true rfl)) dL_law__1068 ⟨by show _ ≤ room_1.cells; omega, by show _ ≤ room_1.slots; omega⟩) hw (fun H locs hw hx3 => ?_)
  refine lv_iload hx hb dL_law__1071 (lv_at hl 1 rfl) ?_
  refine lv_icmp_eq (tgt := 1078) hx hb dL_law__1073 (by decide) (fun _ => ?_) (fun h9 => absurd hth h9)
  refine lv_iload hx hb dL_law__1078 (lv_at hl 1 rfl) ?_
  refine lv_if_ne (tgt := 1095) hx hb dL_law__1080 (by decide) (fun _ => ?_) (fun h9 => ?_)
  · refine lv_goto (tgt := 3019) hx hb dL_law__1095 (by decide) ?_
    exact W.widen (by omega) (by omega) (hk S2 f1 _ _ ls hJ2 hw (lv_sub hl [2, 3, 4, 5, 6] rfl))
  · refine lv_aload_n hx hb dL_law__1083 rfl (lv_at hl 5 rfl) ?_
    refine lv_iconst (v := 0) hx hb dL_law__1084 (by decide) ?_
    refine pw_lald hx hb hw dL_law__1085 ?_
    refine lv_iload hx hb dL_law__1086 (lv_at hl 0 rfl) ?_
    refine lv_i2l (v := Int32.toInt64 b9) hx hb dL_law__1088 rfl ?_
    refine W.lcmp hx hb dL_law__1089 ?_
    refine lv_if_eq (tgt := 1095) hx hb dL_law__1090 (by decide) (fun _ => ?_) (fun h7 => absurd (lw_cmp0 (han h9)) h7)
    refine lv_goto (tgt := 3019) hx hb dL_law__1095 (by decide) ?_
    exact W.widen (by omega) (by omega) (hk S2 f1 _ _ ls hJ2 hw (lv_sub hl [2, 3, 4, 5, 6] rfl))
set_option maxHeartbeats 4000000 in
set_option maxRecDepth 100000 in
theorem lc_15 {p : Program} {l : Launch} {e : Env} {s : State} {m : MethodId} {below : List Frame} {meth : Method} {c : Code} {b L : Nat} {xs : Nat → Int32} (C0 : lw_At p s m meth c b L xs) (hst : l.stackTraces = false) (C : pq_C) (n xa ma ao : Nat) (J : pq_S → Prop) (hTY : ∀ S, J S → TY S xa 11 ∧ TY S ma 12) (hob : OB_15 n xa ma J) (x4 : Int32) (hi1 : vp_in (x4 + 1) L) (hi2 : vp_in (x4 + 2) L) (S : pq_S) (f : Nat → Int64) (H : Heap) (locs : List Loc) (ls : Array Slot) (cells slots : Nat) (hJ : J S) (hcc : cells + 200 ≤ room_1.cells) (hss : slots + 8000 ≤ room_1.slots) (hw : PW C (XL C ao f) S (lw_A s) H locs s) (hl : lv_has ls 8 [(0, .ref b), (1, .ref xa), (2, .ref ma), (3, .ref ao), (4, .int x4)]) (hk : ∀ (S2 : pq_S) (f2 : Nat → Int64) (H2 : Heap) (locs2 : List Loc) (ls2 : Array Slot), J S2 → PW C (XL C ao f2) S2 (lw_A s) H2 locs2 s → lv_has ls2 8 [(0, .ref b), (1, .ref xa), (2, .ref ma), (3, .ref ao), (4, .int x4)] → W p l e room_1 s m #[Value.ref b] below meth c H2 locs2 (cells + 200) (slots + 8000) (lw_Z below #[Value.ref b] s) (F0 m 3019 ls2 [])) : W p l e room_1 s m #[Value.ref b] below meth c H locs cells slots (lw_Z below #[Value.ref b] s) (F0 m 1098 ls []) := by
  obtain ⟨hx, hb, hr, hml, hown, hts, hX, hbl, hlocks, hgv⟩ := id C0
  have hb : c.code = cL_law_ := hb
  have hown : s.vm.findClass RL = some m.cls := hown
  have hbA : ¬ lw_A s b := Nat.not_le.mpr hbl
  have hU : ∀ w ∈ pq_U, w.before _ s = true := fun w h => hts w (List.mem_filter.mp h).1
  obtain ⟨Tx, Tm⟩ := hTY S hJ
  refine lv_aload_n hx hb dL_law__1098 rfl (lv_at hl 1 rfl) ?_
  refine lv_aload_n hx hb dL_law__1099 rfl (lv_at hl 0 rfl) ?_
  refine lv_iload hx hb dL_law__1100 (lv_at hl 4 rfl) ?_
  refine lv_iconst (v := 1) hx hb dL_law__1102 (by decide) ?_
  refine lv_iadd hx hb dL_law__1103 ?_
  refine va_sld hx hb hX hbl hbA hw.S hi1 dL_law__1104 ?_
  refine lv_aload_n hx hb dL_law__1105 rfl (lv_at hl 0 rfl) ?_
  refine lv_iload hx hb dL_law__1106 (lv_at hl 4 rfl) ?_
  refine lv_iconst (v := 2) hx hb dL_law__1108 (by decide) ?_
  refine lv_iadd hx hb dL_law__1109 ?_
  refine va_sld hx hb hX hbl hbA hw.S hi2 dL_law__1110 ?_
  refine lv_aload_n hx hb dL_law__1111 rfl (lv_at hl 3 rfl) ?_
  obtain ⟨mc, ms, h1, h2, hm⟩ := hob S f hJ (xs (Int32.toNatClampNeg (x4 + 1))) (xs (Int32.toNatClampNeg (x4 + 2)))
  refine vx_calli (vx_runSX (As := [.ref xa, .int (xs (Int32.toNatClampNeg (x4 + 1))), .int (xs (Int32.toNatClampNeg (x4 + 2))), .ref ao]) (rest := []) ⟨hx, hb, hml, hown, hU⟩ (cl_L_more l C ao f n S hw.wf _ xa (xs (Int32.toNatClampNeg (x4 + 1))) (xs (Int32.toNatClampNeg (x4 + 2))) Tx mc ms hst _ hm) (vx_cwSW 4 hU (pq_gS tw1116 tw1117 tw0 tc_L_more) rfl rfl rfl cd_L_more ⟨Nat.le_of_ble_eq_true rfl, Nat.le_of_ble_eq_true rfl⟩) (pw_preS hw) rfl rfl hl.1 rfl (lv_room (Nat.le_of_ble_eq_true rfl)) dL_law__1112 ⟨by show _ ≤ room_1.cells; omega, by show _ ≤ room_1.slots; omega⟩) hw.S (fun q _ h => pw_free hw q h) (pw_free hw) (fun q _ h => pw_free hw q h) (fun Es ce q9 u t H1 locs1 ht hvm hpx hB hz1 hk1 hS hce hcv hcl => hpx.elim) (fun k u t H1 locs1 ht hvm hq hB hz1 hk1 hS => ?_)
  obtain ⟨f1, S1⟩ := u
  obtain ⟨hK, hF1, hEx⟩ := hq
  dsimp only at hK hF1 hEx hB
  have hw : PW C (XL C ao f1) S1 (lw_A s) H1 locs1 s := pw_lpost hw ht hvm hF1 hB hS
  obtain ⟨b9, S2, hm2, hth, han, hJ2⟩ := hK
  have Tx : TY S1 xa 11 := ty_ext hEx Tx
  have Tm : TY S1 ma 12 := ty_ext hEx Tm
  refine lv_istore (lv' := [(5, .int k), (0, .ref b), (1, .ref xa), (2, .ref ma), (3, .ref ao), (4, .int x4)]) hx hb dL_law__1115 hl (by decide) rfl (fun ls hl => ?_)
  refine lv_aload_n hx hb dL_law__1117 rfl (lv_at hl 3 rfl) ?_
  refine lv_aload_n hx hb dL_law__1118 rfl (lv_at hl 1 rfl) ?_
  refine lv_iload hx hb dL_law__1119 (lv_at hl 5 rfl) ?_
  refine lv_iconst (v := 1) hx hb dL_law__1121 (by decide) ?_
  refine lv_iadd hx hb dL_law__1122 ?_
  refine va_sld hx hb hX hbl hbA hw.S hi1 dL_law__1123 ?_
  refine lv_aload_n hx hb dL_law__1124 rfl (lv_at hl 1 rfl) ?_
  refine lv_iload hx hb dL_law__1125 (lv_at hl 5 rfl) ?_
  refine lv_iconst (v := 2) hx hb dL_law__1127 (by decide) ?_
  refine lv_iadd hx hb dL_law__1128 ?_
  refine va_sld hx hb hX hbl hbA hw.S hi2 dL_law__1129 ?_
  refine pw_ci (va_runV (As := [.int (xs (Int32.toNatClampNeg (x4 + 1))), .int (xs (Int32.toNatClampNeg (x4 + 2)))]) (rest := []) ⟨hx, hb, hml, hown, hU⟩ (c_X12_more l C (XL C ao f1) n S1 hw.wf _ ma (xs (Int32.toNatClampNeg (x4 + 1))) (xs (Int32.toNatClampNeg (x4 + 2))) Tm b9 S2 hm2) (cwV 2 hU (pq_gV tw1966 tw1967 tw1968 tw14 tc_X12_more) rfl rfl rfl cd_X12_more ⟨Nat.le_of_ble_eq_true rfl, Nat.le_of_ble_eq_true rfl⟩) (pw_preV hw Tm (by decide) rfl) rfl rfl hl.1 rfl (lv_room (Nat.le_of_ble_eq_true rfl)) dL_law__1130 ⟨by show _ ≤ room_1.cells; omega, by show _ ≤ room_1.slots; omega⟩) hw (fun H locs hw hx2 => ?_)
  have Tm : TY S2 ma 12 := ty_ext hx2 Tm
  refine lv_istore (lv' := [(6, .int b9), (5, .int k), (0, .ref b), (1, .ref xa), (2, .ref ma), (3, .ref ao), (4, .int x4)]) hx hb dL_law__1133 hl (by decide) rfl (fun ls hl => ?_)
  refine lv_aload_n hx hb dL_law__1135 rfl (lv_at hl 4 rfl) ?_
  refine pw_ci (va_runV (As := []) (rest := []) ⟨hx, hb, hml, hown, hU⟩ (c_X12_thrown l C (XL C ao f1) n S2 hw.wf _ ma Tm (pI S2 1200 ma) S2 rfl) (cwV 0 hU (pq_gV tw1449 tw1450 tw1451 tw14 tc_X12_thrown) rfl rfl rfl cd_X12_thrown ⟨Nat.le_of_ble_eq_true rfl, Nat.le_of_ble_eq_true rfl⟩) (pw_preV hw Tm (by decide) rfl) rfl rfl hl.1 rfl (lv_room (Nat.le_of_ble_eq_true rfl)) dL_law__1136 ⟨by show _ ≤ room_1.cells; omega, by show _ ≤ room_1.slots; omega⟩) hw (fun H locs hw hx3 => ?_)
  refine lv_iload hx hb dL_law__1139 (lv_at hl 1 rfl) ?_
  refine lv_icmp_eq (tgt := 1146) hx hb dL_law__1141 (by decide) (fun _ => ?_) (fun h9 => absurd hth h9)
  refine lv_iload hx hb dL_law__1146 (lv_at hl 1 rfl) ?_
  refine lv_if_ne (tgt := 1163) hx hb dL_law__1148 (by decide) (fun _ => ?_) (fun h9 => ?_)
  · refine lv_goto (tgt := 3019) hx hb dL_law__1163 (by decide) ?_
    exact W.widen (by omega) (by omega) (hk S2 f1 _ _ ls hJ2 hw (lv_sub hl [2, 3, 4, 5, 6] rfl))
  · refine lv_aload_n hx hb dL_law__1151 rfl (lv_at hl 5 rfl) ?_
    refine lv_iconst (v := 0) hx hb dL_law__1152 (by decide) ?_
    refine pw_lald hx hb hw dL_law__1153 ?_
    refine lv_iload hx hb dL_law__1154 (lv_at hl 0 rfl) ?_
    refine lv_i2l (v := Int32.toInt64 b9) hx hb dL_law__1156 rfl ?_
    refine W.lcmp hx hb dL_law__1157 ?_
    refine lv_if_eq (tgt := 1163) hx hb dL_law__1158 (by decide) (fun _ => ?_) (fun h7 => absurd (lw_cmp0 (han h9)) h7)
    refine lv_goto (tgt := 3019) hx hb dL_law__1163 (by decide) ?_
    exact W.widen (by omega) (by omega) (hk S2 f1 _ _ ls hJ2 hw (lv_sub hl [2, 3, 4, 5, 6] rfl))
set_option maxHeartbeats 4000000 in
set_option maxRecDepth 100000 in
theorem lc_16 {p : Program} {l : Launch} {e : Env} {s : State} {m : MethodId} {below : List Frame} {meth : Method} {c : Code} {b L : Nat} {xs : Nat → Int32} (C0 : lw_At p s m meth c b L xs) (hst : l.stackTraces = false) (C : pq_C) (n xa ma ao : Nat) (J : pq_S → Prop) (hTY : ∀ S, J S → TY S xa 11 ∧ TY S ma 12) (hob : OB_16 n xa ma J) (x4 : Int32) (hi1 : vp_in (x4 + 1) L) (hi2 : vp_in (x4 + 2) L) (hi3 : vp_in (x4 + 3) L) (S : pq_S) (f : Nat → Int64) (H : Heap) (locs : List Loc) (ls : Array Slot) (cells slots : Nat) (hJ : J S) (hcc : cells + 200 ≤ room_1.cells) (hss : slots + 8000 ≤ room_1.slots) (hw : PW C (XL C ao f) S (lw_A s) H locs s) (hl : lv_has ls 8 [(0, .ref b), (1, .ref xa), (2, .ref ma), (3, .ref ao), (4, .int x4)]) (hk : ∀ (S2 : pq_S) (f2 : Nat → Int64) (H2 : Heap) (locs2 : List Loc) (ls2 : Array Slot), J S2 → PW C (XL C ao f2) S2 (lw_A s) H2 locs2 s → lv_has ls2 8 [(0, .ref b), (1, .ref xa), (2, .ref ma), (3, .ref ao), (4, .int x4)] → W p l e room_1 s m #[Value.ref b] below meth c H2 locs2 (cells + 200) (slots + 8000) (lw_Z below #[Value.ref b] s) (F0 m 3019 ls2 [])) : W p l e room_1 s m #[Value.ref b] below meth c H locs cells slots (lw_Z below #[Value.ref b] s) (F0 m 1166 ls []) := by
  obtain ⟨hx, hb, hr, hml, hown, hts, hX, hbl, hlocks, hgv⟩ := id C0
  have hb : c.code = cL_law_ := hb
  have hown : s.vm.findClass RL = some m.cls := hown
  have hbA : ¬ lw_A s b := Nat.not_le.mpr hbl
  have hU : ∀ w ∈ pq_U, w.before _ s = true := fun w h => hts w (List.mem_filter.mp h).1
  obtain ⟨Tx, Tm⟩ := hTY S hJ
  refine lv_aload_n hx hb dL_law__1166 rfl (lv_at hl 1 rfl) ?_
  refine lv_aload_n hx hb dL_law__1167 rfl (lv_at hl 0 rfl) ?_
  refine lv_iload hx hb dL_law__1168 (lv_at hl 4 rfl) ?_
  refine lv_iconst (v := 1) hx hb dL_law__1170 (by decide) ?_
  refine lv_iadd hx hb dL_law__1171 ?_
  refine va_sld hx hb hX hbl hbA hw.S hi1 dL_law__1172 ?_
  refine lv_aload_n hx hb dL_law__1173 rfl (lv_at hl 0 rfl) ?_
  refine lv_iload hx hb dL_law__1174 (lv_at hl 4 rfl) ?_
  refine lv_iconst (v := 2) hx hb dL_law__1176 (by decide) ?_
  refine lv_iadd hx hb dL_law__1177 ?_
  refine va_sld hx hb hX hbl hbA hw.S hi2 dL_law__1178 ?_
  refine lv_aload_n hx hb dL_law__1179 rfl (lv_at hl 0 rfl) ?_
  refine lv_iload hx hb dL_law__1180 (lv_at hl 4 rfl) ?_
  refine lv_iconst (v := 3) hx hb dL_law__1182 (by decide) ?_
  refine lv_iadd hx hb dL_law__1183 ?_
  refine va_sld hx hb hX hbl hbA hw.S hi3 dL_law__1184 ?_
  refine lv_aload_n hx hb dL_law__1185 rfl (lv_at hl 3 rfl) ?_
  obtain ⟨mc, ms, h1, h2, hm⟩ := hob S f hJ (xs (Int32.toNatClampNeg (x4 + 1))) (xs (Int32.toNatClampNeg (x4 + 2))) (xs (Int32.toNatClampNeg (x4 + 3)))
  refine vx_calli (vx_runSX (As := [.ref xa, .int (xs (Int32.toNatClampNeg (x4 + 1))), .int (xs (Int32.toNatClampNeg (x4 + 2))), .int (xs (Int32.toNatClampNeg (x4 + 3))), .ref ao]) (rest := []) ⟨hx, hb, hml, hown, hU⟩ (cl_L_brings l C ao f n S hw.wf _ xa (xs (Int32.toNatClampNeg (x4 + 1))) (xs (Int32.toNatClampNeg (x4 + 2))) (xs (Int32.toNatClampNeg (x4 + 3))) Tx mc ms hst _ hm) (vx_cwSW 5 hU (pq_gS tw1123 tw1124 tw0 tc_L_brings) rfl rfl rfl cd_L_brings ⟨Nat.le_of_ble_eq_true rfl, Nat.le_of_ble_eq_true rfl⟩) (pw_preS hw) rfl rfl hl.1 rfl (lv_room (Nat.le_of_ble_eq_true rfl)) dL_law__1186 ⟨by show _ ≤ room_1.cells; omega, by show _ ≤ room_1.slots; omega⟩) hw.S (fun q _ h => pw_free hw q h) (pw_free hw) (fun q _ h => pw_free hw q h) (fun Es ce q9 u t H1 locs1 ht hvm hpx hB hz1 hk1 hS hce hcv hcl => hpx.elim) (fun k u t H1 locs1 ht hvm hq hB hz1 hk1 hS => ?_)
  obtain ⟨f1, S1⟩ := u
  obtain ⟨hK, hF1, hEx⟩ := hq
  dsimp only at hK hF1 hEx hB
  have hw : PW C (XL C ao f1) S1 (lw_A s) H1 locs1 s := pw_lpost hw ht hvm hF1 hB hS
  obtain ⟨b9, S2, hm2, hth, han, hJ2⟩ := hK
  have Tx : TY S1 xa 11 := ty_ext hEx Tx
  have Tm : TY S1 ma 12 := ty_ext hEx Tm
  refine lv_istore (lv' := [(5, .int k), (0, .ref b), (1, .ref xa), (2, .ref ma), (3, .ref ao), (4, .int x4)]) hx hb dL_law__1189 hl (by decide) rfl (fun ls hl => ?_)
  refine lv_aload_n hx hb dL_law__1191 rfl (lv_at hl 3 rfl) ?_
  refine lv_aload_n hx hb dL_law__1192 rfl (lv_at hl 1 rfl) ?_
  refine lv_iload hx hb dL_law__1193 (lv_at hl 5 rfl) ?_
  refine lv_iconst (v := 1) hx hb dL_law__1195 (by decide) ?_
  refine lv_iadd hx hb dL_law__1196 ?_
  refine va_sld hx hb hX hbl hbA hw.S hi1 dL_law__1197 ?_
  refine lv_aload_n hx hb dL_law__1198 rfl (lv_at hl 1 rfl) ?_
  refine lv_iload hx hb dL_law__1199 (lv_at hl 5 rfl) ?_
  refine lv_iconst (v := 2) hx hb dL_law__1201 (by decide) ?_
  refine lv_iadd hx hb dL_law__1202 ?_
  refine va_sld hx hb hX hbl hbA hw.S hi2 dL_law__1203 ?_
  refine lv_aload_n hx hb dL_law__1204 rfl (lv_at hl 1 rfl) ?_
  refine lv_iload hx hb dL_law__1205 (lv_at hl 5 rfl) ?_
  refine lv_iconst (v := 3) hx hb dL_law__1207 (by decide) ?_
  refine lv_iadd hx hb dL_law__1208 ?_
  refine va_sld hx hb hX hbl hbA hw.S hi3 dL_law__1209 ?_
  refine pw_ci (va_runV (As := [.int (xs (Int32.toNatClampNeg (x4 + 1))), .int (xs (Int32.toNatClampNeg (x4 + 2))), .int (xs (Int32.toNatClampNeg (x4 + 3)))]) (rest := []) ⟨hx, hb, hml, hown, hU⟩ (c_X12_brings l C (XL C ao f1) n S1 hw.wf _ ma (xs (Int32.toNatClampNeg (x4 + 1))) (xs (Int32.toNatClampNeg (x4 + 2))) (xs (Int32.toNatClampNeg (x4 + 3))) Tm b9 S2 hm2) (cwV 3 hU (pq_gV tw1970 tw1971 tw1972 tw14 tc_X12_brings) rfl rfl rfl cd_X12_brings ⟨Nat.le_of_ble_eq_true rfl, Nat.le_of_ble_eq_true rfl⟩) (pw_preV hw Tm (by decide) rfl) rfl rfl hl.1 rfl (lv_room (Nat.le_of_ble_eq_true rfl)) dL_law__1210 ⟨by show _ ≤ room_1.cells; omega, by show _ ≤ room_1.slots; omega⟩) hw (fun H locs hw hx2 => ?_)
  have Tm : TY S2 ma 12 := ty_ext hx2 Tm
  refine lv_istore (lv' := [(6, .int b9), (5, .int k), (0, .ref b), (1, .ref xa), (2, .ref ma), (3, .ref ao), (4, .int x4)]) hx hb dL_law__1213 hl (by decide) rfl (fun ls hl => ?_)
  refine lv_aload_n hx hb dL_law__1215 rfl (lv_at hl 4 rfl) ?_
  refine pw_ci (va_runV (As := []) (rest := []) ⟨hx, hb, hml, hown, hU⟩ (c_X12_thrown l C (XL C ao f1) n S2 hw.wf _ ma Tm (pI S2 1200 ma) S2 rfl) (cwV 0 hU (pq_gV tw1449 tw1450 tw1451 tw14 tc_X12_thrown) rfl rfl rfl cd_X12_thrown ⟨Nat.le_of_ble_eq_true rfl, Nat.le_of_ble_eq_true rfl⟩) (pw_preV hw Tm (by decide) rfl) rfl rfl hl.1 rfl (lv_room (Nat.le_of_ble_eq_true rfl)) dL_law__1216 ⟨by show _ ≤ room_1.cells; omega, by show _ ≤ room_1.slots; omega⟩) hw (fun H locs hw hx3 => ?_)
  refine lv_iload hx hb dL_law__1219 (lv_at hl 1 rfl) ?_
  refine lv_icmp_eq (tgt := 1226) hx hb dL_law__1221 (by decide) (fun _ => ?_) (fun h9 => absurd hth h9)
  refine lv_iload hx hb dL_law__1226 (lv_at hl 1 rfl) ?_
  refine lv_if_ne (tgt := 1243) hx hb dL_law__1228 (by decide) (fun _ => ?_) (fun h9 => ?_)
  · refine lv_goto (tgt := 3019) hx hb dL_law__1243 (by decide) ?_
    exact W.widen (by omega) (by omega) (hk S2 f1 _ _ ls hJ2 hw (lv_sub hl [2, 3, 4, 5, 6] rfl))
  · refine lv_aload_n hx hb dL_law__1231 rfl (lv_at hl 5 rfl) ?_
    refine lv_iconst (v := 0) hx hb dL_law__1232 (by decide) ?_
    refine pw_lald hx hb hw dL_law__1233 ?_
    refine lv_iload hx hb dL_law__1234 (lv_at hl 0 rfl) ?_
    refine lv_i2l (v := Int32.toInt64 b9) hx hb dL_law__1236 rfl ?_
    refine W.lcmp hx hb dL_law__1237 ?_
    refine lv_if_eq (tgt := 1243) hx hb dL_law__1238 (by decide) (fun _ => ?_) (fun h7 => absurd (lw_cmp0 (han h9)) h7)
    refine lv_goto (tgt := 3019) hx hb dL_law__1243 (by decide) ?_
    exact W.widen (by omega) (by omega) (hk S2 f1 _ _ ls hJ2 hw (lv_sub hl [2, 3, 4, 5, 6] rfl))
set_option maxHeartbeats 4000000 in
set_option maxRecDepth 100000 in
theorem lc_17 {p : Program} {l : Launch} {e : Env} {s : State} {m : MethodId} {below : List Frame} {meth : Method} {c : Code} {b L : Nat} {xs : Nat → Int32} (C0 : lw_At p s m meth c b L xs) (hst : l.stackTraces = false) (C : pq_C) (n xa ma ao : Nat) (J : pq_S → Prop) (hTY : ∀ S, J S → TY S xa 11 ∧ TY S ma 12) (hob : OB_17 n xa ma J) (x4 : Int32) (hi1 : vp_in (x4 + 1) L) (S : pq_S) (f : Nat → Int64) (H : Heap) (locs : List Loc) (ls : Array Slot) (cells slots : Nat) (hJ : J S) (hcc : cells + 200 ≤ room_1.cells) (hss : slots + 8000 ≤ room_1.slots) (hw : PW C (XL C ao f) S (lw_A s) H locs s) (hl : lv_has ls 8 [(0, .ref b), (1, .ref xa), (2, .ref ma), (3, .ref ao), (4, .int x4)]) (hk : ∀ (S2 : pq_S) (f2 : Nat → Int64) (H2 : Heap) (locs2 : List Loc) (ls2 : Array Slot), J S2 → PW C (XL C ao f2) S2 (lw_A s) H2 locs2 s → lv_has ls2 8 [(0, .ref b), (1, .ref xa), (2, .ref ma), (3, .ref ao), (4, .int x4)] → W p l e room_1 s m #[Value.ref b] below meth c H2 locs2 (cells + 200) (slots + 8000) (lw_Z below #[Value.ref b] s) (F0 m 3019 ls2 [])) : W p l e room_1 s m #[Value.ref b] below meth c H locs cells slots (lw_Z below #[Value.ref b] s) (F0 m 1246 ls []) := by
  obtain ⟨hx, hb, hr, hml, hown, hts, hX, hbl, hlocks, hgv⟩ := id C0
  have hb : c.code = cL_law_ := hb
  have hown : s.vm.findClass RL = some m.cls := hown
  have hbA : ¬ lw_A s b := Nat.not_le.mpr hbl
  have hU : ∀ w ∈ pq_U, w.before _ s = true := fun w h => hts w (List.mem_filter.mp h).1
  obtain ⟨Tx, Tm⟩ := hTY S hJ
  refine lv_aload_n hx hb dL_law__1246 rfl (lv_at hl 1 rfl) ?_
  refine lv_aload_n hx hb dL_law__1247 rfl (lv_at hl 0 rfl) ?_
  refine lv_iload hx hb dL_law__1248 (lv_at hl 4 rfl) ?_
  refine lv_iconst (v := 1) hx hb dL_law__1250 (by decide) ?_
  refine lv_iadd hx hb dL_law__1251 ?_
  refine va_sld hx hb hX hbl hbA hw.S hi1 dL_law__1252 ?_
  refine lv_aload_n hx hb dL_law__1253 rfl (lv_at hl 3 rfl) ?_
  obtain ⟨mc, ms, h1, h2, hm⟩ := hob S f hJ (xs (Int32.toNatClampNeg (x4 + 1)))
  refine vx_calli (vx_runSX (As := [.ref xa, .int (xs (Int32.toNatClampNeg (x4 + 1))), .ref ao]) (rest := []) ⟨hx, hb, hml, hown, hU⟩ (cl_L_price l C ao f n S hw.wf _ xa (xs (Int32.toNatClampNeg (x4 + 1))) Tx mc ms hst _ hm) (vx_cwSW 3 hU (pq_gS tw1136 tw1137 tw0 tc_L_price) rfl rfl rfl cd_L_price ⟨Nat.le_of_ble_eq_true rfl, Nat.le_of_ble_eq_true rfl⟩) (pw_preS hw) rfl rfl hl.1 rfl (lv_room (Nat.le_of_ble_eq_true rfl)) dL_law__1254 ⟨by show _ ≤ room_1.cells; omega, by show _ ≤ room_1.slots; omega⟩) hw.S (fun q _ h => pw_free hw q h) (pw_free hw) (fun q _ h => pw_free hw q h) (fun Es ce q9 u t H1 locs1 ht hvm hpx hB hz1 hk1 hS hce hcv hcl => hpx.elim) (fun k u t H1 locs1 ht hvm hq hB hz1 hk1 hS => ?_)
  obtain ⟨f1, S1⟩ := u
  obtain ⟨hK, hF1, hEx⟩ := hq
  dsimp only at hK hF1 hEx hB
  have hw : PW C (XL C ao f1) S1 (lw_A s) H1 locs1 s := pw_lpost hw ht hvm hF1 hB hS
  obtain ⟨b9, S2, hm2, hth, han, hJ2⟩ := hK
  have Tx : TY S1 xa 11 := ty_ext hEx Tx
  have Tm : TY S1 ma 12 := ty_ext hEx Tm
  refine lv_istore (lv' := [(5, .int k), (0, .ref b), (1, .ref xa), (2, .ref ma), (3, .ref ao), (4, .int x4)]) hx hb dL_law__1257 hl (by decide) rfl (fun ls hl => ?_)
  refine lv_aload_n hx hb dL_law__1259 rfl (lv_at hl 3 rfl) ?_
  refine lv_aload_n hx hb dL_law__1260 rfl (lv_at hl 1 rfl) ?_
  refine lv_iload hx hb dL_law__1261 (lv_at hl 5 rfl) ?_
  refine lv_iconst (v := 1) hx hb dL_law__1263 (by decide) ?_
  refine lv_iadd hx hb dL_law__1264 ?_
  refine va_sld hx hb hX hbl hbA hw.S hi1 dL_law__1265 ?_
  refine pw_ci (va_runV (As := [.int (xs (Int32.toNatClampNeg (x4 + 1)))]) (rest := []) ⟨hx, hb, hml, hown, hU⟩ (c_X12_price l C (XL C ao f1) n S1 hw.wf _ ma (xs (Int32.toNatClampNeg (x4 + 1))) Tm b9 S2 hm2) (cwV 1 hU (pq_gV tw1974 tw1975 tw1976 tw14 tc_X12_price) rfl rfl rfl cd_X12_price ⟨Nat.le_of_ble_eq_true rfl, Nat.le_of_ble_eq_true rfl⟩) (pw_preV hw Tm (by decide) rfl) rfl rfl hl.1 rfl (lv_room (Nat.le_of_ble_eq_true rfl)) dL_law__1266 ⟨by show _ ≤ room_1.cells; omega, by show _ ≤ room_1.slots; omega⟩) hw (fun H locs hw hx2 => ?_)
  have Tm : TY S2 ma 12 := ty_ext hx2 Tm
  refine lv_istore (lv' := [(6, .int b9), (5, .int k), (0, .ref b), (1, .ref xa), (2, .ref ma), (3, .ref ao), (4, .int x4)]) hx hb dL_law__1269 hl (by decide) rfl (fun ls hl => ?_)
  refine lv_aload_n hx hb dL_law__1271 rfl (lv_at hl 4 rfl) ?_
  refine pw_ci (va_runV (As := []) (rest := []) ⟨hx, hb, hml, hown, hU⟩ (c_X12_thrown l C (XL C ao f1) n S2 hw.wf _ ma Tm (pI S2 1200 ma) S2 rfl) (cwV 0 hU (pq_gV tw1449 tw1450 tw1451 tw14 tc_X12_thrown) rfl rfl rfl cd_X12_thrown ⟨Nat.le_of_ble_eq_true rfl, Nat.le_of_ble_eq_true rfl⟩) (pw_preV hw Tm (by decide) rfl) rfl rfl hl.1 rfl (lv_room (Nat.le_of_ble_eq_true rfl)) dL_law__1272 ⟨by show _ ≤ room_1.cells; omega, by show _ ≤ room_1.slots; omega⟩) hw (fun H locs hw hx3 => ?_)
  refine lv_iload hx hb dL_law__1275 (lv_at hl 1 rfl) ?_
  refine lv_icmp_eq (tgt := 1282) hx hb dL_law__1277 (by decide) (fun _ => ?_) (fun h9 => absurd hth h9)
  refine lv_iload hx hb dL_law__1282 (lv_at hl 1 rfl) ?_
  refine lv_if_ne (tgt := 1299) hx hb dL_law__1284 (by decide) (fun _ => ?_) (fun h9 => ?_)
  · refine lv_goto (tgt := 3019) hx hb dL_law__1299 (by decide) ?_
    exact W.widen (by omega) (by omega) (hk S2 f1 _ _ ls hJ2 hw (lv_sub hl [2, 3, 4, 5, 6] rfl))
  · refine lv_aload_n hx hb dL_law__1287 rfl (lv_at hl 5 rfl) ?_
    refine lv_iconst (v := 0) hx hb dL_law__1288 (by decide) ?_
    refine pw_lald hx hb hw dL_law__1289 ?_
    refine lv_iload hx hb dL_law__1290 (lv_at hl 0 rfl) ?_
    refine lv_i2l (v := Int32.toInt64 b9) hx hb dL_law__1292 rfl ?_
    refine W.lcmp hx hb dL_law__1293 ?_
    refine lv_if_eq (tgt := 1299) hx hb dL_law__1294 (by decide) (fun _ => ?_) (fun h7 => absurd (lw_cmp0 (han h9)) h7)
    refine lv_goto (tgt := 3019) hx hb dL_law__1299 (by decide) ?_
    exact W.widen (by omega) (by omega) (hk S2 f1 _ _ ls hJ2 hw (lv_sub hl [2, 3, 4, 5, 6] rfl))
set_option maxHeartbeats 4000000 in
set_option maxRecDepth 100000 in
theorem lc_18 {p : Program} {l : Launch} {e : Env} {s : State} {m : MethodId} {below : List Frame} {meth : Method} {c : Code} {b L : Nat} {xs : Nat → Int32} (C0 : lw_At p s m meth c b L xs) (hst : l.stackTraces = false) (C : pq_C) (n xa ma ao : Nat) (J : pq_S → Prop) (hTY : ∀ S, J S → TY S xa 11 ∧ TY S ma 12) (hob : OB_18 n xa ma J) (x4 : Int32) (hi1 : vp_in (x4 + 1) L) (hi2 : vp_in (x4 + 2) L) (S : pq_S) (f : Nat → Int64) (H : Heap) (locs : List Loc) (ls : Array Slot) (cells slots : Nat) (hJ : J S) (hcc : cells + 200 ≤ room_1.cells) (hss : slots + 8000 ≤ room_1.slots) (hw : PW C (XL C ao f) S (lw_A s) H locs s) (hl : lv_has ls 8 [(0, .ref b), (1, .ref xa), (2, .ref ma), (3, .ref ao), (4, .int x4)]) (hk : ∀ (S2 : pq_S) (f2 : Nat → Int64) (H2 : Heap) (locs2 : List Loc) (ls2 : Array Slot), J S2 → PW C (XL C ao f2) S2 (lw_A s) H2 locs2 s → lv_has ls2 8 [(0, .ref b), (1, .ref xa), (2, .ref ma), (3, .ref ao), (4, .int x4)] → W p l e room_1 s m #[Value.ref b] below meth c H2 locs2 (cells + 200) (slots + 8000) (lw_Z below #[Value.ref b] s) (F0 m 3019 ls2 [])) : W p l e room_1 s m #[Value.ref b] below meth c H locs cells slots (lw_Z below #[Value.ref b] s) (F0 m 1302 ls []) := by
  obtain ⟨hx, hb, hr, hml, hown, hts, hX, hbl, hlocks, hgv⟩ := id C0
  have hb : c.code = cL_law_ := hb
  have hown : s.vm.findClass RL = some m.cls := hown
  have hbA : ¬ lw_A s b := Nat.not_le.mpr hbl
  have hU : ∀ w ∈ pq_U, w.before _ s = true := fun w h => hts w (List.mem_filter.mp h).1
  obtain ⟨Tx, Tm⟩ := hTY S hJ
  refine lv_aload_n hx hb dL_law__1302 rfl (lv_at hl 1 rfl) ?_
  refine lv_aload_n hx hb dL_law__1303 rfl (lv_at hl 0 rfl) ?_
  refine lv_iload hx hb dL_law__1304 (lv_at hl 4 rfl) ?_
  refine lv_iconst (v := 1) hx hb dL_law__1306 (by decide) ?_
  refine lv_iadd hx hb dL_law__1307 ?_
  refine va_sld hx hb hX hbl hbA hw.S hi1 dL_law__1308 ?_
  refine lv_aload_n hx hb dL_law__1309 rfl (lv_at hl 0 rfl) ?_
  refine lv_iload hx hb dL_law__1310 (lv_at hl 4 rfl) ?_
  refine lv_iconst (v := 2) hx hb dL_law__1312 (by decide) ?_
  refine lv_iadd hx hb dL_law__1313 ?_
  refine va_sld hx hb hX hbl hbA hw.S hi2 dL_law__1314 ?_
  refine lv_aload_n hx hb dL_law__1315 rfl (lv_at hl 3 rfl) ?_
  obtain ⟨mc, ms, h1, h2, hm⟩ := hob S f hJ (xs (Int32.toNatClampNeg (x4 + 1))) (xs (Int32.toNatClampNeg (x4 + 2)))
  refine vx_calli (vx_runSX (As := [.ref xa, .int (xs (Int32.toNatClampNeg (x4 + 1))), .int (xs (Int32.toNatClampNeg (x4 + 2))), .ref ao]) (rest := []) ⟨hx, hb, hml, hown, hU⟩ (cl_L_corner l C ao f n S hw.wf _ xa (xs (Int32.toNatClampNeg (x4 + 1))) (xs (Int32.toNatClampNeg (x4 + 2))) Tx mc ms hst _ hm) (vx_cwSW 4 hU (pq_gS tw1149 tw1150 tw0 tc_L_corner) rfl rfl rfl cd_L_corner ⟨Nat.le_of_ble_eq_true rfl, Nat.le_of_ble_eq_true rfl⟩) (pw_preS hw) rfl rfl hl.1 rfl (lv_room (Nat.le_of_ble_eq_true rfl)) dL_law__1316 ⟨by show _ ≤ room_1.cells; omega, by show _ ≤ room_1.slots; omega⟩) hw.S (fun q _ h => pw_free hw q h) (pw_free hw) (fun q _ h => pw_free hw q h) (fun Es ce q9 u t H1 locs1 ht hvm hpx hB hz1 hk1 hS hce hcv hcl => hpx.elim) (fun k u t H1 locs1 ht hvm hq hB hz1 hk1 hS => ?_)
  obtain ⟨f1, S1⟩ := u
  obtain ⟨hK, hF1, hEx⟩ := hq
  dsimp only at hK hF1 hEx hB
  have hw : PW C (XL C ao f1) S1 (lw_A s) H1 locs1 s := pw_lpost hw ht hvm hF1 hB hS
  obtain ⟨b9, S2, hm2, hth, han, hJ2⟩ := hK
  have Tx : TY S1 xa 11 := ty_ext hEx Tx
  have Tm : TY S1 ma 12 := ty_ext hEx Tm
  refine lv_istore (lv' := [(5, .int k), (0, .ref b), (1, .ref xa), (2, .ref ma), (3, .ref ao), (4, .int x4)]) hx hb dL_law__1319 hl (by decide) rfl (fun ls hl => ?_)
  refine lv_aload_n hx hb dL_law__1321 rfl (lv_at hl 3 rfl) ?_
  refine lv_aload_n hx hb dL_law__1322 rfl (lv_at hl 1 rfl) ?_
  refine lv_iload hx hb dL_law__1323 (lv_at hl 5 rfl) ?_
  refine lv_iconst (v := 1) hx hb dL_law__1325 (by decide) ?_
  refine lv_iadd hx hb dL_law__1326 ?_
  refine va_sld hx hb hX hbl hbA hw.S hi1 dL_law__1327 ?_
  refine lv_aload_n hx hb dL_law__1328 rfl (lv_at hl 1 rfl) ?_
  refine lv_iload hx hb dL_law__1329 (lv_at hl 5 rfl) ?_
  refine lv_iconst (v := 2) hx hb dL_law__1331 (by decide) ?_
  refine lv_iadd hx hb dL_law__1332 ?_
  refine va_sld hx hb hX hbl hbA hw.S hi2 dL_law__1333 ?_
  refine pw_ci (va_runV (As := [.int (xs (Int32.toNatClampNeg (x4 + 1))), .int (xs (Int32.toNatClampNeg (x4 + 2)))]) (rest := []) ⟨hx, hb, hml, hown, hU⟩ (c_X12_corner l C (XL C ao f1) n S1 hw.wf _ ma (xs (Int32.toNatClampNeg (x4 + 1))) (xs (Int32.toNatClampNeg (x4 + 2))) Tm b9 S2 hm2) (cwV 2 hU (pq_gV tw1982 tw1983 tw1984 tw14 tc_X12_corner) rfl rfl rfl cd_X12_corner ⟨Nat.le_of_ble_eq_true rfl, Nat.le_of_ble_eq_true rfl⟩) (pw_preV hw Tm (by decide) rfl) rfl rfl hl.1 rfl (lv_room (Nat.le_of_ble_eq_true rfl)) dL_law__1334 ⟨by show _ ≤ room_1.cells; omega, by show _ ≤ room_1.slots; omega⟩) hw (fun H locs hw hx2 => ?_)
  have Tm : TY S2 ma 12 := ty_ext hx2 Tm
  refine lv_istore (lv' := [(6, .int b9), (5, .int k), (0, .ref b), (1, .ref xa), (2, .ref ma), (3, .ref ao), (4, .int x4)]) hx hb dL_law__1337 hl (by decide) rfl (fun ls hl => ?_)
  refine lv_aload_n hx hb dL_law__1339 rfl (lv_at hl 4 rfl) ?_
  refine pw_ci (va_runV (As := []) (rest := []) ⟨hx, hb, hml, hown, hU⟩ (c_X12_thrown l C (XL C ao f1) n S2 hw.wf _ ma Tm (pI S2 1200 ma) S2 rfl) (cwV 0 hU (pq_gV tw1449 tw1450 tw1451 tw14 tc_X12_thrown) rfl rfl rfl cd_X12_thrown ⟨Nat.le_of_ble_eq_true rfl, Nat.le_of_ble_eq_true rfl⟩) (pw_preV hw Tm (by decide) rfl) rfl rfl hl.1 rfl (lv_room (Nat.le_of_ble_eq_true rfl)) dL_law__1340 ⟨by show _ ≤ room_1.cells; omega, by show _ ≤ room_1.slots; omega⟩) hw (fun H locs hw hx3 => ?_)
  refine lv_iload hx hb dL_law__1343 (lv_at hl 1 rfl) ?_
  refine lv_icmp_eq (tgt := 1350) hx hb dL_law__1345 (by decide) (fun _ => ?_) (fun h9 => absurd hth h9)
  refine lv_iload hx hb dL_law__1350 (lv_at hl 1 rfl) ?_
  refine lv_if_ne (tgt := 1367) hx hb dL_law__1352 (by decide) (fun _ => ?_) (fun h9 => ?_)
  · refine lv_goto (tgt := 3019) hx hb dL_law__1367 (by decide) ?_
    exact W.widen (by omega) (by omega) (hk S2 f1 _ _ ls hJ2 hw (lv_sub hl [2, 3, 4, 5, 6] rfl))
  · refine lv_aload_n hx hb dL_law__1355 rfl (lv_at hl 5 rfl) ?_
    refine lv_iconst (v := 0) hx hb dL_law__1356 (by decide) ?_
    refine pw_lald hx hb hw dL_law__1357 ?_
    refine lv_iload hx hb dL_law__1358 (lv_at hl 0 rfl) ?_
    refine lv_i2l (v := Int32.toInt64 b9) hx hb dL_law__1360 rfl ?_
    refine W.lcmp hx hb dL_law__1361 ?_
    refine lv_if_eq (tgt := 1367) hx hb dL_law__1362 (by decide) (fun _ => ?_) (fun h7 => absurd (lw_cmp0 (han h9)) h7)
    refine lv_goto (tgt := 3019) hx hb dL_law__1367 (by decide) ?_
    exact W.widen (by omega) (by omega) (hk S2 f1 _ _ ls hJ2 hw (lv_sub hl [2, 3, 4, 5, 6] rfl))
set_option maxHeartbeats 4000000 in
set_option maxRecDepth 100000 in
theorem lc_19 {p : Program} {l : Launch} {e : Env} {s : State} {m : MethodId} {below : List Frame} {meth : Method} {c : Code} {b L : Nat} {xs : Nat → Int32} (C0 : lw_At p s m meth c b L xs) (hst : l.stackTraces = false) (C : pq_C) (n xa ma ao : Nat) (J : pq_S → Prop) (hTY : ∀ S, J S → TY S xa 11 ∧ TY S ma 12) (hob : OB_19 n xa ma J) (x4 : Int32) (hi1 : vp_in (x4 + 1) L) (hi2 : vp_in (x4 + 2) L) (hi3 : vp_in (x4 + 3) L) (hi4 : vp_in (x4 + 4) L) (hi5 : vp_in (x4 + 5) L) (hi6 : vp_in (x4 + 6) L) (hi7 : vp_in (x4 + 7) L) (S : pq_S) (f : Nat → Int64) (H : Heap) (locs : List Loc) (ls : Array Slot) (cells slots : Nat) (hJ : J S) (hcc : cells + 200 ≤ room_1.cells) (hss : slots + 8000 ≤ room_1.slots) (hw : PW C (XL C ao f) S (lw_A s) H locs s) (hl : lv_has ls 8 [(0, .ref b), (1, .ref xa), (2, .ref ma), (3, .ref ao), (4, .int x4)]) (hk : ∀ (S2 : pq_S) (f2 : Nat → Int64) (H2 : Heap) (locs2 : List Loc) (ls2 : Array Slot), J S2 → PW C (XL C ao f2) S2 (lw_A s) H2 locs2 s → lv_has ls2 8 [(0, .ref b), (1, .ref xa), (2, .ref ma), (3, .ref ao), (4, .int x4)] → W p l e room_1 s m #[Value.ref b] below meth c H2 locs2 (cells + 200) (slots + 8000) (lw_Z below #[Value.ref b] s) (F0 m 3019 ls2 [])) : W p l e room_1 s m #[Value.ref b] below meth c H locs cells slots (lw_Z below #[Value.ref b] s) (F0 m 1370 ls []) := by
  obtain ⟨hx, hb, hr, hml, hown, hts, hX, hbl, hlocks, hgv⟩ := id C0
  have hb : c.code = cL_law_ := hb
  have hown : s.vm.findClass RL = some m.cls := hown
  have hbA : ¬ lw_A s b := Nat.not_le.mpr hbl
  have hU : ∀ w ∈ pq_U, w.before _ s = true := fun w h => hts w (List.mem_filter.mp h).1
  obtain ⟨Tx, Tm⟩ := hTY S hJ
  refine lv_aload_n hx hb dL_law__1370 rfl (lv_at hl 1 rfl) ?_
  refine lv_aload_n hx hb dL_law__1371 rfl (lv_at hl 0 rfl) ?_
  refine lv_iload hx hb dL_law__1372 (lv_at hl 4 rfl) ?_
  refine lv_iconst (v := 1) hx hb dL_law__1374 (by decide) ?_
  refine lv_iadd hx hb dL_law__1375 ?_
  refine va_sld hx hb hX hbl hbA hw.S hi1 dL_law__1376 ?_
  refine lv_aload_n hx hb dL_law__1377 rfl (lv_at hl 0 rfl) ?_
  refine lv_iload hx hb dL_law__1378 (lv_at hl 4 rfl) ?_
  refine lv_iconst (v := 2) hx hb dL_law__1380 (by decide) ?_
  refine lv_iadd hx hb dL_law__1381 ?_
  refine va_sld hx hb hX hbl hbA hw.S hi2 dL_law__1382 ?_
  refine lv_aload_n hx hb dL_law__1383 rfl (lv_at hl 0 rfl) ?_
  refine lv_iload hx hb dL_law__1384 (lv_at hl 4 rfl) ?_
  refine lv_iconst (v := 3) hx hb dL_law__1386 (by decide) ?_
  refine lv_iadd hx hb dL_law__1387 ?_
  refine va_sld hx hb hX hbl hbA hw.S hi3 dL_law__1388 ?_
  refine lv_aload_n hx hb dL_law__1389 rfl (lv_at hl 0 rfl) ?_
  refine lv_iload hx hb dL_law__1390 (lv_at hl 4 rfl) ?_
  refine lv_iconst (v := 4) hx hb dL_law__1392 (by decide) ?_
  refine lv_iadd hx hb dL_law__1393 ?_
  refine va_sld hx hb hX hbl hbA hw.S hi4 dL_law__1394 ?_
  refine lv_aload_n hx hb dL_law__1395 rfl (lv_at hl 0 rfl) ?_
  refine lv_iload hx hb dL_law__1396 (lv_at hl 4 rfl) ?_
  refine lv_iconst (v := 5) hx hb dL_law__1398 (by decide) ?_
  refine lv_iadd hx hb dL_law__1399 ?_
  refine va_sld hx hb hX hbl hbA hw.S hi5 dL_law__1400 ?_
  refine lv_aload_n hx hb dL_law__1401 rfl (lv_at hl 0 rfl) ?_
  refine lv_iload hx hb dL_law__1402 (lv_at hl 4 rfl) ?_
  refine lv_bipush (v := 6) hx hb dL_law__1404 (by decide) ?_
  refine lv_iadd hx hb dL_law__1406 ?_
  refine va_sld hx hb hX hbl hbA hw.S hi6 dL_law__1407 ?_
  refine lv_aload_n hx hb dL_law__1408 rfl (lv_at hl 0 rfl) ?_
  refine lv_iload hx hb dL_law__1409 (lv_at hl 4 rfl) ?_
  refine lv_bipush (v := 7) hx hb dL_law__1411 (by decide) ?_
  refine lv_iadd hx hb dL_law__1413 ?_
  refine va_sld hx hb hX hbl hbA hw.S hi7 dL_law__1414 ?_
  refine lv_aload_n hx hb dL_law__1415 rfl (lv_at hl 3 rfl) ?_
  obtain ⟨mc, ms, h1, h2, hm⟩ := hob S f hJ (xs (Int32.toNatClampNeg (x4 + 1))) (xs (Int32.toNatClampNeg (x4 + 2))) (xs (Int32.toNatClampNeg (x4 + 3))) (xs (Int32.toNatClampNeg (x4 + 4))) (xs (Int32.toNatClampNeg (x4 + 5))) (xs (Int32.toNatClampNeg (x4 + 6))) (xs (Int32.toNatClampNeg (x4 + 7)))
  refine vx_calli (vx_runSX (As := [.ref xa, .int (xs (Int32.toNatClampNeg (x4 + 1))), .int (xs (Int32.toNatClampNeg (x4 + 2))), .int (xs (Int32.toNatClampNeg (x4 + 3))), .int (xs (Int32.toNatClampNeg (x4 + 4))), .int (xs (Int32.toNatClampNeg (x4 + 5))), .int (xs (Int32.toNatClampNeg (x4 + 6))), .int (xs (Int32.toNatClampNeg (x4 + 7))), .ref ao]) (rest := []) ⟨hx, hb, hml, hown, hU⟩ (cl_L_option l C ao f n S hw.wf _ xa (xs (Int32.toNatClampNeg (x4 + 1))) (xs (Int32.toNatClampNeg (x4 + 2))) (xs (Int32.toNatClampNeg (x4 + 3))) (xs (Int32.toNatClampNeg (x4 + 4))) (xs (Int32.toNatClampNeg (x4 + 5))) (xs (Int32.toNatClampNeg (x4 + 6))) (xs (Int32.toNatClampNeg (x4 + 7))) Tx mc ms hst _ hm) (vx_cwSW 9 hU (pq_gS tw1160 tw1161 tw0 tc_L_option) rfl rfl rfl cd_L_option ⟨Nat.le_of_ble_eq_true rfl, Nat.le_of_ble_eq_true rfl⟩) (pw_preS hw) rfl rfl hl.1 rfl (lv_room (Nat.le_of_ble_eq_true rfl)) dL_law__1416 ⟨by show _ ≤ room_1.cells; omega, by show _ ≤ room_1.slots; omega⟩) hw.S (fun q _ h => pw_free hw q h) (pw_free hw) (fun q _ h => pw_free hw q h) (fun Es ce q9 u t H1 locs1 ht hvm hpx hB hz1 hk1 hS hce hcv hcl => hpx.elim) (fun k u t H1 locs1 ht hvm hq hB hz1 hk1 hS => ?_)
  obtain ⟨f1, S1⟩ := u
  obtain ⟨hK, hF1, hEx⟩ := hq
  dsimp only at hK hF1 hEx hB
  have hw : PW C (XL C ao f1) S1 (lw_A s) H1 locs1 s := pw_lpost hw ht hvm hF1 hB hS
  obtain ⟨b9, S2, hm2, hth, han, hJ2⟩ := hK
  have Tx : TY S1 xa 11 := ty_ext hEx Tx
  have Tm : TY S1 ma 12 := ty_ext hEx Tm
  refine lv_istore (lv' := [(5, .int k), (0, .ref b), (1, .ref xa), (2, .ref ma), (3, .ref ao), (4, .int x4)]) hx hb dL_law__1419 hl (by decide) rfl (fun ls hl => ?_)
  refine lv_aload_n hx hb dL_law__1421 rfl (lv_at hl 3 rfl) ?_
  refine lv_aload_n hx hb dL_law__1422 rfl (lv_at hl 1 rfl) ?_
  refine lv_iload hx hb dL_law__1423 (lv_at hl 5 rfl) ?_
  refine lv_iconst (v := 1) hx hb dL_law__1425 (by decide) ?_
  refine lv_iadd hx hb dL_law__1426 ?_
  refine va_sld hx hb hX hbl hbA hw.S hi1 dL_law__1427 ?_
  refine lv_aload_n hx hb dL_law__1428 rfl (lv_at hl 1 rfl) ?_
  refine lv_iload hx hb dL_law__1429 (lv_at hl 5 rfl) ?_
  refine lv_iconst (v := 2) hx hb dL_law__1431 (by decide) ?_
  refine lv_iadd hx hb dL_law__1432 ?_
  refine va_sld hx hb hX hbl hbA hw.S hi2 dL_law__1433 ?_
  refine lv_aload_n hx hb dL_law__1434 rfl (lv_at hl 1 rfl) ?_
  refine lv_iload hx hb dL_law__1435 (lv_at hl 5 rfl) ?_
  refine lv_iconst (v := 3) hx hb dL_law__1437 (by decide) ?_
  refine lv_iadd hx hb dL_law__1438 ?_
  refine va_sld hx hb hX hbl hbA hw.S hi3 dL_law__1439 ?_
  refine lv_aload_n hx hb dL_law__1440 rfl (lv_at hl 1 rfl) ?_
  refine lv_iload hx hb dL_law__1441 (lv_at hl 5 rfl) ?_
  refine lv_iconst (v := 4) hx hb dL_law__1443 (by decide) ?_
  refine lv_iadd hx hb dL_law__1444 ?_
  refine va_sld hx hb hX hbl hbA hw.S hi4 dL_law__1445 ?_
  refine lv_aload_n hx hb dL_law__1446 rfl (lv_at hl 1 rfl) ?_
  refine lv_iload hx hb dL_law__1447 (lv_at hl 5 rfl) ?_
  refine lv_iconst (v := 5) hx hb dL_law__1449 (by decide) ?_
  refine lv_iadd hx hb dL_law__1450 ?_
  refine va_sld hx hb hX hbl hbA hw.S hi5 dL_law__1451 ?_
  refine lv_aload_n hx hb dL_law__1452 rfl (lv_at hl 1 rfl) ?_
  refine lv_iload hx hb dL_law__1453 (lv_at hl 5 rfl) ?_
  refine lv_bipush (v := 6) hx hb dL_law__1455 (by decide) ?_
  refine lv_iadd hx hb dL_law__1457 ?_
  refine va_sld hx hb hX hbl hbA hw.S hi6 dL_law__1458 ?_
  refine lv_aload_n hx hb dL_law__1459 rfl (lv_at hl 1 rfl) ?_
  refine lv_iload hx hb dL_law__1460 (lv_at hl 5 rfl) ?_
  refine lv_bipush (v := 7) hx hb dL_law__1462 (by decide) ?_
  refine lv_iadd hx hb dL_law__1464 ?_
  refine va_sld hx hb hX hbl hbA hw.S hi7 dL_law__1465 ?_
  refine pw_cj (va_runV (As := [.int (xs (Int32.toNatClampNeg (x4 + 1))), .int (xs (Int32.toNatClampNeg (x4 + 2))), .int (xs (Int32.toNatClampNeg (x4 + 3))), .int (xs (Int32.toNatClampNeg (x4 + 4))), .int (xs (Int32.toNatClampNeg (x4 + 5))), .int (xs (Int32.toNatClampNeg (x4 + 6))), .int (xs (Int32.toNatClampNeg (x4 + 7)))]) (rest := []) ⟨hx, hb, hml, hown, hU⟩ (c_X12_option l C (XL C ao f1) n S1 hw.wf _ ma (xs (Int32.toNatClampNeg (x4 + 1))) (xs (Int32.toNatClampNeg (x4 + 2))) (xs (Int32.toNatClampNeg (x4 + 3))) (xs (Int32.toNatClampNeg (x4 + 4))) (xs (Int32.toNatClampNeg (x4 + 5))) (xs (Int32.toNatClampNeg (x4 + 6))) (xs (Int32.toNatClampNeg (x4 + 7))) Tm b9 S2 hm2) (cwV 7 hU (pq_gV tw1986 tw1987 tw1988 tw14 tc_X12_option) rfl rfl rfl cd_X12_option ⟨Nat.le_of_ble_eq_true rfl, Nat.le_of_ble_eq_true rfl⟩) (pw_preV hw Tm (by decide) rfl) rfl rfl hl.1 rfl (lv_room (Nat.le_of_ble_eq_true rfl)) dL_law__1466 ⟨by show _ ≤ room_1.cells; omega, by show _ ≤ room_1.slots; omega⟩) hw (fun H locs hw hx2 => ?_)
  have Tm : TY S2 ma 12 := ty_ext hx2 Tm
  refine lv_lstore (lv' := [(6, .long b9), (5, .int k), (0, .ref b), (1, .ref xa), (2, .ref ma), (3, .ref ao), (4, .int x4)]) hx hb dL_law__1469 hl (by decide) rfl (fun ls hl => ?_)
  refine lv_aload_n hx hb dL_law__1471 rfl (lv_at hl 4 rfl) ?_
  refine pw_ci (va_runV (As := []) (rest := []) ⟨hx, hb, hml, hown, hU⟩ (c_X12_thrown l C (XL C ao f1) n S2 hw.wf _ ma Tm (pI S2 1200 ma) S2 rfl) (cwV 0 hU (pq_gV tw1449 tw1450 tw1451 tw14 tc_X12_thrown) rfl rfl rfl cd_X12_thrown ⟨Nat.le_of_ble_eq_true rfl, Nat.le_of_ble_eq_true rfl⟩) (pw_preV hw Tm (by decide) rfl) rfl rfl hl.1 rfl (lv_room (Nat.le_of_ble_eq_true rfl)) dL_law__1472 ⟨by show _ ≤ room_1.cells; omega, by show _ ≤ room_1.slots; omega⟩) hw (fun H locs hw hx3 => ?_)
  refine lv_iload hx hb dL_law__1475 (lv_at hl 1 rfl) ?_
  refine lv_icmp_eq (tgt := 1482) hx hb dL_law__1477 (by decide) (fun _ => ?_) (fun h9 => absurd hth h9)
  refine lv_iload hx hb dL_law__1482 (lv_at hl 1 rfl) ?_
  refine lv_if_ne (tgt := 1498) hx hb dL_law__1484 (by decide) (fun _ => ?_) (fun h9 => ?_)
  · refine lv_goto (tgt := 3019) hx hb dL_law__1498 (by decide) ?_
    exact W.widen (by omega) (by omega) (hk S2 f1 _ _ ls hJ2 hw (lv_sub hl [2, 3, 4, 5, 6] rfl))
  · refine lv_aload_n hx hb dL_law__1487 rfl (lv_at hl 5 rfl) ?_
    refine lv_iconst (v := 0) hx hb dL_law__1488 (by decide) ?_
    refine pw_lald hx hb hw dL_law__1489 ?_
    refine lv_lload hx hb dL_law__1490 (lv_at hl 0 rfl) ?_
    refine W.lcmp hx hb dL_law__1492 ?_
    refine lv_if_eq (tgt := 1498) hx hb dL_law__1493 (by decide) (fun _ => ?_) (fun h7 => absurd (lw_cmp0 (han h9)) h7)
    refine lv_goto (tgt := 3019) hx hb dL_law__1498 (by decide) ?_
    exact W.widen (by omega) (by omega) (hk S2 f1 _ _ ls hJ2 hw (lv_sub hl [2, 3, 4, 5, 6] rfl))
set_option maxHeartbeats 4000000 in
set_option maxRecDepth 100000 in
theorem lc_20 {p : Program} {l : Launch} {e : Env} {s : State} {m : MethodId} {below : List Frame} {meth : Method} {c : Code} {b L : Nat} {xs : Nat → Int32} (C0 : lw_At p s m meth c b L xs) (hst : l.stackTraces = false) (C : pq_C) (n xa ma ao : Nat) (J : pq_S → Prop) (hTY : ∀ S, J S → TY S xa 11 ∧ TY S ma 12) (hob : OB_20 n xa ma J) (x4 : Int32) (hi1 : vp_in (x4 + 1) L) (hi2 : vp_in (x4 + 2) L) (hi3 : vp_in (x4 + 3) L) (hi4 : vp_in (x4 + 4) L) (hi5 : vp_in (x4 + 5) L) (hi6 : vp_in (x4 + 6) L) (hi7 : vp_in (x4 + 7) L) (S : pq_S) (f : Nat → Int64) (H : Heap) (locs : List Loc) (ls : Array Slot) (cells slots : Nat) (hJ : J S) (hcc : cells + 200 ≤ room_1.cells) (hss : slots + 8000 ≤ room_1.slots) (hw : PW C (XL C ao f) S (lw_A s) H locs s) (hl : lv_has ls 8 [(0, .ref b), (1, .ref xa), (2, .ref ma), (3, .ref ao), (4, .int x4)]) (hk : ∀ (S2 : pq_S) (f2 : Nat → Int64) (H2 : Heap) (locs2 : List Loc) (ls2 : Array Slot), J S2 → PW C (XL C ao f2) S2 (lw_A s) H2 locs2 s → lv_has ls2 8 [(0, .ref b), (1, .ref xa), (2, .ref ma), (3, .ref ao), (4, .int x4)] → W p l e room_1 s m #[Value.ref b] below meth c H2 locs2 (cells + 200) (slots + 8000) (lw_Z below #[Value.ref b] s) (F0 m 3019 ls2 [])) : W p l e room_1 s m #[Value.ref b] below meth c H locs cells slots (lw_Z below #[Value.ref b] s) (F0 m 1501 ls []) := by
  obtain ⟨hx, hb, hr, hml, hown, hts, hX, hbl, hlocks, hgv⟩ := id C0
  have hb : c.code = cL_law_ := hb
  have hown : s.vm.findClass RL = some m.cls := hown
  have hbA : ¬ lw_A s b := Nat.not_le.mpr hbl
  have hU : ∀ w ∈ pq_U, w.before _ s = true := fun w h => hts w (List.mem_filter.mp h).1
  obtain ⟨Tx, Tm⟩ := hTY S hJ
  refine lv_aload_n hx hb dL_law__1501 rfl (lv_at hl 1 rfl) ?_
  refine lv_aload_n hx hb dL_law__1502 rfl (lv_at hl 0 rfl) ?_
  refine lv_iload hx hb dL_law__1503 (lv_at hl 4 rfl) ?_
  refine lv_iconst (v := 1) hx hb dL_law__1505 (by decide) ?_
  refine lv_iadd hx hb dL_law__1506 ?_
  refine va_sld hx hb hX hbl hbA hw.S hi1 dL_law__1507 ?_
  refine lv_aload_n hx hb dL_law__1508 rfl (lv_at hl 0 rfl) ?_
  refine lv_iload hx hb dL_law__1509 (lv_at hl 4 rfl) ?_
  refine lv_iconst (v := 2) hx hb dL_law__1511 (by decide) ?_
  refine lv_iadd hx hb dL_law__1512 ?_
  refine va_sld hx hb hX hbl hbA hw.S hi2 dL_law__1513 ?_
  refine lv_aload_n hx hb dL_law__1514 rfl (lv_at hl 0 rfl) ?_
  refine lv_iload hx hb dL_law__1515 (lv_at hl 4 rfl) ?_
  refine lv_iconst (v := 3) hx hb dL_law__1517 (by decide) ?_
  refine lv_iadd hx hb dL_law__1518 ?_
  refine va_sld hx hb hX hbl hbA hw.S hi3 dL_law__1519 ?_
  refine lv_aload_n hx hb dL_law__1520 rfl (lv_at hl 0 rfl) ?_
  refine lv_iload hx hb dL_law__1521 (lv_at hl 4 rfl) ?_
  refine lv_iconst (v := 4) hx hb dL_law__1523 (by decide) ?_
  refine lv_iadd hx hb dL_law__1524 ?_
  refine va_sld hx hb hX hbl hbA hw.S hi4 dL_law__1525 ?_
  refine lv_aload_n hx hb dL_law__1526 rfl (lv_at hl 0 rfl) ?_
  refine lv_iload hx hb dL_law__1527 (lv_at hl 4 rfl) ?_
  refine lv_iconst (v := 5) hx hb dL_law__1529 (by decide) ?_
  refine lv_iadd hx hb dL_law__1530 ?_
  refine va_sld hx hb hX hbl hbA hw.S hi5 dL_law__1531 ?_
  refine lv_aload_n hx hb dL_law__1532 rfl (lv_at hl 0 rfl) ?_
  refine lv_iload hx hb dL_law__1533 (lv_at hl 4 rfl) ?_
  refine lv_bipush (v := 6) hx hb dL_law__1535 (by decide) ?_
  refine lv_iadd hx hb dL_law__1537 ?_
  refine va_sld hx hb hX hbl hbA hw.S hi6 dL_law__1538 ?_
  refine lv_aload_n hx hb dL_law__1539 rfl (lv_at hl 0 rfl) ?_
  refine lv_iload hx hb dL_law__1540 (lv_at hl 4 rfl) ?_
  refine lv_bipush (v := 7) hx hb dL_law__1542 (by decide) ?_
  refine lv_iadd hx hb dL_law__1544 ?_
  refine va_sld hx hb hX hbl hbA hw.S hi7 dL_law__1545 ?_
  refine lv_aload_n hx hb dL_law__1546 rfl (lv_at hl 3 rfl) ?_
  obtain ⟨mc, ms, h1, h2, hm⟩ := hob S f hJ (xs (Int32.toNatClampNeg (x4 + 1))) (xs (Int32.toNatClampNeg (x4 + 2))) (xs (Int32.toNatClampNeg (x4 + 3))) (xs (Int32.toNatClampNeg (x4 + 4))) (xs (Int32.toNatClampNeg (x4 + 5))) (xs (Int32.toNatClampNeg (x4 + 6))) (xs (Int32.toNatClampNeg (x4 + 7)))
  refine vx_calli (vx_runSX (As := [.ref xa, .int (xs (Int32.toNatClampNeg (x4 + 1))), .int (xs (Int32.toNatClampNeg (x4 + 2))), .int (xs (Int32.toNatClampNeg (x4 + 3))), .int (xs (Int32.toNatClampNeg (x4 + 4))), .int (xs (Int32.toNatClampNeg (x4 + 5))), .int (xs (Int32.toNatClampNeg (x4 + 6))), .int (xs (Int32.toNatClampNeg (x4 + 7))), .ref ao]) (rest := []) ⟨hx, hb, hml, hown, hU⟩ (cl_L_late l C ao f n S hw.wf _ xa (xs (Int32.toNatClampNeg (x4 + 1))) (xs (Int32.toNatClampNeg (x4 + 2))) (xs (Int32.toNatClampNeg (x4 + 3))) (xs (Int32.toNatClampNeg (x4 + 4))) (xs (Int32.toNatClampNeg (x4 + 5))) (xs (Int32.toNatClampNeg (x4 + 6))) (xs (Int32.toNatClampNeg (x4 + 7))) Tx mc ms hst _ hm) (vx_cwSW 9 hU (pq_gS tw1184 tw1185 tw0 tc_L_late) rfl rfl rfl cd_L_late ⟨Nat.le_of_ble_eq_true rfl, Nat.le_of_ble_eq_true rfl⟩) (pw_preS hw) rfl rfl hl.1 rfl (lv_room (Nat.le_of_ble_eq_true rfl)) dL_law__1547 ⟨by show _ ≤ room_1.cells; omega, by show _ ≤ room_1.slots; omega⟩) hw.S (fun q _ h => pw_free hw q h) (pw_free hw) (fun q _ h => pw_free hw q h) (fun Es ce q9 u t H1 locs1 ht hvm hpx hB hz1 hk1 hS hce hcv hcl => hpx.elim) (fun k u t H1 locs1 ht hvm hq hB hz1 hk1 hS => ?_)
  obtain ⟨f1, S1⟩ := u
  obtain ⟨hK, hF1, hEx⟩ := hq
  dsimp only at hK hF1 hEx hB
  have hw : PW C (XL C ao f1) S1 (lw_A s) H1 locs1 s := pw_lpost hw ht hvm hF1 hB hS
  obtain ⟨b9, S2, hm2, hth, han, hJ2⟩ := hK
  have Tx : TY S1 xa 11 := ty_ext hEx Tx
  have Tm : TY S1 ma 12 := ty_ext hEx Tm
  refine lv_istore (lv' := [(5, .int k), (0, .ref b), (1, .ref xa), (2, .ref ma), (3, .ref ao), (4, .int x4)]) hx hb dL_law__1550 hl (by decide) rfl (fun ls hl => ?_)
  refine lv_aload_n hx hb dL_law__1552 rfl (lv_at hl 3 rfl) ?_
  refine lv_aload_n hx hb dL_law__1553 rfl (lv_at hl 1 rfl) ?_
  refine lv_iload hx hb dL_law__1554 (lv_at hl 5 rfl) ?_
  refine lv_iconst (v := 1) hx hb dL_law__1556 (by decide) ?_
  refine lv_iadd hx hb dL_law__1557 ?_
  refine va_sld hx hb hX hbl hbA hw.S hi1 dL_law__1558 ?_
  refine lv_aload_n hx hb dL_law__1559 rfl (lv_at hl 1 rfl) ?_
  refine lv_iload hx hb dL_law__1560 (lv_at hl 5 rfl) ?_
  refine lv_iconst (v := 2) hx hb dL_law__1562 (by decide) ?_
  refine lv_iadd hx hb dL_law__1563 ?_
  refine va_sld hx hb hX hbl hbA hw.S hi2 dL_law__1564 ?_
  refine lv_aload_n hx hb dL_law__1565 rfl (lv_at hl 1 rfl) ?_
  refine lv_iload hx hb dL_law__1566 (lv_at hl 5 rfl) ?_
  refine lv_iconst (v := 3) hx hb dL_law__1568 (by decide) ?_
  refine lv_iadd hx hb dL_law__1569 ?_
  refine va_sld hx hb hX hbl hbA hw.S hi3 dL_law__1570 ?_
  refine lv_aload_n hx hb dL_law__1571 rfl (lv_at hl 1 rfl) ?_
  refine lv_iload hx hb dL_law__1572 (lv_at hl 5 rfl) ?_
  refine lv_iconst (v := 4) hx hb dL_law__1574 (by decide) ?_
  refine lv_iadd hx hb dL_law__1575 ?_
  refine va_sld hx hb hX hbl hbA hw.S hi4 dL_law__1576 ?_
  refine lv_aload_n hx hb dL_law__1577 rfl (lv_at hl 1 rfl) ?_
  refine lv_iload hx hb dL_law__1578 (lv_at hl 5 rfl) ?_
  refine lv_iconst (v := 5) hx hb dL_law__1580 (by decide) ?_
  refine lv_iadd hx hb dL_law__1581 ?_
  refine va_sld hx hb hX hbl hbA hw.S hi5 dL_law__1582 ?_
  refine lv_aload_n hx hb dL_law__1583 rfl (lv_at hl 1 rfl) ?_
  refine lv_iload hx hb dL_law__1584 (lv_at hl 5 rfl) ?_
  refine lv_bipush (v := 6) hx hb dL_law__1586 (by decide) ?_
  refine lv_iadd hx hb dL_law__1588 ?_
  refine va_sld hx hb hX hbl hbA hw.S hi6 dL_law__1589 ?_
  refine lv_aload_n hx hb dL_law__1590 rfl (lv_at hl 1 rfl) ?_
  refine lv_iload hx hb dL_law__1591 (lv_at hl 5 rfl) ?_
  refine lv_bipush (v := 7) hx hb dL_law__1593 (by decide) ?_
  refine lv_iadd hx hb dL_law__1595 ?_
  refine va_sld hx hb hX hbl hbA hw.S hi7 dL_law__1596 ?_
  refine pw_cj (va_runV (As := [.int (xs (Int32.toNatClampNeg (x4 + 1))), .int (xs (Int32.toNatClampNeg (x4 + 2))), .int (xs (Int32.toNatClampNeg (x4 + 3))), .int (xs (Int32.toNatClampNeg (x4 + 4))), .int (xs (Int32.toNatClampNeg (x4 + 5))), .int (xs (Int32.toNatClampNeg (x4 + 6))), .int (xs (Int32.toNatClampNeg (x4 + 7)))]) (rest := []) ⟨hx, hb, hml, hown, hU⟩ (c_X12_late l C (XL C ao f1) n S1 hw.wf _ ma (xs (Int32.toNatClampNeg (x4 + 1))) (xs (Int32.toNatClampNeg (x4 + 2))) (xs (Int32.toNatClampNeg (x4 + 3))) (xs (Int32.toNatClampNeg (x4 + 4))) (xs (Int32.toNatClampNeg (x4 + 5))) (xs (Int32.toNatClampNeg (x4 + 6))) (xs (Int32.toNatClampNeg (x4 + 7))) Tm b9 S2 hm2) (cwV 7 hU (pq_gV tw2001 tw2002 tw2003 tw14 tc_X12_late) rfl rfl rfl cd_X12_late ⟨Nat.le_of_ble_eq_true rfl, Nat.le_of_ble_eq_true rfl⟩) (pw_preV hw Tm (by decide) rfl) rfl rfl hl.1 rfl (lv_room (Nat.le_of_ble_eq_true rfl)) dL_law__1597 ⟨by show _ ≤ room_1.cells; omega, by show _ ≤ room_1.slots; omega⟩) hw (fun H locs hw hx2 => ?_)
  have Tm : TY S2 ma 12 := ty_ext hx2 Tm
  refine lv_lstore (lv' := [(6, .long b9), (5, .int k), (0, .ref b), (1, .ref xa), (2, .ref ma), (3, .ref ao), (4, .int x4)]) hx hb dL_law__1600 hl (by decide) rfl (fun ls hl => ?_)
  refine lv_aload_n hx hb dL_law__1602 rfl (lv_at hl 4 rfl) ?_
  refine pw_ci (va_runV (As := []) (rest := []) ⟨hx, hb, hml, hown, hU⟩ (c_X12_thrown l C (XL C ao f1) n S2 hw.wf _ ma Tm (pI S2 1200 ma) S2 rfl) (cwV 0 hU (pq_gV tw1449 tw1450 tw1451 tw14 tc_X12_thrown) rfl rfl rfl cd_X12_thrown ⟨Nat.le_of_ble_eq_true rfl, Nat.le_of_ble_eq_true rfl⟩) (pw_preV hw Tm (by decide) rfl) rfl rfl hl.1 rfl (lv_room (Nat.le_of_ble_eq_true rfl)) dL_law__1603 ⟨by show _ ≤ room_1.cells; omega, by show _ ≤ room_1.slots; omega⟩) hw (fun H locs hw hx3 => ?_)
  refine lv_iload hx hb dL_law__1606 (lv_at hl 1 rfl) ?_
  refine lv_icmp_eq (tgt := 1613) hx hb dL_law__1608 (by decide) (fun _ => ?_) (fun h9 => absurd hth h9)
  refine lv_iload hx hb dL_law__1613 (lv_at hl 1 rfl) ?_
  refine lv_if_ne (tgt := 1629) hx hb dL_law__1615 (by decide) (fun _ => ?_) (fun h9 => ?_)
  · refine lv_goto (tgt := 3019) hx hb dL_law__1629 (by decide) ?_
    exact W.widen (by omega) (by omega) (hk S2 f1 _ _ ls hJ2 hw (lv_sub hl [2, 3, 4, 5, 6] rfl))
  · refine lv_aload_n hx hb dL_law__1618 rfl (lv_at hl 5 rfl) ?_
    refine lv_iconst (v := 0) hx hb dL_law__1619 (by decide) ?_
    refine pw_lald hx hb hw dL_law__1620 ?_
    refine lv_lload hx hb dL_law__1621 (lv_at hl 0 rfl) ?_
    refine W.lcmp hx hb dL_law__1623 ?_
    refine lv_if_eq (tgt := 1629) hx hb dL_law__1624 (by decide) (fun _ => ?_) (fun h7 => absurd (lw_cmp0 (han h9)) h7)
    refine lv_goto (tgt := 3019) hx hb dL_law__1629 (by decide) ?_
    exact W.widen (by omega) (by omega) (hk S2 f1 _ _ ls hJ2 hw (lv_sub hl [2, 3, 4, 5, 6] rfl))
set_option maxHeartbeats 4000000 in
set_option maxRecDepth 100000 in
theorem lc_21 {p : Program} {l : Launch} {e : Env} {s : State} {m : MethodId} {below : List Frame} {meth : Method} {c : Code} {b L : Nat} {xs : Nat → Int32} (C0 : lw_At p s m meth c b L xs) (hst : l.stackTraces = false) (C : pq_C) (n xa ma ao : Nat) (J : pq_S → Prop) (hTY : ∀ S, J S → TY S xa 11 ∧ TY S ma 12) (hob : OB_21 n xa ma J) (x4 : Int32) (hi1 : vp_in (x4 + 1) L) (hi2 : vp_in (x4 + 2) L) (hi3 : vp_in (x4 + 3) L) (hi4 : vp_in (x4 + 4) L) (hi5 : vp_in (x4 + 5) L) (hi6 : vp_in (x4 + 6) L) (S : pq_S) (f : Nat → Int64) (H : Heap) (locs : List Loc) (ls : Array Slot) (cells slots : Nat) (hJ : J S) (hcc : cells + 200 ≤ room_1.cells) (hss : slots + 8000 ≤ room_1.slots) (hw : PW C (XL C ao f) S (lw_A s) H locs s) (hl : lv_has ls 8 [(0, .ref b), (1, .ref xa), (2, .ref ma), (3, .ref ao), (4, .int x4)]) (hk : ∀ (S2 : pq_S) (f2 : Nat → Int64) (H2 : Heap) (locs2 : List Loc) (ls2 : Array Slot), J S2 → PW C (XL C ao f2) S2 (lw_A s) H2 locs2 s → lv_has ls2 8 [(0, .ref b), (1, .ref xa), (2, .ref ma), (3, .ref ao), (4, .int x4)] → W p l e room_1 s m #[Value.ref b] below meth c H2 locs2 (cells + 200) (slots + 8000) (lw_Z below #[Value.ref b] s) (F0 m 3019 ls2 [])) : W p l e room_1 s m #[Value.ref b] below meth c H locs cells slots (lw_Z below #[Value.ref b] s) (F0 m 1632 ls []) := by
  obtain ⟨hx, hb, hr, hml, hown, hts, hX, hbl, hlocks, hgv⟩ := id C0
  have hb : c.code = cL_law_ := hb
  have hown : s.vm.findClass RL = some m.cls := hown
  have hbA : ¬ lw_A s b := Nat.not_le.mpr hbl
  have hU : ∀ w ∈ pq_U, w.before _ s = true := fun w h => hts w (List.mem_filter.mp h).1
  obtain ⟨Tx, Tm⟩ := hTY S hJ
  refine lv_aload_n hx hb dL_law__1632 rfl (lv_at hl 1 rfl) ?_
  refine lv_aload_n hx hb dL_law__1633 rfl (lv_at hl 0 rfl) ?_
  refine lv_iload hx hb dL_law__1634 (lv_at hl 4 rfl) ?_
  refine lv_iconst (v := 1) hx hb dL_law__1636 (by decide) ?_
  refine lv_iadd hx hb dL_law__1637 ?_
  refine va_sld hx hb hX hbl hbA hw.S hi1 dL_law__1638 ?_
  refine lv_aload_n hx hb dL_law__1639 rfl (lv_at hl 0 rfl) ?_
  refine lv_iload hx hb dL_law__1640 (lv_at hl 4 rfl) ?_
  refine lv_iconst (v := 2) hx hb dL_law__1642 (by decide) ?_
  refine lv_iadd hx hb dL_law__1643 ?_
  refine va_sld hx hb hX hbl hbA hw.S hi2 dL_law__1644 ?_
  refine lv_aload_n hx hb dL_law__1645 rfl (lv_at hl 0 rfl) ?_
  refine lv_iload hx hb dL_law__1646 (lv_at hl 4 rfl) ?_
  refine lv_iconst (v := 3) hx hb dL_law__1648 (by decide) ?_
  refine lv_iadd hx hb dL_law__1649 ?_
  refine va_sld hx hb hX hbl hbA hw.S hi3 dL_law__1650 ?_
  refine lv_aload_n hx hb dL_law__1651 rfl (lv_at hl 0 rfl) ?_
  refine lv_iload hx hb dL_law__1652 (lv_at hl 4 rfl) ?_
  refine lv_iconst (v := 4) hx hb dL_law__1654 (by decide) ?_
  refine lv_iadd hx hb dL_law__1655 ?_
  refine va_sld hx hb hX hbl hbA hw.S hi4 dL_law__1656 ?_
  refine lv_aload_n hx hb dL_law__1657 rfl (lv_at hl 0 rfl) ?_
  refine lv_iload hx hb dL_law__1658 (lv_at hl 4 rfl) ?_
  refine lv_iconst (v := 5) hx hb dL_law__1660 (by decide) ?_
  refine lv_iadd hx hb dL_law__1661 ?_
  refine va_sld hx hb hX hbl hbA hw.S hi5 dL_law__1662 ?_
  refine lv_aload_n hx hb dL_law__1663 rfl (lv_at hl 0 rfl) ?_
  refine lv_iload hx hb dL_law__1664 (lv_at hl 4 rfl) ?_
  refine lv_bipush (v := 6) hx hb dL_law__1666 (by decide) ?_
  refine lv_iadd hx hb dL_law__1668 ?_
  refine va_sld hx hb hX hbl hbA hw.S hi6 dL_law__1669 ?_
  refine lv_aload_n hx hb dL_law__1670 rfl (lv_at hl 3 rfl) ?_
  obtain ⟨mc, ms, h1, h2, hm⟩ := hob S f hJ (xs (Int32.toNatClampNeg (x4 + 1))) (xs (Int32.toNatClampNeg (x4 + 2))) (xs (Int32.toNatClampNeg (x4 + 3))) (xs (Int32.toNatClampNeg (x4 + 4))) (xs (Int32.toNatClampNeg (x4 + 5))) (xs (Int32.toNatClampNeg (x4 + 6)))
  refine vx_calli (vx_runSX (As := [.ref xa, .int (xs (Int32.toNatClampNeg (x4 + 1))), .int (xs (Int32.toNatClampNeg (x4 + 2))), .int (xs (Int32.toNatClampNeg (x4 + 3))), .int (xs (Int32.toNatClampNeg (x4 + 4))), .int (xs (Int32.toNatClampNeg (x4 + 5))), .int (xs (Int32.toNatClampNeg (x4 + 6))), .ref ao]) (rest := []) ⟨hx, hb, hml, hown, hU⟩ (cl_L_now l C ao f n S hw.wf _ xa (xs (Int32.toNatClampNeg (x4 + 1))) (xs (Int32.toNatClampNeg (x4 + 2))) (xs (Int32.toNatClampNeg (x4 + 3))) (xs (Int32.toNatClampNeg (x4 + 4))) (xs (Int32.toNatClampNeg (x4 + 5))) (xs (Int32.toNatClampNeg (x4 + 6))) Tx mc ms hst _ hm) (vx_cwSW 8 hU (pq_gS tw1191 tw1192 tw0 tc_L_now) rfl rfl rfl cd_L_now ⟨Nat.le_of_ble_eq_true rfl, Nat.le_of_ble_eq_true rfl⟩) (pw_preS hw) rfl rfl hl.1 rfl (lv_room (Nat.le_of_ble_eq_true rfl)) dL_law__1671 ⟨by show _ ≤ room_1.cells; omega, by show _ ≤ room_1.slots; omega⟩) hw.S (fun q _ h => pw_free hw q h) (pw_free hw) (fun q _ h => pw_free hw q h) (fun Es ce q9 u t H1 locs1 ht hvm hpx hB hz1 hk1 hS hce hcv hcl => hpx.elim) (fun k u t H1 locs1 ht hvm hq hB hz1 hk1 hS => ?_)
  obtain ⟨f1, S1⟩ := u
  obtain ⟨hK, hF1, hEx⟩ := hq
  dsimp only at hK hF1 hEx hB
  have hw : PW C (XL C ao f1) S1 (lw_A s) H1 locs1 s := pw_lpost hw ht hvm hF1 hB hS
  obtain ⟨b9, S2, hm2, hth, han, hJ2⟩ := hK
  have Tx : TY S1 xa 11 := ty_ext hEx Tx
  have Tm : TY S1 ma 12 := ty_ext hEx Tm
  refine lv_istore (lv' := [(5, .int k), (0, .ref b), (1, .ref xa), (2, .ref ma), (3, .ref ao), (4, .int x4)]) hx hb dL_law__1674 hl (by decide) rfl (fun ls hl => ?_)
  refine lv_aload_n hx hb dL_law__1676 rfl (lv_at hl 3 rfl) ?_
  refine lv_aload_n hx hb dL_law__1677 rfl (lv_at hl 1 rfl) ?_
  refine lv_iload hx hb dL_law__1678 (lv_at hl 5 rfl) ?_
  refine lv_iconst (v := 1) hx hb dL_law__1680 (by decide) ?_
  refine lv_iadd hx hb dL_law__1681 ?_
  refine va_sld hx hb hX hbl hbA hw.S hi1 dL_law__1682 ?_
  refine lv_aload_n hx hb dL_law__1683 rfl (lv_at hl 1 rfl) ?_
  refine lv_iload hx hb dL_law__1684 (lv_at hl 5 rfl) ?_
  refine lv_iconst (v := 2) hx hb dL_law__1686 (by decide) ?_
  refine lv_iadd hx hb dL_law__1687 ?_
  refine va_sld hx hb hX hbl hbA hw.S hi2 dL_law__1688 ?_
  refine lv_aload_n hx hb dL_law__1689 rfl (lv_at hl 1 rfl) ?_
  refine lv_iload hx hb dL_law__1690 (lv_at hl 5 rfl) ?_
  refine lv_iconst (v := 3) hx hb dL_law__1692 (by decide) ?_
  refine lv_iadd hx hb dL_law__1693 ?_
  refine va_sld hx hb hX hbl hbA hw.S hi3 dL_law__1694 ?_
  refine lv_aload_n hx hb dL_law__1695 rfl (lv_at hl 1 rfl) ?_
  refine lv_iload hx hb dL_law__1696 (lv_at hl 5 rfl) ?_
  refine lv_iconst (v := 4) hx hb dL_law__1698 (by decide) ?_
  refine lv_iadd hx hb dL_law__1699 ?_
  refine va_sld hx hb hX hbl hbA hw.S hi4 dL_law__1700 ?_
  refine lv_aload_n hx hb dL_law__1701 rfl (lv_at hl 1 rfl) ?_
  refine lv_iload hx hb dL_law__1702 (lv_at hl 5 rfl) ?_
  refine lv_iconst (v := 5) hx hb dL_law__1704 (by decide) ?_
  refine lv_iadd hx hb dL_law__1705 ?_
  refine va_sld hx hb hX hbl hbA hw.S hi5 dL_law__1706 ?_
  refine lv_aload_n hx hb dL_law__1707 rfl (lv_at hl 1 rfl) ?_
  refine lv_iload hx hb dL_law__1708 (lv_at hl 5 rfl) ?_
  refine lv_bipush (v := 6) hx hb dL_law__1710 (by decide) ?_
  refine lv_iadd hx hb dL_law__1712 ?_
  refine va_sld hx hb hX hbl hbA hw.S hi6 dL_law__1713 ?_
  refine pw_cz (va_runV (As := [.int (xs (Int32.toNatClampNeg (x4 + 1))), .int (xs (Int32.toNatClampNeg (x4 + 2))), .int (xs (Int32.toNatClampNeg (x4 + 3))), .int (xs (Int32.toNatClampNeg (x4 + 4))), .int (xs (Int32.toNatClampNeg (x4 + 5))), .int (xs (Int32.toNatClampNeg (x4 + 6)))]) (rest := []) ⟨hx, hb, hml, hown, hU⟩ (c_X12_now l C (XL C ao f1) n S1 hw.wf _ ma (xs (Int32.toNatClampNeg (x4 + 1))) (xs (Int32.toNatClampNeg (x4 + 2))) (xs (Int32.toNatClampNeg (x4 + 3))) (xs (Int32.toNatClampNeg (x4 + 4))) (xs (Int32.toNatClampNeg (x4 + 5))) (xs (Int32.toNatClampNeg (x4 + 6))) Tm b9 S2 hm2) (cwV 6 hU (pq_gV tw2005 tw2006 tw2007 tw14 tc_X12_now) rfl rfl rfl cd_X12_now ⟨Nat.le_of_ble_eq_true rfl, Nat.le_of_ble_eq_true rfl⟩) (pw_preV hw Tm (by decide) rfl) rfl rfl hl.1 rfl (lv_room (Nat.le_of_ble_eq_true rfl)) dL_law__1714 ⟨by show _ ≤ room_1.cells; omega, by show _ ≤ room_1.slots; omega⟩) hw (fun H locs hw hx2 hz2 => ?_)
  have Tm : TY S2 ma 12 := ty_ext hx2 Tm
  refine lv_istore (lv' := [(6, .int b9), (5, .int k), (0, .ref b), (1, .ref xa), (2, .ref ma), (3, .ref ao), (4, .int x4)]) hx hb dL_law__1717 hl (by decide) rfl (fun ls hl => ?_)
  refine lv_aload_n hx hb dL_law__1719 rfl (lv_at hl 4 rfl) ?_
  refine pw_ci (va_runV (As := []) (rest := []) ⟨hx, hb, hml, hown, hU⟩ (c_X12_thrown l C (XL C ao f1) n S2 hw.wf _ ma Tm (pI S2 1200 ma) S2 rfl) (cwV 0 hU (pq_gV tw1449 tw1450 tw1451 tw14 tc_X12_thrown) rfl rfl rfl cd_X12_thrown ⟨Nat.le_of_ble_eq_true rfl, Nat.le_of_ble_eq_true rfl⟩) (pw_preV hw Tm (by decide) rfl) rfl rfl hl.1 rfl (lv_room (Nat.le_of_ble_eq_true rfl)) dL_law__1720 ⟨by show _ ≤ room_1.cells; omega, by show _ ≤ room_1.slots; omega⟩) hw (fun H locs hw hx3 => ?_)
  refine lv_iload hx hb dL_law__1723 (lv_at hl 1 rfl) ?_
  refine lv_icmp_eq (tgt := 1730) hx hb dL_law__1725 (by decide) (fun _ => ?_) (fun h9 => absurd hth h9)
  refine lv_iload hx hb dL_law__1730 (lv_at hl 1 rfl) ?_
  refine lv_if_ne (tgt := 1754) hx hb dL_law__1732 (by decide) (fun _ => ?_) (fun h9 => ?_)
  · refine lv_goto (tgt := 3019) hx hb dL_law__1754 (by decide) ?_
    exact W.widen (by omega) (by omega) (hk S2 f1 _ _ ls hJ2 hw (lv_sub hl [2, 3, 4, 5, 6] rfl))
  · refine lv_aload_n hx hb dL_law__1735 rfl (lv_at hl 5 rfl) ?_
    refine lv_iconst (v := 0) hx hb dL_law__1736 (by decide) ?_
    refine pw_lald hx hb hw dL_law__1737 ?_
    refine lv_iload hx hb dL_law__1738 (lv_at hl 0 rfl) ?_
    refine lv_if_eq (tgt := 1747) hx hb dL_law__1740 (by decide) (fun h8 => ?_) (fun h8 => ?_)
    · refine lv_lconst (v := 0) hx hb dL_law__1747 (by decide) ?_
      refine W.lcmp hx hb dL_law__1748 ?_
      refine lv_if_eq (tgt := 1754) hx hb dL_law__1749 (by decide) (fun _ => ?_) (fun h7 => absurd (lw_cmp0 (by rw [han h9, if_pos h8])) h7)
      refine lv_goto (tgt := 3019) hx hb dL_law__1754 (by decide) ?_
      exact W.widen (by omega) (by omega) (hk S2 f1 _ _ ls hJ2 hw (lv_sub hl [2, 3, 4, 5, 6] rfl))
    · refine lv_lconst (v := 1) hx hb dL_law__1743 (by decide) ?_
      refine lv_goto (tgt := 1748) hx hb dL_law__1744 (by decide) ?_
      refine W.lcmp hx hb dL_law__1748 ?_
      refine lv_if_eq (tgt := 1754) hx hb dL_law__1749 (by decide) (fun _ => ?_) (fun h7 => absurd (lw_cmp0 (by rw [han h9, if_neg h8])) h7)
      refine lv_goto (tgt := 3019) hx hb dL_law__1754 (by decide) ?_
      exact W.widen (by omega) (by omega) (hk S2 f1 _ _ ls hJ2 hw (lv_sub hl [2, 3, 4, 5, 6] rfl))
set_option maxHeartbeats 4000000 in
set_option maxRecDepth 100000 in
theorem lc_22 {p : Program} {l : Launch} {e : Env} {s : State} {m : MethodId} {below : List Frame} {meth : Method} {c : Code} {b L : Nat} {xs : Nat → Int32} (C0 : lw_At p s m meth c b L xs) (hst : l.stackTraces = false) (C : pq_C) (n xa ma ao : Nat) (J : pq_S → Prop) (hTY : ∀ S, J S → TY S xa 11 ∧ TY S ma 12) (hob : OB_22 n xa ma J) (x4 : Int32) (hi1 : vp_in (x4 + 1) L) (hi2 : vp_in (x4 + 2) L) (S : pq_S) (f : Nat → Int64) (H : Heap) (locs : List Loc) (ls : Array Slot) (cells slots : Nat) (hJ : J S) (hcc : cells + 200 ≤ room_1.cells) (hss : slots + 8000 ≤ room_1.slots) (hw : PW C (XL C ao f) S (lw_A s) H locs s) (hl : lv_has ls 8 [(0, .ref b), (1, .ref xa), (2, .ref ma), (3, .ref ao), (4, .int x4)]) (hk : ∀ (S2 : pq_S) (f2 : Nat → Int64) (H2 : Heap) (locs2 : List Loc) (ls2 : Array Slot), J S2 → PW C (XL C ao f2) S2 (lw_A s) H2 locs2 s → lv_has ls2 8 [(0, .ref b), (1, .ref xa), (2, .ref ma), (3, .ref ao), (4, .int x4)] → W p l e room_1 s m #[Value.ref b] below meth c H2 locs2 (cells + 200) (slots + 8000) (lw_Z below #[Value.ref b] s) (F0 m 3019 ls2 [])) : W p l e room_1 s m #[Value.ref b] below meth c H locs cells slots (lw_Z below #[Value.ref b] s) (F0 m 1757 ls []) := by
  obtain ⟨hx, hb, hr, hml, hown, hts, hX, hbl, hlocks, hgv⟩ := id C0
  have hb : c.code = cL_law_ := hb
  have hown : s.vm.findClass RL = some m.cls := hown
  have hbA : ¬ lw_A s b := Nat.not_le.mpr hbl
  have hU : ∀ w ∈ pq_U, w.before _ s = true := fun w h => hts w (List.mem_filter.mp h).1
  obtain ⟨Tx, Tm⟩ := hTY S hJ
  refine lv_aload_n hx hb dL_law__1757 rfl (lv_at hl 1 rfl) ?_
  refine lv_aload_n hx hb dL_law__1758 rfl (lv_at hl 0 rfl) ?_
  refine lv_iload hx hb dL_law__1759 (lv_at hl 4 rfl) ?_
  refine lv_iconst (v := 1) hx hb dL_law__1761 (by decide) ?_
  refine lv_iadd hx hb dL_law__1762 ?_
  refine va_sld hx hb hX hbl hbA hw.S hi1 dL_law__1763 ?_
  refine lv_aload_n hx hb dL_law__1764 rfl (lv_at hl 0 rfl) ?_
  refine lv_iload hx hb dL_law__1765 (lv_at hl 4 rfl) ?_
  refine lv_iconst (v := 2) hx hb dL_law__1767 (by decide) ?_
  refine lv_iadd hx hb dL_law__1768 ?_
  refine va_sld hx hb hX hbl hbA hw.S hi2 dL_law__1769 ?_
  refine lv_aload_n hx hb dL_law__1770 rfl (lv_at hl 3 rfl) ?_
  obtain ⟨mc, ms, h1, h2, hm⟩ := hob S f hJ (xs (Int32.toNatClampNeg (x4 + 1))) (xs (Int32.toNatClampNeg (x4 + 2)))
  refine vx_calli (vx_runSX (As := [.ref xa, .int (xs (Int32.toNatClampNeg (x4 + 1))), .int (xs (Int32.toNatClampNeg (x4 + 2))), .ref ao]) (rest := []) ⟨hx, hb, hml, hown, hU⟩ (cl_L_nights l C ao f n S hw.wf _ xa (xs (Int32.toNatClampNeg (x4 + 1))) (xs (Int32.toNatClampNeg (x4 + 2))) Tx mc ms hst _ hm) (vx_cwSW 4 hU (pq_gS tw1198 tw1199 tw0 tc_L_nights) rfl rfl rfl cd_L_nights ⟨Nat.le_of_ble_eq_true rfl, Nat.le_of_ble_eq_true rfl⟩) (pw_preS hw) rfl rfl hl.1 rfl (lv_room (Nat.le_of_ble_eq_true rfl)) dL_law__1771 ⟨by show _ ≤ room_1.cells; omega, by show _ ≤ room_1.slots; omega⟩) hw.S (fun q _ h => pw_free hw q h) (pw_free hw) (fun q _ h => pw_free hw q h) (fun Es ce q9 u t H1 locs1 ht hvm hpx hB hz1 hk1 hS hce hcv hcl => hpx.elim) (fun k u t H1 locs1 ht hvm hq hB hz1 hk1 hS => ?_)
  obtain ⟨f1, S1⟩ := u
  obtain ⟨hK, hF1, hEx⟩ := hq
  dsimp only at hK hF1 hEx hB
  have hw : PW C (XL C ao f1) S1 (lw_A s) H1 locs1 s := pw_lpost hw ht hvm hF1 hB hS
  obtain ⟨b9, S2, hm2, hth, han, hJ2⟩ := hK
  have Tx : TY S1 xa 11 := ty_ext hEx Tx
  have Tm : TY S1 ma 12 := ty_ext hEx Tm
  refine lv_istore (lv' := [(5, .int k), (0, .ref b), (1, .ref xa), (2, .ref ma), (3, .ref ao), (4, .int x4)]) hx hb dL_law__1774 hl (by decide) rfl (fun ls hl => ?_)
  refine lv_aload_n hx hb dL_law__1776 rfl (lv_at hl 3 rfl) ?_
  refine lv_aload_n hx hb dL_law__1777 rfl (lv_at hl 1 rfl) ?_
  refine lv_iload hx hb dL_law__1778 (lv_at hl 5 rfl) ?_
  refine lv_iconst (v := 1) hx hb dL_law__1780 (by decide) ?_
  refine lv_iadd hx hb dL_law__1781 ?_
  refine va_sld hx hb hX hbl hbA hw.S hi1 dL_law__1782 ?_
  refine lv_aload_n hx hb dL_law__1783 rfl (lv_at hl 1 rfl) ?_
  refine lv_iload hx hb dL_law__1784 (lv_at hl 5 rfl) ?_
  refine lv_iconst (v := 2) hx hb dL_law__1786 (by decide) ?_
  refine lv_iadd hx hb dL_law__1787 ?_
  refine va_sld hx hb hX hbl hbA hw.S hi2 dL_law__1788 ?_
  refine pw_ci (va_runV (As := [.int (xs (Int32.toNatClampNeg (x4 + 1))), .int (xs (Int32.toNatClampNeg (x4 + 2)))]) (rest := []) ⟨hx, hb, hml, hown, hU⟩ (c_X12_nights l C (XL C ao f1) n S1 hw.wf _ ma (xs (Int32.toNatClampNeg (x4 + 1))) (xs (Int32.toNatClampNeg (x4 + 2))) Tm b9 S2 hm2) (cwV 2 hU (pq_gV tw2009 tw2010 tw2011 tw14 tc_X12_nights) rfl rfl rfl cd_X12_nights ⟨Nat.le_of_ble_eq_true rfl, Nat.le_of_ble_eq_true rfl⟩) (pw_preV hw Tm (by decide) rfl) rfl rfl hl.1 rfl (lv_room (Nat.le_of_ble_eq_true rfl)) dL_law__1789 ⟨by show _ ≤ room_1.cells; omega, by show _ ≤ room_1.slots; omega⟩) hw (fun H locs hw hx2 => ?_)
  have Tm : TY S2 ma 12 := ty_ext hx2 Tm
  refine lv_istore (lv' := [(6, .int b9), (5, .int k), (0, .ref b), (1, .ref xa), (2, .ref ma), (3, .ref ao), (4, .int x4)]) hx hb dL_law__1792 hl (by decide) rfl (fun ls hl => ?_)
  refine lv_aload_n hx hb dL_law__1794 rfl (lv_at hl 4 rfl) ?_
  refine pw_ci (va_runV (As := []) (rest := []) ⟨hx, hb, hml, hown, hU⟩ (c_X12_thrown l C (XL C ao f1) n S2 hw.wf _ ma Tm (pI S2 1200 ma) S2 rfl) (cwV 0 hU (pq_gV tw1449 tw1450 tw1451 tw14 tc_X12_thrown) rfl rfl rfl cd_X12_thrown ⟨Nat.le_of_ble_eq_true rfl, Nat.le_of_ble_eq_true rfl⟩) (pw_preV hw Tm (by decide) rfl) rfl rfl hl.1 rfl (lv_room (Nat.le_of_ble_eq_true rfl)) dL_law__1795 ⟨by show _ ≤ room_1.cells; omega, by show _ ≤ room_1.slots; omega⟩) hw (fun H locs hw hx3 => ?_)
  refine lv_iload hx hb dL_law__1798 (lv_at hl 1 rfl) ?_
  refine lv_icmp_eq (tgt := 1805) hx hb dL_law__1800 (by decide) (fun _ => ?_) (fun h9 => absurd hth h9)
  refine lv_iload hx hb dL_law__1805 (lv_at hl 1 rfl) ?_
  refine lv_if_ne (tgt := 1822) hx hb dL_law__1807 (by decide) (fun _ => ?_) (fun h9 => ?_)
  · refine lv_goto (tgt := 3019) hx hb dL_law__1822 (by decide) ?_
    exact W.widen (by omega) (by omega) (hk S2 f1 _ _ ls hJ2 hw (lv_sub hl [2, 3, 4, 5, 6] rfl))
  · refine lv_aload_n hx hb dL_law__1810 rfl (lv_at hl 5 rfl) ?_
    refine lv_iconst (v := 0) hx hb dL_law__1811 (by decide) ?_
    refine pw_lald hx hb hw dL_law__1812 ?_
    refine lv_iload hx hb dL_law__1813 (lv_at hl 0 rfl) ?_
    refine lv_i2l (v := Int32.toInt64 b9) hx hb dL_law__1815 rfl ?_
    refine W.lcmp hx hb dL_law__1816 ?_
    refine lv_if_eq (tgt := 1822) hx hb dL_law__1817 (by decide) (fun _ => ?_) (fun h7 => absurd (lw_cmp0 (han h9)) h7)
    refine lv_goto (tgt := 3019) hx hb dL_law__1822 (by decide) ?_
    exact W.widen (by omega) (by omega) (hk S2 f1 _ _ ls hJ2 hw (lv_sub hl [2, 3, 4, 5, 6] rfl))
set_option maxHeartbeats 4000000 in
set_option maxRecDepth 100000 in
theorem lc_23 {p : Program} {l : Launch} {e : Env} {s : State} {m : MethodId} {below : List Frame} {meth : Method} {c : Code} {b L : Nat} {xs : Nat → Int32} (C0 : lw_At p s m meth c b L xs) (hst : l.stackTraces = false) (C : pq_C) (n xa ma ao : Nat) (J : pq_S → Prop) (hTY : ∀ S, J S → TY S xa 11 ∧ TY S ma 12) (hob : OB_23 n xa ma J) (x4 : Int32) (hi1 : vp_in (x4 + 1) L) (hi2 : vp_in (x4 + 2) L) (S : pq_S) (f : Nat → Int64) (H : Heap) (locs : List Loc) (ls : Array Slot) (cells slots : Nat) (hJ : J S) (hcc : cells + 200 ≤ room_1.cells) (hss : slots + 8000 ≤ room_1.slots) (hw : PW C (XL C ao f) S (lw_A s) H locs s) (hl : lv_has ls 8 [(0, .ref b), (1, .ref xa), (2, .ref ma), (3, .ref ao), (4, .int x4)]) (hk : ∀ (S2 : pq_S) (f2 : Nat → Int64) (H2 : Heap) (locs2 : List Loc) (ls2 : Array Slot), J S2 → PW C (XL C ao f2) S2 (lw_A s) H2 locs2 s → lv_has ls2 8 [(0, .ref b), (1, .ref xa), (2, .ref ma), (3, .ref ao), (4, .int x4)] → W p l e room_1 s m #[Value.ref b] below meth c H2 locs2 (cells + 200) (slots + 8000) (lw_Z below #[Value.ref b] s) (F0 m 3019 ls2 [])) : W p l e room_1 s m #[Value.ref b] below meth c H locs cells slots (lw_Z below #[Value.ref b] s) (F0 m 1825 ls []) := by
  obtain ⟨hx, hb, hr, hml, hown, hts, hX, hbl, hlocks, hgv⟩ := id C0
  have hb : c.code = cL_law_ := hb
  have hown : s.vm.findClass RL = some m.cls := hown
  have hbA : ¬ lw_A s b := Nat.not_le.mpr hbl
  have hU : ∀ w ∈ pq_U, w.before _ s = true := fun w h => hts w (List.mem_filter.mp h).1
  obtain ⟨Tx, Tm⟩ := hTY S hJ
  refine lv_aload_n hx hb dL_law__1825 rfl (lv_at hl 1 rfl) ?_
  refine lv_aload_n hx hb dL_law__1826 rfl (lv_at hl 0 rfl) ?_
  refine lv_iload hx hb dL_law__1827 (lv_at hl 4 rfl) ?_
  refine lv_iconst (v := 1) hx hb dL_law__1829 (by decide) ?_
  refine lv_iadd hx hb dL_law__1830 ?_
  refine va_sld hx hb hX hbl hbA hw.S hi1 dL_law__1831 ?_
  refine lv_aload_n hx hb dL_law__1832 rfl (lv_at hl 0 rfl) ?_
  refine lv_iload hx hb dL_law__1833 (lv_at hl 4 rfl) ?_
  refine lv_iconst (v := 2) hx hb dL_law__1835 (by decide) ?_
  refine lv_iadd hx hb dL_law__1836 ?_
  refine va_sld hx hb hX hbl hbA hw.S hi2 dL_law__1837 ?_
  refine lv_aload_n hx hb dL_law__1838 rfl (lv_at hl 3 rfl) ?_
  obtain ⟨mc, ms, h1, h2, hm⟩ := hob S f hJ (xs (Int32.toNatClampNeg (x4 + 1))) (xs (Int32.toNatClampNeg (x4 + 2)))
  refine vx_calli (vx_runSX (As := [.ref xa, .int (xs (Int32.toNatClampNeg (x4 + 1))), .int (xs (Int32.toNatClampNeg (x4 + 2))), .ref ao]) (rest := []) ⟨hx, hb, hml, hown, hU⟩ (cl_L_night l C ao f n S hw.wf _ xa (xs (Int32.toNatClampNeg (x4 + 1))) (xs (Int32.toNatClampNeg (x4 + 2))) Tx mc ms hst _ hm) (vx_cwSW 4 hU (pq_gS tw1244 tw1245 tw0 tc_L_night) rfl rfl rfl cd_L_night ⟨Nat.le_of_ble_eq_true rfl, Nat.le_of_ble_eq_true rfl⟩) (pw_preS hw) rfl rfl hl.1 rfl (lv_room (Nat.le_of_ble_eq_true rfl)) dL_law__1839 ⟨by show _ ≤ room_1.cells; omega, by show _ ≤ room_1.slots; omega⟩) hw.S (fun q _ h => pw_free hw q h) (pw_free hw) (fun q _ h => pw_free hw q h) (fun Es ce q9 u t H1 locs1 ht hvm hpx hB hz1 hk1 hS hce hcv hcl => hpx.elim) (fun k u t H1 locs1 ht hvm hq hB hz1 hk1 hS => ?_)
  obtain ⟨f1, S1⟩ := u
  obtain ⟨hK, hF1, hEx⟩ := hq
  dsimp only at hK hF1 hEx hB
  have hw : PW C (XL C ao f1) S1 (lw_A s) H1 locs1 s := pw_lpost hw ht hvm hF1 hB hS
  obtain ⟨b9, S2, hm2, hth, han, hJ2⟩ := hK
  have Tx : TY S1 xa 11 := ty_ext hEx Tx
  have Tm : TY S1 ma 12 := ty_ext hEx Tm
  refine lv_istore (lv' := [(5, .int k), (0, .ref b), (1, .ref xa), (2, .ref ma), (3, .ref ao), (4, .int x4)]) hx hb dL_law__1842 hl (by decide) rfl (fun ls hl => ?_)
  refine lv_aload_n hx hb dL_law__1844 rfl (lv_at hl 3 rfl) ?_
  refine lv_aload_n hx hb dL_law__1845 rfl (lv_at hl 1 rfl) ?_
  refine lv_iload hx hb dL_law__1846 (lv_at hl 5 rfl) ?_
  refine lv_iconst (v := 1) hx hb dL_law__1848 (by decide) ?_
  refine lv_iadd hx hb dL_law__1849 ?_
  refine va_sld hx hb hX hbl hbA hw.S hi1 dL_law__1850 ?_
  refine lv_aload_n hx hb dL_law__1851 rfl (lv_at hl 1 rfl) ?_
  refine lv_iload hx hb dL_law__1852 (lv_at hl 5 rfl) ?_
  refine lv_iconst (v := 2) hx hb dL_law__1854 (by decide) ?_
  refine lv_iadd hx hb dL_law__1855 ?_
  refine va_sld hx hb hX hbl hbA hw.S hi2 dL_law__1856 ?_
  refine pw_ci (va_runV (As := [.int (xs (Int32.toNatClampNeg (x4 + 1))), .int (xs (Int32.toNatClampNeg (x4 + 2)))]) (rest := []) ⟨hx, hb, hml, hown, hU⟩ (c_X12_night l C (XL C ao f1) n S1 hw.wf _ ma (xs (Int32.toNatClampNeg (x4 + 1))) (xs (Int32.toNatClampNeg (x4 + 2))) Tm b9 S2 hm2) (cwV 2 hU (pq_gV tw2021 tw2022 tw2023 tw14 tc_X12_night) rfl rfl rfl cd_X12_night ⟨Nat.le_of_ble_eq_true rfl, Nat.le_of_ble_eq_true rfl⟩) (pw_preV hw Tm (by decide) rfl) rfl rfl hl.1 rfl (lv_room (Nat.le_of_ble_eq_true rfl)) dL_law__1857 ⟨by show _ ≤ room_1.cells; omega, by show _ ≤ room_1.slots; omega⟩) hw (fun H locs hw hx2 => ?_)
  have Tm : TY S2 ma 12 := ty_ext hx2 Tm
  refine lv_istore (lv' := [(6, .int b9), (5, .int k), (0, .ref b), (1, .ref xa), (2, .ref ma), (3, .ref ao), (4, .int x4)]) hx hb dL_law__1860 hl (by decide) rfl (fun ls hl => ?_)
  refine lv_aload_n hx hb dL_law__1862 rfl (lv_at hl 4 rfl) ?_
  refine pw_ci (va_runV (As := []) (rest := []) ⟨hx, hb, hml, hown, hU⟩ (c_X12_thrown l C (XL C ao f1) n S2 hw.wf _ ma Tm (pI S2 1200 ma) S2 rfl) (cwV 0 hU (pq_gV tw1449 tw1450 tw1451 tw14 tc_X12_thrown) rfl rfl rfl cd_X12_thrown ⟨Nat.le_of_ble_eq_true rfl, Nat.le_of_ble_eq_true rfl⟩) (pw_preV hw Tm (by decide) rfl) rfl rfl hl.1 rfl (lv_room (Nat.le_of_ble_eq_true rfl)) dL_law__1863 ⟨by show _ ≤ room_1.cells; omega, by show _ ≤ room_1.slots; omega⟩) hw (fun H locs hw hx3 => ?_)
  refine lv_iload hx hb dL_law__1866 (lv_at hl 1 rfl) ?_
  refine lv_icmp_eq (tgt := 1873) hx hb dL_law__1868 (by decide) (fun _ => ?_) (fun h9 => absurd hth h9)
  refine lv_iload hx hb dL_law__1873 (lv_at hl 1 rfl) ?_
  refine lv_if_ne (tgt := 1890) hx hb dL_law__1875 (by decide) (fun _ => ?_) (fun h9 => ?_)
  · refine lv_goto (tgt := 3019) hx hb dL_law__1890 (by decide) ?_
    exact W.widen (by omega) (by omega) (hk S2 f1 _ _ ls hJ2 hw (lv_sub hl [2, 3, 4, 5, 6] rfl))
  · refine lv_aload_n hx hb dL_law__1878 rfl (lv_at hl 5 rfl) ?_
    refine lv_iconst (v := 0) hx hb dL_law__1879 (by decide) ?_
    refine pw_lald hx hb hw dL_law__1880 ?_
    refine lv_iload hx hb dL_law__1881 (lv_at hl 0 rfl) ?_
    refine lv_i2l (v := Int32.toInt64 b9) hx hb dL_law__1883 rfl ?_
    refine W.lcmp hx hb dL_law__1884 ?_
    refine lv_if_eq (tgt := 1890) hx hb dL_law__1885 (by decide) (fun _ => ?_) (fun h7 => absurd (lw_cmp0 (han h9)) h7)
    refine lv_goto (tgt := 3019) hx hb dL_law__1890 (by decide) ?_
    exact W.widen (by omega) (by omega) (hk S2 f1 _ _ ls hJ2 hw (lv_sub hl [2, 3, 4, 5, 6] rfl))
set_option maxHeartbeats 4000000 in
set_option maxRecDepth 100000 in
theorem lc_24 {p : Program} {l : Launch} {e : Env} {s : State} {m : MethodId} {below : List Frame} {meth : Method} {c : Code} {b L : Nat} {xs : Nat → Int32} (C0 : lw_At p s m meth c b L xs) (hst : l.stackTraces = false) (C : pq_C) (n xa ma ao : Nat) (J : pq_S → Prop) (hTY : ∀ S, J S → TY S xa 11 ∧ TY S ma 12) (hob : OB_24 n xa ma J) (x4 : Int32) (hi1 : vp_in (x4 + 1) L) (hi2 : vp_in (x4 + 2) L) (hi3 : vp_in (x4 + 3) L) (S : pq_S) (f : Nat → Int64) (H : Heap) (locs : List Loc) (ls : Array Slot) (cells slots : Nat) (hJ : J S) (hcc : cells + 200 ≤ room_1.cells) (hss : slots + 8000 ≤ room_1.slots) (hw : PW C (XL C ao f) S (lw_A s) H locs s) (hl : lv_has ls 8 [(0, .ref b), (1, .ref xa), (2, .ref ma), (3, .ref ao), (4, .int x4)]) (hk : ∀ (S2 : pq_S) (f2 : Nat → Int64) (H2 : Heap) (locs2 : List Loc) (ls2 : Array Slot), J S2 → PW C (XL C ao f2) S2 (lw_A s) H2 locs2 s → lv_has ls2 8 [(0, .ref b), (1, .ref xa), (2, .ref ma), (3, .ref ao), (4, .int x4)] → W p l e room_1 s m #[Value.ref b] below meth c H2 locs2 (cells + 200) (slots + 8000) (lw_Z below #[Value.ref b] s) (F0 m 3019 ls2 [])) : W p l e room_1 s m #[Value.ref b] below meth c H locs cells slots (lw_Z below #[Value.ref b] s) (F0 m 1893 ls []) := by
  obtain ⟨hx, hb, hr, hml, hown, hts, hX, hbl, hlocks, hgv⟩ := id C0
  have hb : c.code = cL_law_ := hb
  have hown : s.vm.findClass RL = some m.cls := hown
  have hbA : ¬ lw_A s b := Nat.not_le.mpr hbl
  have hU : ∀ w ∈ pq_U, w.before _ s = true := fun w h => hts w (List.mem_filter.mp h).1
  obtain ⟨Tx, Tm⟩ := hTY S hJ
  refine lv_aload_n hx hb dL_law__1893 rfl (lv_at hl 1 rfl) ?_
  refine lv_aload_n hx hb dL_law__1894 rfl (lv_at hl 0 rfl) ?_
  refine lv_iload hx hb dL_law__1895 (lv_at hl 4 rfl) ?_
  refine lv_iconst (v := 1) hx hb dL_law__1897 (by decide) ?_
  refine lv_iadd hx hb dL_law__1898 ?_
  refine va_sld hx hb hX hbl hbA hw.S hi1 dL_law__1899 ?_
  refine lv_aload_n hx hb dL_law__1900 rfl (lv_at hl 0 rfl) ?_
  refine lv_iload hx hb dL_law__1901 (lv_at hl 4 rfl) ?_
  refine lv_iconst (v := 2) hx hb dL_law__1903 (by decide) ?_
  refine lv_iadd hx hb dL_law__1904 ?_
  refine va_sld hx hb hX hbl hbA hw.S hi2 dL_law__1905 ?_
  refine lv_aload_n hx hb dL_law__1906 rfl (lv_at hl 0 rfl) ?_
  refine lv_iload hx hb dL_law__1907 (lv_at hl 4 rfl) ?_
  refine lv_iconst (v := 3) hx hb dL_law__1909 (by decide) ?_
  refine lv_iadd hx hb dL_law__1910 ?_
  refine va_sld hx hb hX hbl hbA hw.S hi3 dL_law__1911 ?_
  refine lv_aload_n hx hb dL_law__1912 rfl (lv_at hl 3 rfl) ?_
  obtain ⟨mc, ms, h1, h2, hm⟩ := hob S f hJ (xs (Int32.toNatClampNeg (x4 + 1))) (xs (Int32.toNatClampNeg (x4 + 2))) (xs (Int32.toNatClampNeg (x4 + 3)))
  refine vx_calli (vx_runSX (As := [.ref xa, .int (xs (Int32.toNatClampNeg (x4 + 1))), .int (xs (Int32.toNatClampNeg (x4 + 2))), .int (xs (Int32.toNatClampNeg (x4 + 3))), .ref ao]) (rest := []) ⟨hx, hb, hml, hown, hU⟩ (cl_L_looks l C ao f n S hw.wf _ xa (xs (Int32.toNatClampNeg (x4 + 1))) (xs (Int32.toNatClampNeg (x4 + 2))) (xs (Int32.toNatClampNeg (x4 + 3))) Tx mc ms hst _ hm) (vx_cwSW 5 hU (pq_gS tw1255 tw1256 tw0 tc_L_looks) rfl rfl rfl cd_L_looks ⟨Nat.le_of_ble_eq_true rfl, Nat.le_of_ble_eq_true rfl⟩) (pw_preS hw) rfl rfl hl.1 rfl (lv_room (Nat.le_of_ble_eq_true rfl)) dL_law__1913 ⟨by show _ ≤ room_1.cells; omega, by show _ ≤ room_1.slots; omega⟩) hw.S (fun q _ h => pw_free hw q h) (pw_free hw) (fun q _ h => pw_free hw q h) (fun Es ce q9 u t H1 locs1 ht hvm hpx hB hz1 hk1 hS hce hcv hcl => hpx.elim) (fun k u t H1 locs1 ht hvm hq hB hz1 hk1 hS => ?_)
  obtain ⟨f1, S1⟩ := u
  obtain ⟨hK, hF1, hEx⟩ := hq
  dsimp only at hK hF1 hEx hB
  have hw : PW C (XL C ao f1) S1 (lw_A s) H1 locs1 s := pw_lpost hw ht hvm hF1 hB hS
  obtain ⟨b9, S2, hm2, hth, han, hJ2⟩ := hK
  have Tx : TY S1 xa 11 := ty_ext hEx Tx
  have Tm : TY S1 ma 12 := ty_ext hEx Tm
  refine lv_istore (lv' := [(5, .int k), (0, .ref b), (1, .ref xa), (2, .ref ma), (3, .ref ao), (4, .int x4)]) hx hb dL_law__1916 hl (by decide) rfl (fun ls hl => ?_)
  refine lv_aload_n hx hb dL_law__1918 rfl (lv_at hl 3 rfl) ?_
  refine lv_aload_n hx hb dL_law__1919 rfl (lv_at hl 1 rfl) ?_
  refine lv_iload hx hb dL_law__1920 (lv_at hl 5 rfl) ?_
  refine lv_iconst (v := 1) hx hb dL_law__1922 (by decide) ?_
  refine lv_iadd hx hb dL_law__1923 ?_
  refine va_sld hx hb hX hbl hbA hw.S hi1 dL_law__1924 ?_
  refine lv_aload_n hx hb dL_law__1925 rfl (lv_at hl 1 rfl) ?_
  refine lv_iload hx hb dL_law__1926 (lv_at hl 5 rfl) ?_
  refine lv_iconst (v := 2) hx hb dL_law__1928 (by decide) ?_
  refine lv_iadd hx hb dL_law__1929 ?_
  refine va_sld hx hb hX hbl hbA hw.S hi2 dL_law__1930 ?_
  refine lv_aload_n hx hb dL_law__1931 rfl (lv_at hl 1 rfl) ?_
  refine lv_iload hx hb dL_law__1932 (lv_at hl 5 rfl) ?_
  refine lv_iconst (v := 3) hx hb dL_law__1934 (by decide) ?_
  refine lv_iadd hx hb dL_law__1935 ?_
  refine va_sld hx hb hX hbl hbA hw.S hi3 dL_law__1936 ?_
  refine pw_ci (va_runV (As := [.int (xs (Int32.toNatClampNeg (x4 + 1))), .int (xs (Int32.toNatClampNeg (x4 + 2))), .int (xs (Int32.toNatClampNeg (x4 + 3)))]) (rest := []) ⟨hx, hb, hml, hown, hU⟩ (c_X12_looks l C (XL C ao f1) n S1 hw.wf _ ma (xs (Int32.toNatClampNeg (x4 + 1))) (xs (Int32.toNatClampNeg (x4 + 2))) (xs (Int32.toNatClampNeg (x4 + 3))) Tm b9 S2 hm2) (cwV 3 hU (pq_gV tw2025 tw2026 tw2027 tw14 tc_X12_looks) rfl rfl rfl cd_X12_looks ⟨Nat.le_of_ble_eq_true rfl, Nat.le_of_ble_eq_true rfl⟩) (pw_preV hw Tm (by decide) rfl) rfl rfl hl.1 rfl (lv_room (Nat.le_of_ble_eq_true rfl)) dL_law__1937 ⟨by show _ ≤ room_1.cells; omega, by show _ ≤ room_1.slots; omega⟩) hw (fun H locs hw hx2 => ?_)
  have Tm : TY S2 ma 12 := ty_ext hx2 Tm
  refine lv_istore (lv' := [(6, .int b9), (5, .int k), (0, .ref b), (1, .ref xa), (2, .ref ma), (3, .ref ao), (4, .int x4)]) hx hb dL_law__1940 hl (by decide) rfl (fun ls hl => ?_)
  refine lv_aload_n hx hb dL_law__1942 rfl (lv_at hl 4 rfl) ?_
  refine pw_ci (va_runV (As := []) (rest := []) ⟨hx, hb, hml, hown, hU⟩ (c_X12_thrown l C (XL C ao f1) n S2 hw.wf _ ma Tm (pI S2 1200 ma) S2 rfl) (cwV 0 hU (pq_gV tw1449 tw1450 tw1451 tw14 tc_X12_thrown) rfl rfl rfl cd_X12_thrown ⟨Nat.le_of_ble_eq_true rfl, Nat.le_of_ble_eq_true rfl⟩) (pw_preV hw Tm (by decide) rfl) rfl rfl hl.1 rfl (lv_room (Nat.le_of_ble_eq_true rfl)) dL_law__1943 ⟨by show _ ≤ room_1.cells; omega, by show _ ≤ room_1.slots; omega⟩) hw (fun H locs hw hx3 => ?_)
  refine lv_iload hx hb dL_law__1946 (lv_at hl 1 rfl) ?_
  refine lv_icmp_eq (tgt := 1953) hx hb dL_law__1948 (by decide) (fun _ => ?_) (fun h9 => absurd hth h9)
  refine lv_iload hx hb dL_law__1953 (lv_at hl 1 rfl) ?_
  refine lv_if_ne (tgt := 1970) hx hb dL_law__1955 (by decide) (fun _ => ?_) (fun h9 => ?_)
  · refine lv_goto (tgt := 3019) hx hb dL_law__1970 (by decide) ?_
    exact W.widen (by omega) (by omega) (hk S2 f1 _ _ ls hJ2 hw (lv_sub hl [2, 3, 4, 5, 6] rfl))
  · refine lv_aload_n hx hb dL_law__1958 rfl (lv_at hl 5 rfl) ?_
    refine lv_iconst (v := 0) hx hb dL_law__1959 (by decide) ?_
    refine pw_lald hx hb hw dL_law__1960 ?_
    refine lv_iload hx hb dL_law__1961 (lv_at hl 0 rfl) ?_
    refine lv_i2l (v := Int32.toInt64 b9) hx hb dL_law__1963 rfl ?_
    refine W.lcmp hx hb dL_law__1964 ?_
    refine lv_if_eq (tgt := 1970) hx hb dL_law__1965 (by decide) (fun _ => ?_) (fun h7 => absurd (lw_cmp0 (han h9)) h7)
    refine lv_goto (tgt := 3019) hx hb dL_law__1970 (by decide) ?_
    exact W.widen (by omega) (by omega) (hk S2 f1 _ _ ls hJ2 hw (lv_sub hl [2, 3, 4, 5, 6] rfl))
set_option maxHeartbeats 4000000 in
set_option maxRecDepth 100000 in
theorem lc_25 {p : Program} {l : Launch} {e : Env} {s : State} {m : MethodId} {below : List Frame} {meth : Method} {c : Code} {b L : Nat} {xs : Nat → Int32} (C0 : lw_At p s m meth c b L xs) (hst : l.stackTraces = false) (C : pq_C) (n xa ma ao : Nat) (J : pq_S → Prop) (hTY : ∀ S, J S → TY S xa 11 ∧ TY S ma 12) (hob : OB_25 n xa ma J) (x4 : Int32) (hi1 : vp_in (x4 + 1) L) (S : pq_S) (f : Nat → Int64) (H : Heap) (locs : List Loc) (ls : Array Slot) (cells slots : Nat) (hJ : J S) (hcc : cells + 200 ≤ room_1.cells) (hss : slots + 8000 ≤ room_1.slots) (hw : PW C (XL C ao f) S (lw_A s) H locs s) (hl : lv_has ls 8 [(0, .ref b), (1, .ref xa), (2, .ref ma), (3, .ref ao), (4, .int x4)]) (hk : ∀ (S2 : pq_S) (f2 : Nat → Int64) (H2 : Heap) (locs2 : List Loc) (ls2 : Array Slot), J S2 → PW C (XL C ao f2) S2 (lw_A s) H2 locs2 s → lv_has ls2 8 [(0, .ref b), (1, .ref xa), (2, .ref ma), (3, .ref ao), (4, .int x4)] → W p l e room_1 s m #[Value.ref b] below meth c H2 locs2 (cells + 200) (slots + 8000) (lw_Z below #[Value.ref b] s) (F0 m 3019 ls2 [])) : W p l e room_1 s m #[Value.ref b] below meth c H locs cells slots (lw_Z below #[Value.ref b] s) (F0 m 1973 ls []) := by
  obtain ⟨hx, hb, hr, hml, hown, hts, hX, hbl, hlocks, hgv⟩ := id C0
  have hb : c.code = cL_law_ := hb
  have hown : s.vm.findClass RL = some m.cls := hown
  have hbA : ¬ lw_A s b := Nat.not_le.mpr hbl
  have hU : ∀ w ∈ pq_U, w.before _ s = true := fun w h => hts w (List.mem_filter.mp h).1
  obtain ⟨Tx, Tm⟩ := hTY S hJ
  refine lv_aload_n hx hb dL_law__1973 rfl (lv_at hl 1 rfl) ?_
  refine lv_aload_n hx hb dL_law__1974 rfl (lv_at hl 0 rfl) ?_
  refine lv_iload hx hb dL_law__1975 (lv_at hl 4 rfl) ?_
  refine lv_iconst (v := 1) hx hb dL_law__1977 (by decide) ?_
  refine lv_iadd hx hb dL_law__1978 ?_
  refine va_sld hx hb hX hbl hbA hw.S hi1 dL_law__1979 ?_
  refine lv_aload_n hx hb dL_law__1980 rfl (lv_at hl 3 rfl) ?_
  obtain ⟨mc, ms, h1, h2, hm⟩ := hob S f hJ (xs (Int32.toNatClampNeg (x4 + 1)))
  refine vx_calli (vx_runSX (As := [.ref xa, .int (xs (Int32.toNatClampNeg (x4 + 1))), .ref ao]) (rest := []) ⟨hx, hb, hml, hown, hU⟩ (cl_L_leaky l C ao f n S hw.wf _ xa (xs (Int32.toNatClampNeg (x4 + 1))) Tx mc ms hst _ hm) (vx_cwSW 3 hU (pq_gS tw1270 tw1271 tw0 tc_L_leaky) rfl rfl rfl cd_L_leaky ⟨Nat.le_of_ble_eq_true rfl, Nat.le_of_ble_eq_true rfl⟩) (pw_preS hw) rfl rfl hl.1 rfl (lv_room (Nat.le_of_ble_eq_true rfl)) dL_law__1981 ⟨by show _ ≤ room_1.cells; omega, by show _ ≤ room_1.slots; omega⟩) hw.S (fun q _ h => pw_free hw q h) (pw_free hw) (fun q _ h => pw_free hw q h) (fun Es ce q9 u t H1 locs1 ht hvm hpx hB hz1 hk1 hS hce hcv hcl => hpx.elim) (fun k u t H1 locs1 ht hvm hq hB hz1 hk1 hS => ?_)
  obtain ⟨f1, S1⟩ := u
  obtain ⟨hK, hF1, hEx⟩ := hq
  dsimp only at hK hF1 hEx hB
  have hw : PW C (XL C ao f1) S1 (lw_A s) H1 locs1 s := pw_lpost hw ht hvm hF1 hB hS
  obtain ⟨b9, S2, hm2, hth, han, hJ2⟩ := hK
  have Tx : TY S1 xa 11 := ty_ext hEx Tx
  have Tm : TY S1 ma 12 := ty_ext hEx Tm
  refine lv_istore (lv' := [(5, .int k), (0, .ref b), (1, .ref xa), (2, .ref ma), (3, .ref ao), (4, .int x4)]) hx hb dL_law__1984 hl (by decide) rfl (fun ls hl => ?_)
  refine lv_aload_n hx hb dL_law__1986 rfl (lv_at hl 3 rfl) ?_
  refine lv_aload_n hx hb dL_law__1987 rfl (lv_at hl 1 rfl) ?_
  refine lv_iload hx hb dL_law__1988 (lv_at hl 5 rfl) ?_
  refine lv_iconst (v := 1) hx hb dL_law__1990 (by decide) ?_
  refine lv_iadd hx hb dL_law__1991 ?_
  refine va_sld hx hb hX hbl hbA hw.S hi1 dL_law__1992 ?_
  refine pw_ci (va_runV (As := [.int (xs (Int32.toNatClampNeg (x4 + 1)))]) (rest := []) ⟨hx, hb, hml, hown, hU⟩ (c_X12_leaky l C (XL C ao f1) n S1 hw.wf _ ma (xs (Int32.toNatClampNeg (x4 + 1))) Tm b9 S2 hm2) (cwV 1 hU (pq_gV tw2029 tw2030 tw2031 tw14 tc_X12_leaky) rfl rfl rfl cd_X12_leaky ⟨Nat.le_of_ble_eq_true rfl, Nat.le_of_ble_eq_true rfl⟩) (pw_preV hw Tm (by decide) rfl) rfl rfl hl.1 rfl (lv_room (Nat.le_of_ble_eq_true rfl)) dL_law__1993 ⟨by show _ ≤ room_1.cells; omega, by show _ ≤ room_1.slots; omega⟩) hw (fun H locs hw hx2 => ?_)
  have Tm : TY S2 ma 12 := ty_ext hx2 Tm
  refine lv_istore (lv' := [(6, .int b9), (5, .int k), (0, .ref b), (1, .ref xa), (2, .ref ma), (3, .ref ao), (4, .int x4)]) hx hb dL_law__1996 hl (by decide) rfl (fun ls hl => ?_)
  refine lv_aload_n hx hb dL_law__1998 rfl (lv_at hl 4 rfl) ?_
  refine pw_ci (va_runV (As := []) (rest := []) ⟨hx, hb, hml, hown, hU⟩ (c_X12_thrown l C (XL C ao f1) n S2 hw.wf _ ma Tm (pI S2 1200 ma) S2 rfl) (cwV 0 hU (pq_gV tw1449 tw1450 tw1451 tw14 tc_X12_thrown) rfl rfl rfl cd_X12_thrown ⟨Nat.le_of_ble_eq_true rfl, Nat.le_of_ble_eq_true rfl⟩) (pw_preV hw Tm (by decide) rfl) rfl rfl hl.1 rfl (lv_room (Nat.le_of_ble_eq_true rfl)) dL_law__1999 ⟨by show _ ≤ room_1.cells; omega, by show _ ≤ room_1.slots; omega⟩) hw (fun H locs hw hx3 => ?_)
  refine lv_iload hx hb dL_law__2002 (lv_at hl 1 rfl) ?_
  refine lv_icmp_eq (tgt := 2009) hx hb dL_law__2004 (by decide) (fun _ => ?_) (fun h9 => absurd hth h9)
  refine lv_iload hx hb dL_law__2009 (lv_at hl 1 rfl) ?_
  refine lv_if_ne (tgt := 2026) hx hb dL_law__2011 (by decide) (fun _ => ?_) (fun h9 => ?_)
  · refine lv_goto (tgt := 3019) hx hb dL_law__2026 (by decide) ?_
    exact W.widen (by omega) (by omega) (hk S2 f1 _ _ ls hJ2 hw (lv_sub hl [2, 3, 4, 5, 6] rfl))
  · refine lv_aload_n hx hb dL_law__2014 rfl (lv_at hl 5 rfl) ?_
    refine lv_iconst (v := 0) hx hb dL_law__2015 (by decide) ?_
    refine pw_lald hx hb hw dL_law__2016 ?_
    refine lv_iload hx hb dL_law__2017 (lv_at hl 0 rfl) ?_
    refine lv_i2l (v := Int32.toInt64 b9) hx hb dL_law__2019 rfl ?_
    refine W.lcmp hx hb dL_law__2020 ?_
    refine lv_if_eq (tgt := 2026) hx hb dL_law__2021 (by decide) (fun _ => ?_) (fun h7 => absurd (lw_cmp0 (han h9)) h7)
    refine lv_goto (tgt := 3019) hx hb dL_law__2026 (by decide) ?_
    exact W.widen (by omega) (by omega) (hk S2 f1 _ _ ls hJ2 hw (lv_sub hl [2, 3, 4, 5, 6] rfl))
set_option maxHeartbeats 4000000 in
set_option maxRecDepth 100000 in
theorem lc_26 {p : Program} {l : Launch} {e : Env} {s : State} {m : MethodId} {below : List Frame} {meth : Method} {c : Code} {b L : Nat} {xs : Nat → Int32} (C0 : lw_At p s m meth c b L xs) (hst : l.stackTraces = false) (C : pq_C) (n xa ma ao : Nat) (J : pq_S → Prop) (hTY : ∀ S, J S → TY S xa 11 ∧ TY S ma 12) (hob : OB_26 n xa ma J) (x4 : Int32) (hi1 : vp_in (x4 + 1) L) (hi2 : vp_in (x4 + 2) L) (S : pq_S) (f : Nat → Int64) (H : Heap) (locs : List Loc) (ls : Array Slot) (cells slots : Nat) (hJ : J S) (hcc : cells + 200 ≤ room_1.cells) (hss : slots + 8000 ≤ room_1.slots) (hw : PW C (XL C ao f) S (lw_A s) H locs s) (hl : lv_has ls 8 [(0, .ref b), (1, .ref xa), (2, .ref ma), (3, .ref ao), (4, .int x4)]) (hk : ∀ (S2 : pq_S) (f2 : Nat → Int64) (H2 : Heap) (locs2 : List Loc) (ls2 : Array Slot), J S2 → PW C (XL C ao f2) S2 (lw_A s) H2 locs2 s → lv_has ls2 8 [(0, .ref b), (1, .ref xa), (2, .ref ma), (3, .ref ao), (4, .int x4)] → W p l e room_1 s m #[Value.ref b] below meth c H2 locs2 (cells + 200) (slots + 8000) (lw_Z below #[Value.ref b] s) (F0 m 3019 ls2 [])) : W p l e room_1 s m #[Value.ref b] below meth c H locs cells slots (lw_Z below #[Value.ref b] s) (F0 m 2029 ls []) := by
  obtain ⟨hx, hb, hr, hml, hown, hts, hX, hbl, hlocks, hgv⟩ := id C0
  have hb : c.code = cL_law_ := hb
  have hown : s.vm.findClass RL = some m.cls := hown
  have hbA : ¬ lw_A s b := Nat.not_le.mpr hbl
  have hU : ∀ w ∈ pq_U, w.before _ s = true := fun w h => hts w (List.mem_filter.mp h).1
  obtain ⟨Tx, Tm⟩ := hTY S hJ
  refine lv_aload_n hx hb dL_law__2029 rfl (lv_at hl 1 rfl) ?_
  refine lv_aload_n hx hb dL_law__2030 rfl (lv_at hl 0 rfl) ?_
  refine lv_iload hx hb dL_law__2031 (lv_at hl 4 rfl) ?_
  refine lv_iconst (v := 1) hx hb dL_law__2033 (by decide) ?_
  refine lv_iadd hx hb dL_law__2034 ?_
  refine va_sld hx hb hX hbl hbA hw.S hi1 dL_law__2035 ?_
  refine lv_aload_n hx hb dL_law__2036 rfl (lv_at hl 0 rfl) ?_
  refine lv_iload hx hb dL_law__2037 (lv_at hl 4 rfl) ?_
  refine lv_iconst (v := 2) hx hb dL_law__2039 (by decide) ?_
  refine lv_iadd hx hb dL_law__2040 ?_
  refine va_sld hx hb hX hbl hbA hw.S hi2 dL_law__2041 ?_
  refine lv_aload_n hx hb dL_law__2042 rfl (lv_at hl 3 rfl) ?_
  obtain ⟨mc, ms, h1, h2, hm⟩ := hob S f hJ (xs (Int32.toNatClampNeg (x4 + 1))) (xs (Int32.toNatClampNeg (x4 + 2)))
  refine vx_calli (vx_runSX (As := [.ref xa, .int (xs (Int32.toNatClampNeg (x4 + 1))), .int (xs (Int32.toNatClampNeg (x4 + 2))), .ref ao]) (rest := []) ⟨hx, hb, hml, hown, hU⟩ (cl_L_misses l C ao f n S hw.wf _ xa (xs (Int32.toNatClampNeg (x4 + 1))) (xs (Int32.toNatClampNeg (x4 + 2))) Tx mc ms hst _ hm) (vx_cwSW 4 hU (pq_gS tw1300 tw1301 tw0 tc_L_misses) rfl rfl rfl cd_L_misses ⟨Nat.le_of_ble_eq_true rfl, Nat.le_of_ble_eq_true rfl⟩) (pw_preS hw) rfl rfl hl.1 rfl (lv_room (Nat.le_of_ble_eq_true rfl)) dL_law__2043 ⟨by show _ ≤ room_1.cells; omega, by show _ ≤ room_1.slots; omega⟩) hw.S (fun q _ h => pw_free hw q h) (pw_free hw) (fun q _ h => pw_free hw q h) (fun Es ce q9 u t H1 locs1 ht hvm hpx hB hz1 hk1 hS hce hcv hcl => hpx.elim) (fun k u t H1 locs1 ht hvm hq hB hz1 hk1 hS => ?_)
  obtain ⟨f1, S1⟩ := u
  obtain ⟨hK, hF1, hEx⟩ := hq
  dsimp only at hK hF1 hEx hB
  have hw : PW C (XL C ao f1) S1 (lw_A s) H1 locs1 s := pw_lpost hw ht hvm hF1 hB hS
  obtain ⟨b9, S2, hm2, hth, han, hJ2⟩ := hK
  have Tx : TY S1 xa 11 := ty_ext hEx Tx
  have Tm : TY S1 ma 12 := ty_ext hEx Tm
  refine lv_istore (lv' := [(5, .int k), (0, .ref b), (1, .ref xa), (2, .ref ma), (3, .ref ao), (4, .int x4)]) hx hb dL_law__2046 hl (by decide) rfl (fun ls hl => ?_)
  refine lv_aload_n hx hb dL_law__2048 rfl (lv_at hl 3 rfl) ?_
  refine lv_aload_n hx hb dL_law__2049 rfl (lv_at hl 1 rfl) ?_
  refine lv_iload hx hb dL_law__2050 (lv_at hl 5 rfl) ?_
  refine lv_iconst (v := 1) hx hb dL_law__2052 (by decide) ?_
  refine lv_iadd hx hb dL_law__2053 ?_
  refine va_sld hx hb hX hbl hbA hw.S hi1 dL_law__2054 ?_
  refine lv_aload_n hx hb dL_law__2055 rfl (lv_at hl 1 rfl) ?_
  refine lv_iload hx hb dL_law__2056 (lv_at hl 5 rfl) ?_
  refine lv_iconst (v := 2) hx hb dL_law__2058 (by decide) ?_
  refine lv_iadd hx hb dL_law__2059 ?_
  refine va_sld hx hb hX hbl hbA hw.S hi2 dL_law__2060 ?_
  refine pw_ci (va_runV (As := [.int (xs (Int32.toNatClampNeg (x4 + 1))), .int (xs (Int32.toNatClampNeg (x4 + 2)))]) (rest := []) ⟨hx, hb, hml, hown, hU⟩ (c_X12_misses l C (XL C ao f1) n S1 hw.wf _ ma (xs (Int32.toNatClampNeg (x4 + 1))) (xs (Int32.toNatClampNeg (x4 + 2))) Tm b9 S2 hm2) (cwV 2 hU (pq_gV tw2041 tw2042 tw2043 tw14 tc_X12_misses) rfl rfl rfl cd_X12_misses ⟨Nat.le_of_ble_eq_true rfl, Nat.le_of_ble_eq_true rfl⟩) (pw_preV hw Tm (by decide) rfl) rfl rfl hl.1 rfl (lv_room (Nat.le_of_ble_eq_true rfl)) dL_law__2061 ⟨by show _ ≤ room_1.cells; omega, by show _ ≤ room_1.slots; omega⟩) hw (fun H locs hw hx2 => ?_)
  have Tm : TY S2 ma 12 := ty_ext hx2 Tm
  refine lv_istore (lv' := [(6, .int b9), (5, .int k), (0, .ref b), (1, .ref xa), (2, .ref ma), (3, .ref ao), (4, .int x4)]) hx hb dL_law__2064 hl (by decide) rfl (fun ls hl => ?_)
  refine lv_aload_n hx hb dL_law__2066 rfl (lv_at hl 4 rfl) ?_
  refine pw_ci (va_runV (As := []) (rest := []) ⟨hx, hb, hml, hown, hU⟩ (c_X12_thrown l C (XL C ao f1) n S2 hw.wf _ ma Tm (pI S2 1200 ma) S2 rfl) (cwV 0 hU (pq_gV tw1449 tw1450 tw1451 tw14 tc_X12_thrown) rfl rfl rfl cd_X12_thrown ⟨Nat.le_of_ble_eq_true rfl, Nat.le_of_ble_eq_true rfl⟩) (pw_preV hw Tm (by decide) rfl) rfl rfl hl.1 rfl (lv_room (Nat.le_of_ble_eq_true rfl)) dL_law__2067 ⟨by show _ ≤ room_1.cells; omega, by show _ ≤ room_1.slots; omega⟩) hw (fun H locs hw hx3 => ?_)
  refine lv_iload hx hb dL_law__2070 (lv_at hl 1 rfl) ?_
  refine lv_icmp_eq (tgt := 2077) hx hb dL_law__2072 (by decide) (fun _ => ?_) (fun h9 => absurd hth h9)
  refine lv_iload hx hb dL_law__2077 (lv_at hl 1 rfl) ?_
  refine lv_if_ne (tgt := 2094) hx hb dL_law__2079 (by decide) (fun _ => ?_) (fun h9 => ?_)
  · refine lv_goto (tgt := 3019) hx hb dL_law__2094 (by decide) ?_
    exact W.widen (by omega) (by omega) (hk S2 f1 _ _ ls hJ2 hw (lv_sub hl [2, 3, 4, 5, 6] rfl))
  · refine lv_aload_n hx hb dL_law__2082 rfl (lv_at hl 5 rfl) ?_
    refine lv_iconst (v := 0) hx hb dL_law__2083 (by decide) ?_
    refine pw_lald hx hb hw dL_law__2084 ?_
    refine lv_iload hx hb dL_law__2085 (lv_at hl 0 rfl) ?_
    refine lv_i2l (v := Int32.toInt64 b9) hx hb dL_law__2087 rfl ?_
    refine W.lcmp hx hb dL_law__2088 ?_
    refine lv_if_eq (tgt := 2094) hx hb dL_law__2089 (by decide) (fun _ => ?_) (fun h7 => absurd (lw_cmp0 (han h9)) h7)
    refine lv_goto (tgt := 3019) hx hb dL_law__2094 (by decide) ?_
    exact W.widen (by omega) (by omega) (hk S2 f1 _ _ ls hJ2 hw (lv_sub hl [2, 3, 4, 5, 6] rfl))
set_option maxHeartbeats 4000000 in
set_option maxRecDepth 100000 in
theorem lc_27 {p : Program} {l : Launch} {e : Env} {s : State} {m : MethodId} {below : List Frame} {meth : Method} {c : Code} {b L : Nat} {xs : Nat → Int32} (C0 : lw_At p s m meth c b L xs) (hst : l.stackTraces = false) (C : pq_C) (n xa ma ao : Nat) (J : pq_S → Prop) (hTY : ∀ S, J S → TY S xa 11 ∧ TY S ma 12) (hob : OB_27 n xa ma J) (x4 : Int32) (hi1 : vp_in (x4 + 1) L) (hi2 : vp_in (x4 + 2) L) (hi3 : vp_in (x4 + 3) L) (hi4 : vp_in (x4 + 4) L) (S : pq_S) (f : Nat → Int64) (H : Heap) (locs : List Loc) (ls : Array Slot) (cells slots : Nat) (hJ : J S) (hcc : cells + 200 ≤ room_1.cells) (hss : slots + 8000 ≤ room_1.slots) (hw : PW C (XL C ao f) S (lw_A s) H locs s) (hl : lv_has ls 8 [(0, .ref b), (1, .ref xa), (2, .ref ma), (3, .ref ao), (4, .int x4)]) (hk : ∀ (S2 : pq_S) (f2 : Nat → Int64) (H2 : Heap) (locs2 : List Loc) (ls2 : Array Slot), J S2 → PW C (XL C ao f2) S2 (lw_A s) H2 locs2 s → lv_has ls2 8 [(0, .ref b), (1, .ref xa), (2, .ref ma), (3, .ref ao), (4, .int x4)] → W p l e room_1 s m #[Value.ref b] below meth c H2 locs2 (cells + 200) (slots + 8000) (lw_Z below #[Value.ref b] s) (F0 m 3019 ls2 [])) : W p l e room_1 s m #[Value.ref b] below meth c H locs cells slots (lw_Z below #[Value.ref b] s) (F0 m 2097 ls []) := by
  obtain ⟨hx, hb, hr, hml, hown, hts, hX, hbl, hlocks, hgv⟩ := id C0
  have hb : c.code = cL_law_ := hb
  have hown : s.vm.findClass RL = some m.cls := hown
  have hbA : ¬ lw_A s b := Nat.not_le.mpr hbl
  have hU : ∀ w ∈ pq_U, w.before _ s = true := fun w h => hts w (List.mem_filter.mp h).1
  obtain ⟨Tx, Tm⟩ := hTY S hJ
  refine lv_aload_n hx hb dL_law__2097 rfl (lv_at hl 1 rfl) ?_
  refine lv_aload_n hx hb dL_law__2098 rfl (lv_at hl 0 rfl) ?_
  refine lv_iload hx hb dL_law__2099 (lv_at hl 4 rfl) ?_
  refine lv_iconst (v := 1) hx hb dL_law__2101 (by decide) ?_
  refine lv_iadd hx hb dL_law__2102 ?_
  refine va_sld hx hb hX hbl hbA hw.S hi1 dL_law__2103 ?_
  refine lv_aload_n hx hb dL_law__2104 rfl (lv_at hl 0 rfl) ?_
  refine lv_iload hx hb dL_law__2105 (lv_at hl 4 rfl) ?_
  refine lv_iconst (v := 2) hx hb dL_law__2107 (by decide) ?_
  refine lv_iadd hx hb dL_law__2108 ?_
  refine va_sld hx hb hX hbl hbA hw.S hi2 dL_law__2109 ?_
  refine lv_aload_n hx hb dL_law__2110 rfl (lv_at hl 0 rfl) ?_
  refine lv_iload hx hb dL_law__2111 (lv_at hl 4 rfl) ?_
  refine lv_iconst (v := 3) hx hb dL_law__2113 (by decide) ?_
  refine lv_iadd hx hb dL_law__2114 ?_
  refine va_sld hx hb hX hbl hbA hw.S hi3 dL_law__2115 ?_
  refine lv_aload_n hx hb dL_law__2116 rfl (lv_at hl 0 rfl) ?_
  refine lv_iload hx hb dL_law__2117 (lv_at hl 4 rfl) ?_
  refine lv_iconst (v := 4) hx hb dL_law__2119 (by decide) ?_
  refine lv_iadd hx hb dL_law__2120 ?_
  refine va_sld hx hb hX hbl hbA hw.S hi4 dL_law__2121 ?_
  refine lv_aload_n hx hb dL_law__2122 rfl (lv_at hl 3 rfl) ?_
  obtain ⟨mc, ms, h1, h2, hm⟩ := hob S f hJ (xs (Int32.toNatClampNeg (x4 + 1))) (xs (Int32.toNatClampNeg (x4 + 2))) (xs (Int32.toNatClampNeg (x4 + 3))) (xs (Int32.toNatClampNeg (x4 + 4)))
  refine vx_calli (vx_runSX (As := [.ref xa, .int (xs (Int32.toNatClampNeg (x4 + 1))), .int (xs (Int32.toNatClampNeg (x4 + 2))), .int (xs (Int32.toNatClampNeg (x4 + 3))), .int (xs (Int32.toNatClampNeg (x4 + 4))), .ref ao]) (rest := []) ⟨hx, hb, hml, hown, hU⟩ (cl_L_seam l C ao f n S hw.wf _ xa (xs (Int32.toNatClampNeg (x4 + 1))) (xs (Int32.toNatClampNeg (x4 + 2))) (xs (Int32.toNatClampNeg (x4 + 3))) (xs (Int32.toNatClampNeg (x4 + 4))) Tx mc ms hst _ hm) (vx_cwSW 6 hU (pq_gS tw1308 tw1309 tw0 tc_L_seam) rfl rfl rfl cd_L_seam ⟨Nat.le_of_ble_eq_true rfl, Nat.le_of_ble_eq_true rfl⟩) (pw_preS hw) rfl rfl hl.1 rfl (lv_room (Nat.le_of_ble_eq_true rfl)) dL_law__2123 ⟨by show _ ≤ room_1.cells; omega, by show _ ≤ room_1.slots; omega⟩) hw.S (fun q _ h => pw_free hw q h) (pw_free hw) (fun q _ h => pw_free hw q h) (fun Es ce q9 u t H1 locs1 ht hvm hpx hB hz1 hk1 hS hce hcv hcl => hpx.elim) (fun k u t H1 locs1 ht hvm hq hB hz1 hk1 hS => ?_)
  obtain ⟨f1, S1⟩ := u
  obtain ⟨hK, hF1, hEx⟩ := hq
  dsimp only at hK hF1 hEx hB
  have hw : PW C (XL C ao f1) S1 (lw_A s) H1 locs1 s := pw_lpost hw ht hvm hF1 hB hS
  obtain ⟨b9, S2, hm2, hth, han, hJ2⟩ := hK
  have Tx : TY S1 xa 11 := ty_ext hEx Tx
  have Tm : TY S1 ma 12 := ty_ext hEx Tm
  refine lv_istore (lv' := [(5, .int k), (0, .ref b), (1, .ref xa), (2, .ref ma), (3, .ref ao), (4, .int x4)]) hx hb dL_law__2126 hl (by decide) rfl (fun ls hl => ?_)
  refine lv_aload_n hx hb dL_law__2128 rfl (lv_at hl 3 rfl) ?_
  refine lv_aload_n hx hb dL_law__2129 rfl (lv_at hl 1 rfl) ?_
  refine lv_iload hx hb dL_law__2130 (lv_at hl 5 rfl) ?_
  refine lv_iconst (v := 1) hx hb dL_law__2132 (by decide) ?_
  refine lv_iadd hx hb dL_law__2133 ?_
  refine va_sld hx hb hX hbl hbA hw.S hi1 dL_law__2134 ?_
  refine lv_aload_n hx hb dL_law__2135 rfl (lv_at hl 1 rfl) ?_
  refine lv_iload hx hb dL_law__2136 (lv_at hl 5 rfl) ?_
  refine lv_iconst (v := 2) hx hb dL_law__2138 (by decide) ?_
  refine lv_iadd hx hb dL_law__2139 ?_
  refine va_sld hx hb hX hbl hbA hw.S hi2 dL_law__2140 ?_
  refine lv_aload_n hx hb dL_law__2141 rfl (lv_at hl 1 rfl) ?_
  refine lv_iload hx hb dL_law__2142 (lv_at hl 5 rfl) ?_
  refine lv_iconst (v := 3) hx hb dL_law__2144 (by decide) ?_
  refine lv_iadd hx hb dL_law__2145 ?_
  refine va_sld hx hb hX hbl hbA hw.S hi3 dL_law__2146 ?_
  refine lv_aload_n hx hb dL_law__2147 rfl (lv_at hl 1 rfl) ?_
  refine lv_iload hx hb dL_law__2148 (lv_at hl 5 rfl) ?_
  refine lv_iconst (v := 4) hx hb dL_law__2150 (by decide) ?_
  refine lv_iadd hx hb dL_law__2151 ?_
  refine va_sld hx hb hX hbl hbA hw.S hi4 dL_law__2152 ?_
  refine pw_ci (va_runV (As := [.int (xs (Int32.toNatClampNeg (x4 + 1))), .int (xs (Int32.toNatClampNeg (x4 + 2))), .int (xs (Int32.toNatClampNeg (x4 + 3))), .int (xs (Int32.toNatClampNeg (x4 + 4)))]) (rest := []) ⟨hx, hb, hml, hown, hU⟩ (c_X12_seam l C (XL C ao f1) n S1 hw.wf _ ma (xs (Int32.toNatClampNeg (x4 + 1))) (xs (Int32.toNatClampNeg (x4 + 2))) (xs (Int32.toNatClampNeg (x4 + 3))) (xs (Int32.toNatClampNeg (x4 + 4))) Tm b9 S2 hm2) (cwV 4 hU (pq_gV tw2045 tw2046 tw2047 tw14 tc_X12_seam) rfl rfl rfl cd_X12_seam ⟨Nat.le_of_ble_eq_true rfl, Nat.le_of_ble_eq_true rfl⟩) (pw_preV hw Tm (by decide) rfl) rfl rfl hl.1 rfl (lv_room (Nat.le_of_ble_eq_true rfl)) dL_law__2153 ⟨by show _ ≤ room_1.cells; omega, by show _ ≤ room_1.slots; omega⟩) hw (fun H locs hw hx2 => ?_)
  have Tm : TY S2 ma 12 := ty_ext hx2 Tm
  refine lv_istore (lv' := [(6, .int b9), (5, .int k), (0, .ref b), (1, .ref xa), (2, .ref ma), (3, .ref ao), (4, .int x4)]) hx hb dL_law__2156 hl (by decide) rfl (fun ls hl => ?_)
  refine lv_aload_n hx hb dL_law__2158 rfl (lv_at hl 4 rfl) ?_
  refine pw_ci (va_runV (As := []) (rest := []) ⟨hx, hb, hml, hown, hU⟩ (c_X12_thrown l C (XL C ao f1) n S2 hw.wf _ ma Tm (pI S2 1200 ma) S2 rfl) (cwV 0 hU (pq_gV tw1449 tw1450 tw1451 tw14 tc_X12_thrown) rfl rfl rfl cd_X12_thrown ⟨Nat.le_of_ble_eq_true rfl, Nat.le_of_ble_eq_true rfl⟩) (pw_preV hw Tm (by decide) rfl) rfl rfl hl.1 rfl (lv_room (Nat.le_of_ble_eq_true rfl)) dL_law__2159 ⟨by show _ ≤ room_1.cells; omega, by show _ ≤ room_1.slots; omega⟩) hw (fun H locs hw hx3 => ?_)
  refine lv_iload hx hb dL_law__2162 (lv_at hl 1 rfl) ?_
  refine lv_icmp_eq (tgt := 2169) hx hb dL_law__2164 (by decide) (fun _ => ?_) (fun h9 => absurd hth h9)
  refine lv_iload hx hb dL_law__2169 (lv_at hl 1 rfl) ?_
  refine lv_if_ne (tgt := 2186) hx hb dL_law__2171 (by decide) (fun _ => ?_) (fun h9 => ?_)
  · refine lv_goto (tgt := 3019) hx hb dL_law__2186 (by decide) ?_
    exact W.widen (by omega) (by omega) (hk S2 f1 _ _ ls hJ2 hw (lv_sub hl [2, 3, 4, 5, 6] rfl))
  · refine lv_aload_n hx hb dL_law__2174 rfl (lv_at hl 5 rfl) ?_
    refine lv_iconst (v := 0) hx hb dL_law__2175 (by decide) ?_
    refine pw_lald hx hb hw dL_law__2176 ?_
    refine lv_iload hx hb dL_law__2177 (lv_at hl 0 rfl) ?_
    refine lv_i2l (v := Int32.toInt64 b9) hx hb dL_law__2179 rfl ?_
    refine W.lcmp hx hb dL_law__2180 ?_
    refine lv_if_eq (tgt := 2186) hx hb dL_law__2181 (by decide) (fun _ => ?_) (fun h7 => absurd (lw_cmp0 (han h9)) h7)
    refine lv_goto (tgt := 3019) hx hb dL_law__2186 (by decide) ?_
    exact W.widen (by omega) (by omega) (hk S2 f1 _ _ ls hJ2 hw (lv_sub hl [2, 3, 4, 5, 6] rfl))
set_option maxHeartbeats 4000000 in
set_option maxRecDepth 100000 in
theorem lc_28 {p : Program} {l : Launch} {e : Env} {s : State} {m : MethodId} {below : List Frame} {meth : Method} {c : Code} {b L : Nat} {xs : Nat → Int32} (C0 : lw_At p s m meth c b L xs) (hst : l.stackTraces = false) (C : pq_C) (n xa ma ao : Nat) (J : pq_S → Prop) (hTY : ∀ S, J S → TY S xa 11 ∧ TY S ma 12) (hob : OB_28 n xa ma J) (x4 : Int32) (hi1 : vp_in (x4 + 1) L) (hi2 : vp_in (x4 + 2) L) (hi3 : vp_in (x4 + 3) L) (S : pq_S) (f : Nat → Int64) (H : Heap) (locs : List Loc) (ls : Array Slot) (cells slots : Nat) (hJ : J S) (hcc : cells + 200 ≤ room_1.cells) (hss : slots + 8000 ≤ room_1.slots) (hw : PW C (XL C ao f) S (lw_A s) H locs s) (hl : lv_has ls 8 [(0, .ref b), (1, .ref xa), (2, .ref ma), (3, .ref ao), (4, .int x4)]) (hk : ∀ (S2 : pq_S) (f2 : Nat → Int64) (H2 : Heap) (locs2 : List Loc) (ls2 : Array Slot), J S2 → PW C (XL C ao f2) S2 (lw_A s) H2 locs2 s → lv_has ls2 8 [(0, .ref b), (1, .ref xa), (2, .ref ma), (3, .ref ao), (4, .int x4)] → W p l e room_1 s m #[Value.ref b] below meth c H2 locs2 (cells + 200) (slots + 8000) (lw_Z below #[Value.ref b] s) (F0 m 3019 ls2 [])) : W p l e room_1 s m #[Value.ref b] below meth c H locs cells slots (lw_Z below #[Value.ref b] s) (F0 m 2189 ls []) := by
  obtain ⟨hx, hb, hr, hml, hown, hts, hX, hbl, hlocks, hgv⟩ := id C0
  have hb : c.code = cL_law_ := hb
  have hown : s.vm.findClass RL = some m.cls := hown
  have hbA : ¬ lw_A s b := Nat.not_le.mpr hbl
  have hU : ∀ w ∈ pq_U, w.before _ s = true := fun w h => hts w (List.mem_filter.mp h).1
  obtain ⟨Tx, Tm⟩ := hTY S hJ
  refine lv_aload_n hx hb dL_law__2189 rfl (lv_at hl 1 rfl) ?_
  refine lv_aload_n hx hb dL_law__2190 rfl (lv_at hl 0 rfl) ?_
  refine lv_iload hx hb dL_law__2191 (lv_at hl 4 rfl) ?_
  refine lv_iconst (v := 1) hx hb dL_law__2193 (by decide) ?_
  refine lv_iadd hx hb dL_law__2194 ?_
  refine va_sld hx hb hX hbl hbA hw.S hi1 dL_law__2195 ?_
  refine lv_aload_n hx hb dL_law__2196 rfl (lv_at hl 0 rfl) ?_
  refine lv_iload hx hb dL_law__2197 (lv_at hl 4 rfl) ?_
  refine lv_iconst (v := 2) hx hb dL_law__2199 (by decide) ?_
  refine lv_iadd hx hb dL_law__2200 ?_
  refine va_sld hx hb hX hbl hbA hw.S hi2 dL_law__2201 ?_
  refine lv_aload_n hx hb dL_law__2202 rfl (lv_at hl 0 rfl) ?_
  refine lv_iload hx hb dL_law__2203 (lv_at hl 4 rfl) ?_
  refine lv_iconst (v := 3) hx hb dL_law__2205 (by decide) ?_
  refine lv_iadd hx hb dL_law__2206 ?_
  refine va_sld hx hb hX hbl hbA hw.S hi3 dL_law__2207 ?_
  refine lv_aload_n hx hb dL_law__2208 rfl (lv_at hl 3 rfl) ?_
  obtain ⟨mc, ms, h1, h2, hm⟩ := hob S f hJ (xs (Int32.toNatClampNeg (x4 + 1))) (xs (Int32.toNatClampNeg (x4 + 2))) (xs (Int32.toNatClampNeg (x4 + 3)))
  refine vx_calli (vx_runSX (As := [.ref xa, .int (xs (Int32.toNatClampNeg (x4 + 1))), .int (xs (Int32.toNatClampNeg (x4 + 2))), .int (xs (Int32.toNatClampNeg (x4 + 3))), .ref ao]) (rest := []) ⟨hx, hb, hml, hown, hU⟩ (cl_L_sellers l C ao f n S hw.wf _ xa (xs (Int32.toNatClampNeg (x4 + 1))) (xs (Int32.toNatClampNeg (x4 + 2))) (xs (Int32.toNatClampNeg (x4 + 3))) Tx mc ms hst _ hm) (vx_cwSW 5 hU (pq_gS tw1323 tw1324 tw0 tc_L_sellers) rfl rfl rfl cd_L_sellers ⟨Nat.le_of_ble_eq_true rfl, Nat.le_of_ble_eq_true rfl⟩) (pw_preS hw) rfl rfl hl.1 rfl (lv_room (Nat.le_of_ble_eq_true rfl)) dL_law__2209 ⟨by show _ ≤ room_1.cells; omega, by show _ ≤ room_1.slots; omega⟩) hw.S (fun q _ h => pw_free hw q h) (pw_free hw) (fun q _ h => pw_free hw q h) (fun Es ce q9 u t H1 locs1 ht hvm hpx hB hz1 hk1 hS hce hcv hcl => hpx.elim) (fun k u t H1 locs1 ht hvm hq hB hz1 hk1 hS => ?_)
  obtain ⟨f1, S1⟩ := u
  obtain ⟨hK, hF1, hEx⟩ := hq
  dsimp only at hK hF1 hEx hB
  have hw : PW C (XL C ao f1) S1 (lw_A s) H1 locs1 s := pw_lpost hw ht hvm hF1 hB hS
  obtain ⟨b9, S2, hm2, hth, han, hJ2⟩ := hK
  have Tx : TY S1 xa 11 := ty_ext hEx Tx
  have Tm : TY S1 ma 12 := ty_ext hEx Tm
  refine lv_istore (lv' := [(5, .int k), (0, .ref b), (1, .ref xa), (2, .ref ma), (3, .ref ao), (4, .int x4)]) hx hb dL_law__2212 hl (by decide) rfl (fun ls hl => ?_)
  refine lv_aload_n hx hb dL_law__2214 rfl (lv_at hl 3 rfl) ?_
  refine lv_aload_n hx hb dL_law__2215 rfl (lv_at hl 1 rfl) ?_
  refine lv_iload hx hb dL_law__2216 (lv_at hl 5 rfl) ?_
  refine lv_iconst (v := 1) hx hb dL_law__2218 (by decide) ?_
  refine lv_iadd hx hb dL_law__2219 ?_
  refine va_sld hx hb hX hbl hbA hw.S hi1 dL_law__2220 ?_
  refine lv_aload_n hx hb dL_law__2221 rfl (lv_at hl 1 rfl) ?_
  refine lv_iload hx hb dL_law__2222 (lv_at hl 5 rfl) ?_
  refine lv_iconst (v := 2) hx hb dL_law__2224 (by decide) ?_
  refine lv_iadd hx hb dL_law__2225 ?_
  refine va_sld hx hb hX hbl hbA hw.S hi2 dL_law__2226 ?_
  refine lv_aload_n hx hb dL_law__2227 rfl (lv_at hl 1 rfl) ?_
  refine lv_iload hx hb dL_law__2228 (lv_at hl 5 rfl) ?_
  refine lv_iconst (v := 3) hx hb dL_law__2230 (by decide) ?_
  refine lv_iadd hx hb dL_law__2231 ?_
  refine va_sld hx hb hX hbl hbA hw.S hi3 dL_law__2232 ?_
  refine pw_ci (va_runV (As := [.int (xs (Int32.toNatClampNeg (x4 + 1))), .int (xs (Int32.toNatClampNeg (x4 + 2))), .int (xs (Int32.toNatClampNeg (x4 + 3)))]) (rest := []) ⟨hx, hb, hml, hown, hU⟩ (c_X12_sellers l C (XL C ao f1) n S1 hw.wf _ ma (xs (Int32.toNatClampNeg (x4 + 1))) (xs (Int32.toNatClampNeg (x4 + 2))) (xs (Int32.toNatClampNeg (x4 + 3))) Tm b9 S2 hm2) (cwV 3 hU (pq_gV tw2054 tw2055 tw2056 tw14 tc_X12_sellers) rfl rfl rfl cd_X12_sellers ⟨Nat.le_of_ble_eq_true rfl, Nat.le_of_ble_eq_true rfl⟩) (pw_preV hw Tm (by decide) rfl) rfl rfl hl.1 rfl (lv_room (Nat.le_of_ble_eq_true rfl)) dL_law__2233 ⟨by show _ ≤ room_1.cells; omega, by show _ ≤ room_1.slots; omega⟩) hw (fun H locs hw hx2 => ?_)
  have Tm : TY S2 ma 12 := ty_ext hx2 Tm
  refine lv_istore (lv' := [(6, .int b9), (5, .int k), (0, .ref b), (1, .ref xa), (2, .ref ma), (3, .ref ao), (4, .int x4)]) hx hb dL_law__2236 hl (by decide) rfl (fun ls hl => ?_)
  refine lv_aload_n hx hb dL_law__2238 rfl (lv_at hl 4 rfl) ?_
  refine pw_ci (va_runV (As := []) (rest := []) ⟨hx, hb, hml, hown, hU⟩ (c_X12_thrown l C (XL C ao f1) n S2 hw.wf _ ma Tm (pI S2 1200 ma) S2 rfl) (cwV 0 hU (pq_gV tw1449 tw1450 tw1451 tw14 tc_X12_thrown) rfl rfl rfl cd_X12_thrown ⟨Nat.le_of_ble_eq_true rfl, Nat.le_of_ble_eq_true rfl⟩) (pw_preV hw Tm (by decide) rfl) rfl rfl hl.1 rfl (lv_room (Nat.le_of_ble_eq_true rfl)) dL_law__2239 ⟨by show _ ≤ room_1.cells; omega, by show _ ≤ room_1.slots; omega⟩) hw (fun H locs hw hx3 => ?_)
  refine lv_iload hx hb dL_law__2242 (lv_at hl 1 rfl) ?_
  refine lv_icmp_eq (tgt := 2249) hx hb dL_law__2244 (by decide) (fun _ => ?_) (fun h9 => absurd hth h9)
  refine lv_iload hx hb dL_law__2249 (lv_at hl 1 rfl) ?_
  refine lv_if_ne (tgt := 2266) hx hb dL_law__2251 (by decide) (fun _ => ?_) (fun h9 => ?_)
  · refine lv_goto (tgt := 3019) hx hb dL_law__2266 (by decide) ?_
    exact W.widen (by omega) (by omega) (hk S2 f1 _ _ ls hJ2 hw (lv_sub hl [2, 3, 4, 5, 6] rfl))
  · refine lv_aload_n hx hb dL_law__2254 rfl (lv_at hl 5 rfl) ?_
    refine lv_iconst (v := 0) hx hb dL_law__2255 (by decide) ?_
    refine pw_lald hx hb hw dL_law__2256 ?_
    refine lv_iload hx hb dL_law__2257 (lv_at hl 0 rfl) ?_
    refine lv_i2l (v := Int32.toInt64 b9) hx hb dL_law__2259 rfl ?_
    refine W.lcmp hx hb dL_law__2260 ?_
    refine lv_if_eq (tgt := 2266) hx hb dL_law__2261 (by decide) (fun _ => ?_) (fun h7 => absurd (lw_cmp0 (han h9)) h7)
    refine lv_goto (tgt := 3019) hx hb dL_law__2266 (by decide) ?_
    exact W.widen (by omega) (by omega) (hk S2 f1 _ _ ls hJ2 hw (lv_sub hl [2, 3, 4, 5, 6] rfl))
set_option maxHeartbeats 4000000 in
set_option maxRecDepth 100000 in
theorem lc_29 {p : Program} {l : Launch} {e : Env} {s : State} {m : MethodId} {below : List Frame} {meth : Method} {c : Code} {b L : Nat} {xs : Nat → Int32} (C0 : lw_At p s m meth c b L xs) (hst : l.stackTraces = false) (C : pq_C) (n xa ma ao : Nat) (J : pq_S → Prop) (hTY : ∀ S, J S → TY S xa 11 ∧ TY S ma 12) (hob : OB_29 n xa ma J) (x4 : Int32) (hi1 : vp_in (x4 + 1) L) (hi2 : vp_in (x4 + 2) L) (hi3 : vp_in (x4 + 3) L) (S : pq_S) (f : Nat → Int64) (H : Heap) (locs : List Loc) (ls : Array Slot) (cells slots : Nat) (hJ : J S) (hcc : cells + 200 ≤ room_1.cells) (hss : slots + 8000 ≤ room_1.slots) (hw : PW C (XL C ao f) S (lw_A s) H locs s) (hl : lv_has ls 8 [(0, .ref b), (1, .ref xa), (2, .ref ma), (3, .ref ao), (4, .int x4)]) (hk : ∀ (S2 : pq_S) (f2 : Nat → Int64) (H2 : Heap) (locs2 : List Loc) (ls2 : Array Slot), J S2 → PW C (XL C ao f2) S2 (lw_A s) H2 locs2 s → lv_has ls2 8 [(0, .ref b), (1, .ref xa), (2, .ref ma), (3, .ref ao), (4, .int x4)] → W p l e room_1 s m #[Value.ref b] below meth c H2 locs2 (cells + 200) (slots + 8000) (lw_Z below #[Value.ref b] s) (F0 m 3019 ls2 [])) : W p l e room_1 s m #[Value.ref b] below meth c H locs cells slots (lw_Z below #[Value.ref b] s) (F0 m 2269 ls []) := by
  obtain ⟨hx, hb, hr, hml, hown, hts, hX, hbl, hlocks, hgv⟩ := id C0
  have hb : c.code = cL_law_ := hb
  have hown : s.vm.findClass RL = some m.cls := hown
  have hbA : ¬ lw_A s b := Nat.not_le.mpr hbl
  have hU : ∀ w ∈ pq_U, w.before _ s = true := fun w h => hts w (List.mem_filter.mp h).1
  obtain ⟨Tx, Tm⟩ := hTY S hJ
  refine lv_aload_n hx hb dL_law__2269 rfl (lv_at hl 1 rfl) ?_
  refine lv_aload_n hx hb dL_law__2270 rfl (lv_at hl 0 rfl) ?_
  refine lv_iload hx hb dL_law__2271 (lv_at hl 4 rfl) ?_
  refine lv_iconst (v := 1) hx hb dL_law__2273 (by decide) ?_
  refine lv_iadd hx hb dL_law__2274 ?_
  refine va_sld hx hb hX hbl hbA hw.S hi1 dL_law__2275 ?_
  refine lv_aload_n hx hb dL_law__2276 rfl (lv_at hl 0 rfl) ?_
  refine lv_iload hx hb dL_law__2277 (lv_at hl 4 rfl) ?_
  refine lv_iconst (v := 2) hx hb dL_law__2279 (by decide) ?_
  refine lv_iadd hx hb dL_law__2280 ?_
  refine va_sld hx hb hX hbl hbA hw.S hi2 dL_law__2281 ?_
  refine lv_aload_n hx hb dL_law__2282 rfl (lv_at hl 0 rfl) ?_
  refine lv_iload hx hb dL_law__2283 (lv_at hl 4 rfl) ?_
  refine lv_iconst (v := 3) hx hb dL_law__2285 (by decide) ?_
  refine lv_iadd hx hb dL_law__2286 ?_
  refine va_sld hx hb hX hbl hbA hw.S hi3 dL_law__2287 ?_
  refine lv_aload_n hx hb dL_law__2288 rfl (lv_at hl 3 rfl) ?_
  obtain ⟨mc, ms, h1, h2, hm⟩ := hob S f hJ (xs (Int32.toNatClampNeg (x4 + 1))) (xs (Int32.toNatClampNeg (x4 + 2))) (xs (Int32.toNatClampNeg (x4 + 3)))
  refine vx_calli (vx_runSX (As := [.ref xa, .int (xs (Int32.toNatClampNeg (x4 + 1))), .int (xs (Int32.toNatClampNeg (x4 + 2))), .int (xs (Int32.toNatClampNeg (x4 + 3))), .ref ao]) (rest := []) ⟨hx, hb, hml, hown, hU⟩ (cl_L_gets l C ao f n S hw.wf _ xa (xs (Int32.toNatClampNeg (x4 + 1))) (xs (Int32.toNatClampNeg (x4 + 2))) (xs (Int32.toNatClampNeg (x4 + 3))) Tx mc ms hst _ hm) (vx_cwSW 5 hU (pq_gS tw1350 tw1351 tw0 tc_L_gets) rfl rfl rfl cd_L_gets ⟨Nat.le_of_ble_eq_true rfl, Nat.le_of_ble_eq_true rfl⟩) (pw_preS hw) rfl rfl hl.1 rfl (lv_room (Nat.le_of_ble_eq_true rfl)) dL_law__2289 ⟨by show _ ≤ room_1.cells; omega, by show _ ≤ room_1.slots; omega⟩) hw.S (fun q _ h => pw_free hw q h) (pw_free hw) (fun q _ h => pw_free hw q h) (fun Es ce q9 u t H1 locs1 ht hvm hpx hB hz1 hk1 hS hce hcv hcl => hpx.elim) (fun k u t H1 locs1 ht hvm hq hB hz1 hk1 hS => ?_)
  obtain ⟨f1, S1⟩ := u
  obtain ⟨hK, hF1, hEx⟩ := hq
  dsimp only at hK hF1 hEx hB
  have hw : PW C (XL C ao f1) S1 (lw_A s) H1 locs1 s := pw_lpost hw ht hvm hF1 hB hS
  obtain ⟨b9, S2, hm2, hth, han, hJ2⟩ := hK
  have Tx : TY S1 xa 11 := ty_ext hEx Tx
  have Tm : TY S1 ma 12 := ty_ext hEx Tm
  refine lv_istore (lv' := [(5, .int k), (0, .ref b), (1, .ref xa), (2, .ref ma), (3, .ref ao), (4, .int x4)]) hx hb dL_law__2292 hl (by decide) rfl (fun ls hl => ?_)
  refine lv_aload_n hx hb dL_law__2294 rfl (lv_at hl 3 rfl) ?_
  refine lv_aload_n hx hb dL_law__2295 rfl (lv_at hl 1 rfl) ?_
  refine lv_iload hx hb dL_law__2296 (lv_at hl 5 rfl) ?_
  refine lv_iconst (v := 1) hx hb dL_law__2298 (by decide) ?_
  refine lv_iadd hx hb dL_law__2299 ?_
  refine va_sld hx hb hX hbl hbA hw.S hi1 dL_law__2300 ?_
  refine lv_aload_n hx hb dL_law__2301 rfl (lv_at hl 1 rfl) ?_
  refine lv_iload hx hb dL_law__2302 (lv_at hl 5 rfl) ?_
  refine lv_iconst (v := 2) hx hb dL_law__2304 (by decide) ?_
  refine lv_iadd hx hb dL_law__2305 ?_
  refine va_sld hx hb hX hbl hbA hw.S hi2 dL_law__2306 ?_
  refine lv_aload_n hx hb dL_law__2307 rfl (lv_at hl 1 rfl) ?_
  refine lv_iload hx hb dL_law__2308 (lv_at hl 5 rfl) ?_
  refine lv_iconst (v := 3) hx hb dL_law__2310 (by decide) ?_
  refine lv_iadd hx hb dL_law__2311 ?_
  refine va_sld hx hb hX hbl hbA hw.S hi3 dL_law__2312 ?_
  refine pw_ci (va_runV (As := [.int (xs (Int32.toNatClampNeg (x4 + 1))), .int (xs (Int32.toNatClampNeg (x4 + 2))), .int (xs (Int32.toNatClampNeg (x4 + 3)))]) (rest := []) ⟨hx, hb, hml, hown, hU⟩ (c_X12_gets l C (XL C ao f1) n S1 hw.wf _ ma (xs (Int32.toNatClampNeg (x4 + 1))) (xs (Int32.toNatClampNeg (x4 + 2))) (xs (Int32.toNatClampNeg (x4 + 3))) Tm b9 S2 hm2) (cwV 3 hU (pq_gV tw2066 tw2067 tw2068 tw14 tc_X12_gets) rfl rfl rfl cd_X12_gets ⟨Nat.le_of_ble_eq_true rfl, Nat.le_of_ble_eq_true rfl⟩) (pw_preV hw Tm (by decide) rfl) rfl rfl hl.1 rfl (lv_room (Nat.le_of_ble_eq_true rfl)) dL_law__2313 ⟨by show _ ≤ room_1.cells; omega, by show _ ≤ room_1.slots; omega⟩) hw (fun H locs hw hx2 => ?_)
  have Tm : TY S2 ma 12 := ty_ext hx2 Tm
  refine lv_istore (lv' := [(6, .int b9), (5, .int k), (0, .ref b), (1, .ref xa), (2, .ref ma), (3, .ref ao), (4, .int x4)]) hx hb dL_law__2316 hl (by decide) rfl (fun ls hl => ?_)
  refine lv_aload_n hx hb dL_law__2318 rfl (lv_at hl 4 rfl) ?_
  refine pw_ci (va_runV (As := []) (rest := []) ⟨hx, hb, hml, hown, hU⟩ (c_X12_thrown l C (XL C ao f1) n S2 hw.wf _ ma Tm (pI S2 1200 ma) S2 rfl) (cwV 0 hU (pq_gV tw1449 tw1450 tw1451 tw14 tc_X12_thrown) rfl rfl rfl cd_X12_thrown ⟨Nat.le_of_ble_eq_true rfl, Nat.le_of_ble_eq_true rfl⟩) (pw_preV hw Tm (by decide) rfl) rfl rfl hl.1 rfl (lv_room (Nat.le_of_ble_eq_true rfl)) dL_law__2319 ⟨by show _ ≤ room_1.cells; omega, by show _ ≤ room_1.slots; omega⟩) hw (fun H locs hw hx3 => ?_)
  refine lv_iload hx hb dL_law__2322 (lv_at hl 1 rfl) ?_
  refine lv_icmp_eq (tgt := 2329) hx hb dL_law__2324 (by decide) (fun _ => ?_) (fun h9 => absurd hth h9)
  refine lv_iload hx hb dL_law__2329 (lv_at hl 1 rfl) ?_
  refine lv_if_ne (tgt := 2346) hx hb dL_law__2331 (by decide) (fun _ => ?_) (fun h9 => ?_)
  · refine lv_goto (tgt := 3019) hx hb dL_law__2346 (by decide) ?_
    exact W.widen (by omega) (by omega) (hk S2 f1 _ _ ls hJ2 hw (lv_sub hl [2, 3, 4, 5, 6] rfl))
  · refine lv_aload_n hx hb dL_law__2334 rfl (lv_at hl 5 rfl) ?_
    refine lv_iconst (v := 0) hx hb dL_law__2335 (by decide) ?_
    refine pw_lald hx hb hw dL_law__2336 ?_
    refine lv_iload hx hb dL_law__2337 (lv_at hl 0 rfl) ?_
    refine lv_i2l (v := Int32.toInt64 b9) hx hb dL_law__2339 rfl ?_
    refine W.lcmp hx hb dL_law__2340 ?_
    refine lv_if_eq (tgt := 2346) hx hb dL_law__2341 (by decide) (fun _ => ?_) (fun h7 => absurd (lw_cmp0 (han h9)) h7)
    refine lv_goto (tgt := 3019) hx hb dL_law__2346 (by decide) ?_
    exact W.widen (by omega) (by omega) (hk S2 f1 _ _ ls hJ2 hw (lv_sub hl [2, 3, 4, 5, 6] rfl))
set_option maxHeartbeats 4000000 in
set_option maxRecDepth 100000 in
theorem lc_30 {p : Program} {l : Launch} {e : Env} {s : State} {m : MethodId} {below : List Frame} {meth : Method} {c : Code} {b L : Nat} {xs : Nat → Int32} (C0 : lw_At p s m meth c b L xs) (hst : l.stackTraces = false) (C : pq_C) (n xa ma ao : Nat) (J : pq_S → Prop) (hTY : ∀ S, J S → TY S xa 11 ∧ TY S ma 12) (hob : OB_30 n xa ma J) (x4 : Int32) (hi1 : vp_in (x4 + 1) L) (S : pq_S) (f : Nat → Int64) (H : Heap) (locs : List Loc) (ls : Array Slot) (cells slots : Nat) (hJ : J S) (hcc : cells + 200 ≤ room_1.cells) (hss : slots + 8000 ≤ room_1.slots) (hw : PW C (XL C ao f) S (lw_A s) H locs s) (hl : lv_has ls 8 [(0, .ref b), (1, .ref xa), (2, .ref ma), (3, .ref ao), (4, .int x4)]) (hk : ∀ (S2 : pq_S) (f2 : Nat → Int64) (H2 : Heap) (locs2 : List Loc) (ls2 : Array Slot), J S2 → PW C (XL C ao f2) S2 (lw_A s) H2 locs2 s → lv_has ls2 8 [(0, .ref b), (1, .ref xa), (2, .ref ma), (3, .ref ao), (4, .int x4)] → W p l e room_1 s m #[Value.ref b] below meth c H2 locs2 (cells + 200) (slots + 8000) (lw_Z below #[Value.ref b] s) (F0 m 3019 ls2 [])) : W p l e room_1 s m #[Value.ref b] below meth c H locs cells slots (lw_Z below #[Value.ref b] s) (F0 m 2349 ls []) := by
  obtain ⟨hx, hb, hr, hml, hown, hts, hX, hbl, hlocks, hgv⟩ := id C0
  have hb : c.code = cL_law_ := hb
  have hown : s.vm.findClass RL = some m.cls := hown
  have hbA : ¬ lw_A s b := Nat.not_le.mpr hbl
  have hU : ∀ w ∈ pq_U, w.before _ s = true := fun w h => hts w (List.mem_filter.mp h).1
  obtain ⟨Tx, Tm⟩ := hTY S hJ
  refine lv_aload_n hx hb dL_law__2349 rfl (lv_at hl 1 rfl) ?_
  refine lv_aload_n hx hb dL_law__2350 rfl (lv_at hl 0 rfl) ?_
  refine lv_iload hx hb dL_law__2351 (lv_at hl 4 rfl) ?_
  refine lv_iconst (v := 1) hx hb dL_law__2353 (by decide) ?_
  refine lv_iadd hx hb dL_law__2354 ?_
  refine va_sld hx hb hX hbl hbA hw.S hi1 dL_law__2355 ?_
  refine lv_aload_n hx hb dL_law__2356 rfl (lv_at hl 3 rfl) ?_
  obtain ⟨mc, ms, h1, h2, hm⟩ := hob S f hJ (xs (Int32.toNatClampNeg (x4 + 1)))
  refine vx_calli (vx_runSX (As := [.ref xa, .int (xs (Int32.toNatClampNeg (x4 + 1))), .ref ao]) (rest := []) ⟨hx, hb, hml, hown, hU⟩ (cl_L_moons l C ao f n S hw.wf _ xa (xs (Int32.toNatClampNeg (x4 + 1))) Tx mc ms hst _ hm) (vx_cwSW 3 hU (pq_gS tw1358 tw1359 tw0 tc_L_moons) rfl rfl rfl cd_L_moons ⟨Nat.le_of_ble_eq_true rfl, Nat.le_of_ble_eq_true rfl⟩) (pw_preS hw) rfl rfl hl.1 rfl (lv_room (Nat.le_of_ble_eq_true rfl)) dL_law__2357 ⟨by show _ ≤ room_1.cells; omega, by show _ ≤ room_1.slots; omega⟩) hw.S (fun q _ h => pw_free hw q h) (pw_free hw) (fun q _ h => pw_free hw q h) (fun Es ce q9 u t H1 locs1 ht hvm hpx hB hz1 hk1 hS hce hcv hcl => hpx.elim) (fun k u t H1 locs1 ht hvm hq hB hz1 hk1 hS => ?_)
  obtain ⟨f1, S1⟩ := u
  obtain ⟨hK, hF1, hEx⟩ := hq
  dsimp only at hK hF1 hEx hB
  have hw : PW C (XL C ao f1) S1 (lw_A s) H1 locs1 s := pw_lpost hw ht hvm hF1 hB hS
  obtain ⟨b9, S2, hm2, hth, han, hJ2⟩ := hK
  have Tx : TY S1 xa 11 := ty_ext hEx Tx
  have Tm : TY S1 ma 12 := ty_ext hEx Tm
  refine lv_istore (lv' := [(5, .int k), (0, .ref b), (1, .ref xa), (2, .ref ma), (3, .ref ao), (4, .int x4)]) hx hb dL_law__2360 hl (by decide) rfl (fun ls hl => ?_)
  refine lv_aload_n hx hb dL_law__2362 rfl (lv_at hl 3 rfl) ?_
  refine lv_aload_n hx hb dL_law__2363 rfl (lv_at hl 1 rfl) ?_
  refine lv_iload hx hb dL_law__2364 (lv_at hl 5 rfl) ?_
  refine lv_iconst (v := 1) hx hb dL_law__2366 (by decide) ?_
  refine lv_iadd hx hb dL_law__2367 ?_
  refine va_sld hx hb hX hbl hbA hw.S hi1 dL_law__2368 ?_
  refine pw_ci (va_runV (As := [.int (xs (Int32.toNatClampNeg (x4 + 1)))]) (rest := []) ⟨hx, hb, hml, hown, hU⟩ (c_X12_moons l C (XL C ao f1) n S1 hw.wf _ ma (xs (Int32.toNatClampNeg (x4 + 1))) Tm b9 S2 hm2) (cwV 1 hU (pq_gV tw2070 tw2071 tw2072 tw14 tc_X12_moons) rfl rfl rfl cd_X12_moons ⟨Nat.le_of_ble_eq_true rfl, Nat.le_of_ble_eq_true rfl⟩) (pw_preV hw Tm (by decide) rfl) rfl rfl hl.1 rfl (lv_room (Nat.le_of_ble_eq_true rfl)) dL_law__2369 ⟨by show _ ≤ room_1.cells; omega, by show _ ≤ room_1.slots; omega⟩) hw (fun H locs hw hx2 => ?_)
  have Tm : TY S2 ma 12 := ty_ext hx2 Tm
  refine lv_istore (lv' := [(6, .int b9), (5, .int k), (0, .ref b), (1, .ref xa), (2, .ref ma), (3, .ref ao), (4, .int x4)]) hx hb dL_law__2372 hl (by decide) rfl (fun ls hl => ?_)
  refine lv_aload_n hx hb dL_law__2374 rfl (lv_at hl 4 rfl) ?_
  refine pw_ci (va_runV (As := []) (rest := []) ⟨hx, hb, hml, hown, hU⟩ (c_X12_thrown l C (XL C ao f1) n S2 hw.wf _ ma Tm (pI S2 1200 ma) S2 rfl) (cwV 0 hU (pq_gV tw1449 tw1450 tw1451 tw14 tc_X12_thrown) rfl rfl rfl cd_X12_thrown ⟨Nat.le_of_ble_eq_true rfl, Nat.le_of_ble_eq_true rfl⟩) (pw_preV hw Tm (by decide) rfl) rfl rfl hl.1 rfl (lv_room (Nat.le_of_ble_eq_true rfl)) dL_law__2375 ⟨by show _ ≤ room_1.cells; omega, by show _ ≤ room_1.slots; omega⟩) hw (fun H locs hw hx3 => ?_)
  refine lv_iload hx hb dL_law__2378 (lv_at hl 1 rfl) ?_
  refine lv_icmp_eq (tgt := 2385) hx hb dL_law__2380 (by decide) (fun _ => ?_) (fun h9 => absurd hth h9)
  refine lv_iload hx hb dL_law__2385 (lv_at hl 1 rfl) ?_
  refine lv_if_ne (tgt := 2402) hx hb dL_law__2387 (by decide) (fun _ => ?_) (fun h9 => ?_)
  · refine lv_goto (tgt := 3019) hx hb dL_law__2402 (by decide) ?_
    exact W.widen (by omega) (by omega) (hk S2 f1 _ _ ls hJ2 hw (lv_sub hl [2, 3, 4, 5, 6] rfl))
  · refine lv_aload_n hx hb dL_law__2390 rfl (lv_at hl 5 rfl) ?_
    refine lv_iconst (v := 0) hx hb dL_law__2391 (by decide) ?_
    refine pw_lald hx hb hw dL_law__2392 ?_
    refine lv_iload hx hb dL_law__2393 (lv_at hl 0 rfl) ?_
    refine lv_i2l (v := Int32.toInt64 b9) hx hb dL_law__2395 rfl ?_
    refine W.lcmp hx hb dL_law__2396 ?_
    refine lv_if_eq (tgt := 2402) hx hb dL_law__2397 (by decide) (fun _ => ?_) (fun h7 => absurd (lw_cmp0 (han h9)) h7)
    refine lv_goto (tgt := 3019) hx hb dL_law__2402 (by decide) ?_
    exact W.widen (by omega) (by omega) (hk S2 f1 _ _ ls hJ2 hw (lv_sub hl [2, 3, 4, 5, 6] rfl))
set_option maxHeartbeats 4000000 in
set_option maxRecDepth 100000 in
theorem lc_31 {p : Program} {l : Launch} {e : Env} {s : State} {m : MethodId} {below : List Frame} {meth : Method} {c : Code} {b L : Nat} {xs : Nat → Int32} (C0 : lw_At p s m meth c b L xs) (hst : l.stackTraces = false) (C : pq_C) (n xa ma ao : Nat) (J : pq_S → Prop) (hTY : ∀ S, J S → TY S xa 11 ∧ TY S ma 12) (hob : OB_31 n xa ma J) (x4 : Int32) (hi1 : vp_in (x4 + 1) L) (S : pq_S) (f : Nat → Int64) (H : Heap) (locs : List Loc) (ls : Array Slot) (cells slots : Nat) (hJ : J S) (hcc : cells + 200 ≤ room_1.cells) (hss : slots + 8000 ≤ room_1.slots) (hw : PW C (XL C ao f) S (lw_A s) H locs s) (hl : lv_has ls 8 [(0, .ref b), (1, .ref xa), (2, .ref ma), (3, .ref ao), (4, .int x4)]) (hk : ∀ (S2 : pq_S) (f2 : Nat → Int64) (H2 : Heap) (locs2 : List Loc) (ls2 : Array Slot), J S2 → PW C (XL C ao f2) S2 (lw_A s) H2 locs2 s → lv_has ls2 8 [(0, .ref b), (1, .ref xa), (2, .ref ma), (3, .ref ao), (4, .int x4)] → W p l e room_1 s m #[Value.ref b] below meth c H2 locs2 (cells + 200) (slots + 8000) (lw_Z below #[Value.ref b] s) (F0 m 3019 ls2 [])) : W p l e room_1 s m #[Value.ref b] below meth c H locs cells slots (lw_Z below #[Value.ref b] s) (F0 m 2405 ls []) := by
  obtain ⟨hx, hb, hr, hml, hown, hts, hX, hbl, hlocks, hgv⟩ := id C0
  have hb : c.code = cL_law_ := hb
  have hown : s.vm.findClass RL = some m.cls := hown
  have hbA : ¬ lw_A s b := Nat.not_le.mpr hbl
  have hU : ∀ w ∈ pq_U, w.before _ s = true := fun w h => hts w (List.mem_filter.mp h).1
  obtain ⟨Tx, Tm⟩ := hTY S hJ
  refine lv_aload_n hx hb dL_law__2405 rfl (lv_at hl 1 rfl) ?_
  refine lv_aload_n hx hb dL_law__2406 rfl (lv_at hl 0 rfl) ?_
  refine lv_iload hx hb dL_law__2407 (lv_at hl 4 rfl) ?_
  refine lv_iconst (v := 1) hx hb dL_law__2409 (by decide) ?_
  refine lv_iadd hx hb dL_law__2410 ?_
  refine va_sld hx hb hX hbl hbA hw.S hi1 dL_law__2411 ?_
  refine lv_aload_n hx hb dL_law__2412 rfl (lv_at hl 3 rfl) ?_
  obtain ⟨mc, ms, h1, h2, hm⟩ := hob S f hJ (xs (Int32.toNatClampNeg (x4 + 1)))
  refine vx_calli (vx_runSX (As := [.ref xa, .int (xs (Int32.toNatClampNeg (x4 + 1))), .ref ao]) (rest := []) ⟨hx, hb, hml, hown, hU⟩ (cl_L_dark l C ao f n S hw.wf _ xa (xs (Int32.toNatClampNeg (x4 + 1))) Tx mc ms hst _ hm) (vx_cwSW 3 hU (pq_gS tw1372 tw1373 tw0 tc_L_dark) rfl rfl rfl cd_L_dark ⟨Nat.le_of_ble_eq_true rfl, Nat.le_of_ble_eq_true rfl⟩) (pw_preS hw) rfl rfl hl.1 rfl (lv_room (Nat.le_of_ble_eq_true rfl)) dL_law__2413 ⟨by show _ ≤ room_1.cells; omega, by show _ ≤ room_1.slots; omega⟩) hw.S (fun q _ h => pw_free hw q h) (pw_free hw) (fun q _ h => pw_free hw q h) (fun Es ce q9 u t H1 locs1 ht hvm hpx hB hz1 hk1 hS hce hcv hcl => hpx.elim) (fun k u t H1 locs1 ht hvm hq hB hz1 hk1 hS => ?_)
  obtain ⟨f1, S1⟩ := u
  obtain ⟨hK, hF1, hEx⟩ := hq
  dsimp only at hK hF1 hEx hB
  have hw : PW C (XL C ao f1) S1 (lw_A s) H1 locs1 s := pw_lpost hw ht hvm hF1 hB hS
  obtain ⟨b9, S2, hm2, hth, han, hJ2⟩ := hK
  have Tx : TY S1 xa 11 := ty_ext hEx Tx
  have Tm : TY S1 ma 12 := ty_ext hEx Tm
  refine lv_istore (lv' := [(5, .int k), (0, .ref b), (1, .ref xa), (2, .ref ma), (3, .ref ao), (4, .int x4)]) hx hb dL_law__2416 hl (by decide) rfl (fun ls hl => ?_)
  refine lv_aload_n hx hb dL_law__2418 rfl (lv_at hl 3 rfl) ?_
  refine lv_aload_n hx hb dL_law__2419 rfl (lv_at hl 1 rfl) ?_
  refine lv_iload hx hb dL_law__2420 (lv_at hl 5 rfl) ?_
  refine lv_iconst (v := 1) hx hb dL_law__2422 (by decide) ?_
  refine lv_iadd hx hb dL_law__2423 ?_
  refine va_sld hx hb hX hbl hbA hw.S hi1 dL_law__2424 ?_
  refine pw_ci (va_runV (As := [.int (xs (Int32.toNatClampNeg (x4 + 1)))]) (rest := []) ⟨hx, hb, hml, hown, hU⟩ (c_X12_dark l C (XL C ao f1) n S1 hw.wf _ ma (xs (Int32.toNatClampNeg (x4 + 1))) Tm b9 S2 hm2) (cwV 1 hU (pq_gV tw2081 tw2082 tw2083 tw14 tc_X12_dark) rfl rfl rfl cd_X12_dark ⟨Nat.le_of_ble_eq_true rfl, Nat.le_of_ble_eq_true rfl⟩) (pw_preV hw Tm (by decide) rfl) rfl rfl hl.1 rfl (lv_room (Nat.le_of_ble_eq_true rfl)) dL_law__2425 ⟨by show _ ≤ room_1.cells; omega, by show _ ≤ room_1.slots; omega⟩) hw (fun H locs hw hx2 => ?_)
  have Tm : TY S2 ma 12 := ty_ext hx2 Tm
  refine lv_istore (lv' := [(6, .int b9), (5, .int k), (0, .ref b), (1, .ref xa), (2, .ref ma), (3, .ref ao), (4, .int x4)]) hx hb dL_law__2428 hl (by decide) rfl (fun ls hl => ?_)
  refine lv_aload_n hx hb dL_law__2430 rfl (lv_at hl 4 rfl) ?_
  refine pw_ci (va_runV (As := []) (rest := []) ⟨hx, hb, hml, hown, hU⟩ (c_X12_thrown l C (XL C ao f1) n S2 hw.wf _ ma Tm (pI S2 1200 ma) S2 rfl) (cwV 0 hU (pq_gV tw1449 tw1450 tw1451 tw14 tc_X12_thrown) rfl rfl rfl cd_X12_thrown ⟨Nat.le_of_ble_eq_true rfl, Nat.le_of_ble_eq_true rfl⟩) (pw_preV hw Tm (by decide) rfl) rfl rfl hl.1 rfl (lv_room (Nat.le_of_ble_eq_true rfl)) dL_law__2431 ⟨by show _ ≤ room_1.cells; omega, by show _ ≤ room_1.slots; omega⟩) hw (fun H locs hw hx3 => ?_)
  refine lv_iload hx hb dL_law__2434 (lv_at hl 1 rfl) ?_
  refine lv_icmp_eq (tgt := 2441) hx hb dL_law__2436 (by decide) (fun _ => ?_) (fun h9 => absurd hth h9)
  refine lv_iload hx hb dL_law__2441 (lv_at hl 1 rfl) ?_
  refine lv_if_ne (tgt := 2458) hx hb dL_law__2443 (by decide) (fun _ => ?_) (fun h9 => ?_)
  · refine lv_goto (tgt := 3019) hx hb dL_law__2458 (by decide) ?_
    exact W.widen (by omega) (by omega) (hk S2 f1 _ _ ls hJ2 hw (lv_sub hl [2, 3, 4, 5, 6] rfl))
  · refine lv_aload_n hx hb dL_law__2446 rfl (lv_at hl 5 rfl) ?_
    refine lv_iconst (v := 0) hx hb dL_law__2447 (by decide) ?_
    refine pw_lald hx hb hw dL_law__2448 ?_
    refine lv_iload hx hb dL_law__2449 (lv_at hl 0 rfl) ?_
    refine lv_i2l (v := Int32.toInt64 b9) hx hb dL_law__2451 rfl ?_
    refine W.lcmp hx hb dL_law__2452 ?_
    refine lv_if_eq (tgt := 2458) hx hb dL_law__2453 (by decide) (fun _ => ?_) (fun h7 => absurd (lw_cmp0 (han h9)) h7)
    refine lv_goto (tgt := 3019) hx hb dL_law__2458 (by decide) ?_
    exact W.widen (by omega) (by omega) (hk S2 f1 _ _ ls hJ2 hw (lv_sub hl [2, 3, 4, 5, 6] rfl))
set_option maxHeartbeats 4000000 in
set_option maxRecDepth 100000 in
theorem lc_32 {p : Program} {l : Launch} {e : Env} {s : State} {m : MethodId} {below : List Frame} {meth : Method} {c : Code} {b L : Nat} {xs : Nat → Int32} (C0 : lw_At p s m meth c b L xs) (hst : l.stackTraces = false) (C : pq_C) (n xa ma ao : Nat) (J : pq_S → Prop) (hTY : ∀ S, J S → TY S xa 11 ∧ TY S ma 12) (hob : OB_32 n xa ma J) (x4 : Int32) (hi1 : vp_in (x4 + 1) L) (S : pq_S) (f : Nat → Int64) (H : Heap) (locs : List Loc) (ls : Array Slot) (cells slots : Nat) (hJ : J S) (hcc : cells + 200 ≤ room_1.cells) (hss : slots + 8000 ≤ room_1.slots) (hw : PW C (XL C ao f) S (lw_A s) H locs s) (hl : lv_has ls 8 [(0, .ref b), (1, .ref xa), (2, .ref ma), (3, .ref ao), (4, .int x4)]) (hk : ∀ (S2 : pq_S) (f2 : Nat → Int64) (H2 : Heap) (locs2 : List Loc) (ls2 : Array Slot), J S2 → PW C (XL C ao f2) S2 (lw_A s) H2 locs2 s → lv_has ls2 8 [(0, .ref b), (1, .ref xa), (2, .ref ma), (3, .ref ao), (4, .int x4)] → W p l e room_1 s m #[Value.ref b] below meth c H2 locs2 (cells + 200) (slots + 8000) (lw_Z below #[Value.ref b] s) (F0 m 3019 ls2 [])) : W p l e room_1 s m #[Value.ref b] below meth c H locs cells slots (lw_Z below #[Value.ref b] s) (F0 m 2461 ls []) := by
  obtain ⟨hx, hb, hr, hml, hown, hts, hX, hbl, hlocks, hgv⟩ := id C0
  have hb : c.code = cL_law_ := hb
  have hown : s.vm.findClass RL = some m.cls := hown
  have hbA : ¬ lw_A s b := Nat.not_le.mpr hbl
  have hU : ∀ w ∈ pq_U, w.before _ s = true := fun w h => hts w (List.mem_filter.mp h).1
  obtain ⟨Tx, Tm⟩ := hTY S hJ
  refine lv_aload_n hx hb dL_law__2461 rfl (lv_at hl 1 rfl) ?_
  refine lv_aload_n hx hb dL_law__2462 rfl (lv_at hl 0 rfl) ?_
  refine lv_iload hx hb dL_law__2463 (lv_at hl 4 rfl) ?_
  refine lv_iconst (v := 1) hx hb dL_law__2465 (by decide) ?_
  refine lv_iadd hx hb dL_law__2466 ?_
  refine va_sld hx hb hX hbl hbA hw.S hi1 dL_law__2467 ?_
  refine lv_aload_n hx hb dL_law__2468 rfl (lv_at hl 3 rfl) ?_
  obtain ⟨mc, ms, h1, h2, hm⟩ := hob S f hJ (xs (Int32.toNatClampNeg (x4 + 1)))
  refine vx_calli (vx_runSX (As := [.ref xa, .int (xs (Int32.toNatClampNeg (x4 + 1))), .ref ao]) (rest := []) ⟨hx, hb, hml, hown, hU⟩ (cl_L_bright l C ao f n S hw.wf _ xa (xs (Int32.toNatClampNeg (x4 + 1))) Tx mc ms hst _ hm) (vx_cwSW 3 hU (pq_gS tw1384 tw1385 tw0 tc_L_bright) rfl rfl rfl cd_L_bright ⟨Nat.le_of_ble_eq_true rfl, Nat.le_of_ble_eq_true rfl⟩) (pw_preS hw) rfl rfl hl.1 rfl (lv_room (Nat.le_of_ble_eq_true rfl)) dL_law__2469 ⟨by show _ ≤ room_1.cells; omega, by show _ ≤ room_1.slots; omega⟩) hw.S (fun q _ h => pw_free hw q h) (pw_free hw) (fun q _ h => pw_free hw q h) (fun Es ce q9 u t H1 locs1 ht hvm hpx hB hz1 hk1 hS hce hcv hcl => hpx.elim) (fun k u t H1 locs1 ht hvm hq hB hz1 hk1 hS => ?_)
  obtain ⟨f1, S1⟩ := u
  obtain ⟨hK, hF1, hEx⟩ := hq
  dsimp only at hK hF1 hEx hB
  have hw : PW C (XL C ao f1) S1 (lw_A s) H1 locs1 s := pw_lpost hw ht hvm hF1 hB hS
  obtain ⟨b9, S2, hm2, hth, han, hJ2⟩ := hK
  have Tx : TY S1 xa 11 := ty_ext hEx Tx
  have Tm : TY S1 ma 12 := ty_ext hEx Tm
  refine lv_istore (lv' := [(5, .int k), (0, .ref b), (1, .ref xa), (2, .ref ma), (3, .ref ao), (4, .int x4)]) hx hb dL_law__2472 hl (by decide) rfl (fun ls hl => ?_)
  refine lv_aload_n hx hb dL_law__2474 rfl (lv_at hl 3 rfl) ?_
  refine lv_aload_n hx hb dL_law__2475 rfl (lv_at hl 1 rfl) ?_
  refine lv_iload hx hb dL_law__2476 (lv_at hl 5 rfl) ?_
  refine lv_iconst (v := 1) hx hb dL_law__2478 (by decide) ?_
  refine lv_iadd hx hb dL_law__2479 ?_
  refine va_sld hx hb hX hbl hbA hw.S hi1 dL_law__2480 ?_
  refine pw_ci (va_runV (As := [.int (xs (Int32.toNatClampNeg (x4 + 1)))]) (rest := []) ⟨hx, hb, hml, hown, hU⟩ (c_X12_bright l C (XL C ao f1) n S1 hw.wf _ ma (xs (Int32.toNatClampNeg (x4 + 1))) Tm b9 S2 hm2) (cwV 1 hU (pq_gV tw2089 tw2090 tw2091 tw14 tc_X12_bright) rfl rfl rfl cd_X12_bright ⟨Nat.le_of_ble_eq_true rfl, Nat.le_of_ble_eq_true rfl⟩) (pw_preV hw Tm (by decide) rfl) rfl rfl hl.1 rfl (lv_room (Nat.le_of_ble_eq_true rfl)) dL_law__2481 ⟨by show _ ≤ room_1.cells; omega, by show _ ≤ room_1.slots; omega⟩) hw (fun H locs hw hx2 => ?_)
  have Tm : TY S2 ma 12 := ty_ext hx2 Tm
  refine lv_istore (lv' := [(6, .int b9), (5, .int k), (0, .ref b), (1, .ref xa), (2, .ref ma), (3, .ref ao), (4, .int x4)]) hx hb dL_law__2484 hl (by decide) rfl (fun ls hl => ?_)
  refine lv_aload_n hx hb dL_law__2486 rfl (lv_at hl 4 rfl) ?_
  refine pw_ci (va_runV (As := []) (rest := []) ⟨hx, hb, hml, hown, hU⟩ (c_X12_thrown l C (XL C ao f1) n S2 hw.wf _ ma Tm (pI S2 1200 ma) S2 rfl) (cwV 0 hU (pq_gV tw1449 tw1450 tw1451 tw14 tc_X12_thrown) rfl rfl rfl cd_X12_thrown ⟨Nat.le_of_ble_eq_true rfl, Nat.le_of_ble_eq_true rfl⟩) (pw_preV hw Tm (by decide) rfl) rfl rfl hl.1 rfl (lv_room (Nat.le_of_ble_eq_true rfl)) dL_law__2487 ⟨by show _ ≤ room_1.cells; omega, by show _ ≤ room_1.slots; omega⟩) hw (fun H locs hw hx3 => ?_)
  refine lv_iload hx hb dL_law__2490 (lv_at hl 1 rfl) ?_
  refine lv_icmp_eq (tgt := 2497) hx hb dL_law__2492 (by decide) (fun _ => ?_) (fun h9 => absurd hth h9)
  refine lv_iload hx hb dL_law__2497 (lv_at hl 1 rfl) ?_
  refine lv_if_ne (tgt := 2514) hx hb dL_law__2499 (by decide) (fun _ => ?_) (fun h9 => ?_)
  · refine lv_goto (tgt := 3019) hx hb dL_law__2514 (by decide) ?_
    exact W.widen (by omega) (by omega) (hk S2 f1 _ _ ls hJ2 hw (lv_sub hl [2, 3, 4, 5, 6] rfl))
  · refine lv_aload_n hx hb dL_law__2502 rfl (lv_at hl 5 rfl) ?_
    refine lv_iconst (v := 0) hx hb dL_law__2503 (by decide) ?_
    refine pw_lald hx hb hw dL_law__2504 ?_
    refine lv_iload hx hb dL_law__2505 (lv_at hl 0 rfl) ?_
    refine lv_i2l (v := Int32.toInt64 b9) hx hb dL_law__2507 rfl ?_
    refine W.lcmp hx hb dL_law__2508 ?_
    refine lv_if_eq (tgt := 2514) hx hb dL_law__2509 (by decide) (fun _ => ?_) (fun h7 => absurd (lw_cmp0 (han h9)) h7)
    refine lv_goto (tgt := 3019) hx hb dL_law__2514 (by decide) ?_
    exact W.widen (by omega) (by omega) (hk S2 f1 _ _ ls hJ2 hw (lv_sub hl [2, 3, 4, 5, 6] rfl))
set_option maxHeartbeats 4000000 in
set_option maxRecDepth 100000 in
theorem lc_33 {p : Program} {l : Launch} {e : Env} {s : State} {m : MethodId} {below : List Frame} {meth : Method} {c : Code} {b L : Nat} {xs : Nat → Int32} (C0 : lw_At p s m meth c b L xs) (hst : l.stackTraces = false) (C : pq_C) (n xa ma ao : Nat) (J : pq_S → Prop) (hTY : ∀ S, J S → TY S xa 11 ∧ TY S ma 12) (hob : OB_33 n xa ma J) (x4 : Int32) (hi1 : vp_in (x4 + 1) L) (hi2 : vp_in (x4 + 2) L) (S : pq_S) (f : Nat → Int64) (H : Heap) (locs : List Loc) (ls : Array Slot) (cells slots : Nat) (hJ : J S) (hcc : cells + 200 ≤ room_1.cells) (hss : slots + 8000 ≤ room_1.slots) (hw : PW C (XL C ao f) S (lw_A s) H locs s) (hl : lv_has ls 8 [(0, .ref b), (1, .ref xa), (2, .ref ma), (3, .ref ao), (4, .int x4)]) (hk : ∀ (S2 : pq_S) (f2 : Nat → Int64) (H2 : Heap) (locs2 : List Loc) (ls2 : Array Slot), J S2 → PW C (XL C ao f2) S2 (lw_A s) H2 locs2 s → lv_has ls2 8 [(0, .ref b), (1, .ref xa), (2, .ref ma), (3, .ref ao), (4, .int x4)] → W p l e room_1 s m #[Value.ref b] below meth c H2 locs2 (cells + 200) (slots + 8000) (lw_Z below #[Value.ref b] s) (F0 m 3019 ls2 [])) : W p l e room_1 s m #[Value.ref b] below meth c H locs cells slots (lw_Z below #[Value.ref b] s) (F0 m 2517 ls []) := by
  obtain ⟨hx, hb, hr, hml, hown, hts, hX, hbl, hlocks, hgv⟩ := id C0
  have hb : c.code = cL_law_ := hb
  have hown : s.vm.findClass RL = some m.cls := hown
  have hbA : ¬ lw_A s b := Nat.not_le.mpr hbl
  have hU : ∀ w ∈ pq_U, w.before _ s = true := fun w h => hts w (List.mem_filter.mp h).1
  obtain ⟨Tx, Tm⟩ := hTY S hJ
  refine lv_aload_n hx hb dL_law__2517 rfl (lv_at hl 1 rfl) ?_
  refine lv_aload_n hx hb dL_law__2518 rfl (lv_at hl 0 rfl) ?_
  refine lv_iload hx hb dL_law__2519 (lv_at hl 4 rfl) ?_
  refine lv_iconst (v := 1) hx hb dL_law__2521 (by decide) ?_
  refine lv_iadd hx hb dL_law__2522 ?_
  refine va_sld hx hb hX hbl hbA hw.S hi1 dL_law__2523 ?_
  refine lv_aload_n hx hb dL_law__2524 rfl (lv_at hl 0 rfl) ?_
  refine lv_iload hx hb dL_law__2525 (lv_at hl 4 rfl) ?_
  refine lv_iconst (v := 2) hx hb dL_law__2527 (by decide) ?_
  refine lv_iadd hx hb dL_law__2528 ?_
  refine va_sld hx hb hX hbl hbA hw.S hi2 dL_law__2529 ?_
  refine lv_aload_n hx hb dL_law__2530 rfl (lv_at hl 3 rfl) ?_
  obtain ⟨mc, ms, h1, h2, hm⟩ := hob S f hJ (xs (Int32.toNatClampNeg (x4 + 1))) (xs (Int32.toNatClampNeg (x4 + 2)))
  refine vx_calli (vx_runSX (As := [.ref xa, .int (xs (Int32.toNatClampNeg (x4 + 1))), .int (xs (Int32.toNatClampNeg (x4 + 2))), .ref ao]) (rest := []) ⟨hx, hb, hml, hown, hU⟩ (cl_L_darks l C ao f n S hw.wf _ xa (xs (Int32.toNatClampNeg (x4 + 1))) (xs (Int32.toNatClampNeg (x4 + 2))) Tx mc ms hst _ hm) (vx_cwSW 4 hU (pq_gS tw1391 tw1392 tw0 tc_L_darks) rfl rfl rfl cd_L_darks ⟨Nat.le_of_ble_eq_true rfl, Nat.le_of_ble_eq_true rfl⟩) (pw_preS hw) rfl rfl hl.1 rfl (lv_room (Nat.le_of_ble_eq_true rfl)) dL_law__2531 ⟨by show _ ≤ room_1.cells; omega, by show _ ≤ room_1.slots; omega⟩) hw.S (fun q _ h => pw_free hw q h) (pw_free hw) (fun q _ h => pw_free hw q h) (fun Es ce q9 u t H1 locs1 ht hvm hpx hB hz1 hk1 hS hce hcv hcl => hpx.elim) (fun k u t H1 locs1 ht hvm hq hB hz1 hk1 hS => ?_)
  obtain ⟨f1, S1⟩ := u
  obtain ⟨hK, hF1, hEx⟩ := hq
  dsimp only at hK hF1 hEx hB
  have hw : PW C (XL C ao f1) S1 (lw_A s) H1 locs1 s := pw_lpost hw ht hvm hF1 hB hS
  obtain ⟨b9, S2, hm2, hth, han, hJ2⟩ := hK
  have Tx : TY S1 xa 11 := ty_ext hEx Tx
  have Tm : TY S1 ma 12 := ty_ext hEx Tm
  refine lv_istore (lv' := [(5, .int k), (0, .ref b), (1, .ref xa), (2, .ref ma), (3, .ref ao), (4, .int x4)]) hx hb dL_law__2534 hl (by decide) rfl (fun ls hl => ?_)
  refine lv_aload_n hx hb dL_law__2536 rfl (lv_at hl 3 rfl) ?_
  refine lv_aload_n hx hb dL_law__2537 rfl (lv_at hl 1 rfl) ?_
  refine lv_iload hx hb dL_law__2538 (lv_at hl 5 rfl) ?_
  refine lv_iconst (v := 1) hx hb dL_law__2540 (by decide) ?_
  refine lv_iadd hx hb dL_law__2541 ?_
  refine va_sld hx hb hX hbl hbA hw.S hi1 dL_law__2542 ?_
  refine lv_aload_n hx hb dL_law__2543 rfl (lv_at hl 1 rfl) ?_
  refine lv_iload hx hb dL_law__2544 (lv_at hl 5 rfl) ?_
  refine lv_iconst (v := 2) hx hb dL_law__2546 (by decide) ?_
  refine lv_iadd hx hb dL_law__2547 ?_
  refine va_sld hx hb hX hbl hbA hw.S hi2 dL_law__2548 ?_
  refine pw_ci (va_runV (As := [.int (xs (Int32.toNatClampNeg (x4 + 1))), .int (xs (Int32.toNatClampNeg (x4 + 2)))]) (rest := []) ⟨hx, hb, hml, hown, hU⟩ (c_X12_darks l C (XL C ao f1) n S1 hw.wf _ ma (xs (Int32.toNatClampNeg (x4 + 1))) (xs (Int32.toNatClampNeg (x4 + 2))) Tm b9 S2 hm2) (cwV 2 hU (pq_gV tw2093 tw2094 tw2095 tw14 tc_X12_darks) rfl rfl rfl cd_X12_darks ⟨Nat.le_of_ble_eq_true rfl, Nat.le_of_ble_eq_true rfl⟩) (pw_preV hw Tm (by decide) rfl) rfl rfl hl.1 rfl (lv_room (Nat.le_of_ble_eq_true rfl)) dL_law__2549 ⟨by show _ ≤ room_1.cells; omega, by show _ ≤ room_1.slots; omega⟩) hw (fun H locs hw hx2 => ?_)
  have Tm : TY S2 ma 12 := ty_ext hx2 Tm
  refine lv_istore (lv' := [(6, .int b9), (5, .int k), (0, .ref b), (1, .ref xa), (2, .ref ma), (3, .ref ao), (4, .int x4)]) hx hb dL_law__2552 hl (by decide) rfl (fun ls hl => ?_)
  refine lv_aload_n hx hb dL_law__2554 rfl (lv_at hl 4 rfl) ?_
  refine pw_ci (va_runV (As := []) (rest := []) ⟨hx, hb, hml, hown, hU⟩ (c_X12_thrown l C (XL C ao f1) n S2 hw.wf _ ma Tm (pI S2 1200 ma) S2 rfl) (cwV 0 hU (pq_gV tw1449 tw1450 tw1451 tw14 tc_X12_thrown) rfl rfl rfl cd_X12_thrown ⟨Nat.le_of_ble_eq_true rfl, Nat.le_of_ble_eq_true rfl⟩) (pw_preV hw Tm (by decide) rfl) rfl rfl hl.1 rfl (lv_room (Nat.le_of_ble_eq_true rfl)) dL_law__2555 ⟨by show _ ≤ room_1.cells; omega, by show _ ≤ room_1.slots; omega⟩) hw (fun H locs hw hx3 => ?_)
  refine lv_iload hx hb dL_law__2558 (lv_at hl 1 rfl) ?_
  refine lv_icmp_eq (tgt := 2565) hx hb dL_law__2560 (by decide) (fun _ => ?_) (fun h9 => absurd hth h9)
  refine lv_iload hx hb dL_law__2565 (lv_at hl 1 rfl) ?_
  refine lv_if_ne (tgt := 2582) hx hb dL_law__2567 (by decide) (fun _ => ?_) (fun h9 => ?_)
  · refine lv_goto (tgt := 3019) hx hb dL_law__2582 (by decide) ?_
    exact W.widen (by omega) (by omega) (hk S2 f1 _ _ ls hJ2 hw (lv_sub hl [2, 3, 4, 5, 6] rfl))
  · refine lv_aload_n hx hb dL_law__2570 rfl (lv_at hl 5 rfl) ?_
    refine lv_iconst (v := 0) hx hb dL_law__2571 (by decide) ?_
    refine pw_lald hx hb hw dL_law__2572 ?_
    refine lv_iload hx hb dL_law__2573 (lv_at hl 0 rfl) ?_
    refine lv_i2l (v := Int32.toInt64 b9) hx hb dL_law__2575 rfl ?_
    refine W.lcmp hx hb dL_law__2576 ?_
    refine lv_if_eq (tgt := 2582) hx hb dL_law__2577 (by decide) (fun _ => ?_) (fun h7 => absurd (lw_cmp0 (han h9)) h7)
    refine lv_goto (tgt := 3019) hx hb dL_law__2582 (by decide) ?_
    exact W.widen (by omega) (by omega) (hk S2 f1 _ _ ls hJ2 hw (lv_sub hl [2, 3, 4, 5, 6] rfl))
set_option maxHeartbeats 4000000 in
set_option maxRecDepth 100000 in
theorem lc_34 {p : Program} {l : Launch} {e : Env} {s : State} {m : MethodId} {below : List Frame} {meth : Method} {c : Code} {b L : Nat} {xs : Nat → Int32} (C0 : lw_At p s m meth c b L xs) (hst : l.stackTraces = false) (C : pq_C) (n xa ma ao : Nat) (J : pq_S → Prop) (hTY : ∀ S, J S → TY S xa 11 ∧ TY S ma 12) (hob : OB_34 n xa ma J) (x4 : Int32) (hi1 : vp_in (x4 + 1) L) (hi2 : vp_in (x4 + 2) L) (hi3 : vp_in (x4 + 3) L) (hi4 : vp_in (x4 + 4) L) (hi5 : vp_in (x4 + 5) L) (S : pq_S) (f : Nat → Int64) (H : Heap) (locs : List Loc) (ls : Array Slot) (cells slots : Nat) (hJ : J S) (hcc : cells + 200 ≤ room_1.cells) (hss : slots + 8000 ≤ room_1.slots) (hw : PW C (XL C ao f) S (lw_A s) H locs s) (hl : lv_has ls 8 [(0, .ref b), (1, .ref xa), (2, .ref ma), (3, .ref ao), (4, .int x4)]) (hk : ∀ (S2 : pq_S) (f2 : Nat → Int64) (H2 : Heap) (locs2 : List Loc) (ls2 : Array Slot), J S2 → PW C (XL C ao f2) S2 (lw_A s) H2 locs2 s → lv_has ls2 8 [(0, .ref b), (1, .ref xa), (2, .ref ma), (3, .ref ao), (4, .int x4)] → W p l e room_1 s m #[Value.ref b] below meth c H2 locs2 (cells + 200) (slots + 8000) (lw_Z below #[Value.ref b] s) (F0 m 3019 ls2 [])) : W p l e room_1 s m #[Value.ref b] below meth c H locs cells slots (lw_Z below #[Value.ref b] s) (F0 m 2585 ls []) := by
  obtain ⟨hx, hb, hr, hml, hown, hts, hX, hbl, hlocks, hgv⟩ := id C0
  have hb : c.code = cL_law_ := hb
  have hown : s.vm.findClass RL = some m.cls := hown
  have hbA : ¬ lw_A s b := Nat.not_le.mpr hbl
  have hU : ∀ w ∈ pq_U, w.before _ s = true := fun w h => hts w (List.mem_filter.mp h).1
  obtain ⟨Tx, Tm⟩ := hTY S hJ
  refine lv_aload_n hx hb dL_law__2585 rfl (lv_at hl 1 rfl) ?_
  refine lv_aload_n hx hb dL_law__2586 rfl (lv_at hl 0 rfl) ?_
  refine lv_iload hx hb dL_law__2587 (lv_at hl 4 rfl) ?_
  refine lv_iconst (v := 1) hx hb dL_law__2589 (by decide) ?_
  refine lv_iadd hx hb dL_law__2590 ?_
  refine va_sld hx hb hX hbl hbA hw.S hi1 dL_law__2591 ?_
  refine lv_aload_n hx hb dL_law__2592 rfl (lv_at hl 0 rfl) ?_
  refine lv_iload hx hb dL_law__2593 (lv_at hl 4 rfl) ?_
  refine lv_iconst (v := 2) hx hb dL_law__2595 (by decide) ?_
  refine lv_iadd hx hb dL_law__2596 ?_
  refine va_sld hx hb hX hbl hbA hw.S hi2 dL_law__2597 ?_
  refine lv_aload_n hx hb dL_law__2598 rfl (lv_at hl 0 rfl) ?_
  refine lv_iload hx hb dL_law__2599 (lv_at hl 4 rfl) ?_
  refine lv_iconst (v := 3) hx hb dL_law__2601 (by decide) ?_
  refine lv_iadd hx hb dL_law__2602 ?_
  refine va_sld hx hb hX hbl hbA hw.S hi3 dL_law__2603 ?_
  refine lv_aload_n hx hb dL_law__2604 rfl (lv_at hl 0 rfl) ?_
  refine lv_iload hx hb dL_law__2605 (lv_at hl 4 rfl) ?_
  refine lv_iconst (v := 4) hx hb dL_law__2607 (by decide) ?_
  refine lv_iadd hx hb dL_law__2608 ?_
  refine va_sld hx hb hX hbl hbA hw.S hi4 dL_law__2609 ?_
  refine lv_aload_n hx hb dL_law__2610 rfl (lv_at hl 0 rfl) ?_
  refine lv_iload hx hb dL_law__2611 (lv_at hl 4 rfl) ?_
  refine lv_iconst (v := 5) hx hb dL_law__2613 (by decide) ?_
  refine lv_iadd hx hb dL_law__2614 ?_
  refine va_sld hx hb hX hbl hbA hw.S hi5 dL_law__2615 ?_
  refine lv_aload_n hx hb dL_law__2616 rfl (lv_at hl 3 rfl) ?_
  obtain ⟨mc, ms, h1, h2, hm⟩ := hob S f hJ (xs (Int32.toNatClampNeg (x4 + 1))) (xs (Int32.toNatClampNeg (x4 + 2))) (xs (Int32.toNatClampNeg (x4 + 3))) (xs (Int32.toNatClampNeg (x4 + 4))) (xs (Int32.toNatClampNeg (x4 + 5)))
  refine vx_calli (vx_runSX (As := [.ref xa, .int (xs (Int32.toNatClampNeg (x4 + 1))), .int (xs (Int32.toNatClampNeg (x4 + 2))), .int (xs (Int32.toNatClampNeg (x4 + 3))), .int (xs (Int32.toNatClampNeg (x4 + 4))), .int (xs (Int32.toNatClampNeg (x4 + 5))), .ref ao]) (rest := []) ⟨hx, hb, hml, hown, hU⟩ (cl_L_clouds l C ao f n S hw.wf _ xa (xs (Int32.toNatClampNeg (x4 + 1))) (xs (Int32.toNatClampNeg (x4 + 2))) (xs (Int32.toNatClampNeg (x4 + 3))) (xs (Int32.toNatClampNeg (x4 + 4))) (xs (Int32.toNatClampNeg (x4 + 5))) Tx mc ms hst _ hm) (vx_cwSW 7 hU (pq_gS tw1398 tw1399 tw0 tc_L_clouds) rfl rfl rfl cd_L_clouds ⟨Nat.le_of_ble_eq_true rfl, Nat.le_of_ble_eq_true rfl⟩) (pw_preS hw) rfl rfl hl.1 rfl (lv_room (Nat.le_of_ble_eq_true rfl)) dL_law__2617 ⟨by show _ ≤ room_1.cells; omega, by show _ ≤ room_1.slots; omega⟩) hw.S (fun q _ h => pw_free hw q h) (pw_free hw) (fun q _ h => pw_free hw q h) (fun Es ce q9 u t H1 locs1 ht hvm hpx hB hz1 hk1 hS hce hcv hcl => hpx.elim) (fun k u t H1 locs1 ht hvm hq hB hz1 hk1 hS => ?_)
  obtain ⟨f1, S1⟩ := u
  obtain ⟨hK, hF1, hEx⟩ := hq
  dsimp only at hK hF1 hEx hB
  have hw : PW C (XL C ao f1) S1 (lw_A s) H1 locs1 s := pw_lpost hw ht hvm hF1 hB hS
  obtain ⟨b9, S2, hm2, hth, han, hJ2⟩ := hK
  have Tx : TY S1 xa 11 := ty_ext hEx Tx
  have Tm : TY S1 ma 12 := ty_ext hEx Tm
  refine lv_istore (lv' := [(5, .int k), (0, .ref b), (1, .ref xa), (2, .ref ma), (3, .ref ao), (4, .int x4)]) hx hb dL_law__2620 hl (by decide) rfl (fun ls hl => ?_)
  refine lv_aload_n hx hb dL_law__2622 rfl (lv_at hl 3 rfl) ?_
  refine lv_aload_n hx hb dL_law__2623 rfl (lv_at hl 1 rfl) ?_
  refine lv_iload hx hb dL_law__2624 (lv_at hl 5 rfl) ?_
  refine lv_iconst (v := 1) hx hb dL_law__2626 (by decide) ?_
  refine lv_iadd hx hb dL_law__2627 ?_
  refine va_sld hx hb hX hbl hbA hw.S hi1 dL_law__2628 ?_
  refine lv_aload_n hx hb dL_law__2629 rfl (lv_at hl 1 rfl) ?_
  refine lv_iload hx hb dL_law__2630 (lv_at hl 5 rfl) ?_
  refine lv_iconst (v := 2) hx hb dL_law__2632 (by decide) ?_
  refine lv_iadd hx hb dL_law__2633 ?_
  refine va_sld hx hb hX hbl hbA hw.S hi2 dL_law__2634 ?_
  refine lv_aload_n hx hb dL_law__2635 rfl (lv_at hl 1 rfl) ?_
  refine lv_iload hx hb dL_law__2636 (lv_at hl 5 rfl) ?_
  refine lv_iconst (v := 3) hx hb dL_law__2638 (by decide) ?_
  refine lv_iadd hx hb dL_law__2639 ?_
  refine va_sld hx hb hX hbl hbA hw.S hi3 dL_law__2640 ?_
  refine lv_aload_n hx hb dL_law__2641 rfl (lv_at hl 1 rfl) ?_
  refine lv_iload hx hb dL_law__2642 (lv_at hl 5 rfl) ?_
  refine lv_iconst (v := 4) hx hb dL_law__2644 (by decide) ?_
  refine lv_iadd hx hb dL_law__2645 ?_
  refine va_sld hx hb hX hbl hbA hw.S hi4 dL_law__2646 ?_
  refine lv_aload_n hx hb dL_law__2647 rfl (lv_at hl 1 rfl) ?_
  refine lv_iload hx hb dL_law__2648 (lv_at hl 5 rfl) ?_
  refine lv_iconst (v := 5) hx hb dL_law__2650 (by decide) ?_
  refine lv_iadd hx hb dL_law__2651 ?_
  refine va_sld hx hb hX hbl hbA hw.S hi5 dL_law__2652 ?_
  refine pw_ci (va_runV (As := [.int (xs (Int32.toNatClampNeg (x4 + 1))), .int (xs (Int32.toNatClampNeg (x4 + 2))), .int (xs (Int32.toNatClampNeg (x4 + 3))), .int (xs (Int32.toNatClampNeg (x4 + 4))), .int (xs (Int32.toNatClampNeg (x4 + 5)))]) (rest := []) ⟨hx, hb, hml, hown, hU⟩ (c_X12_clouds l C (XL C ao f1) n S1 hw.wf _ ma (xs (Int32.toNatClampNeg (x4 + 1))) (xs (Int32.toNatClampNeg (x4 + 2))) (xs (Int32.toNatClampNeg (x4 + 3))) (xs (Int32.toNatClampNeg (x4 + 4))) (xs (Int32.toNatClampNeg (x4 + 5))) Tm b9 S2 hm2) (cwV 5 hU (pq_gV tw2097 tw2098 tw2099 tw14 tc_X12_clouds) rfl rfl rfl cd_X12_clouds ⟨Nat.le_of_ble_eq_true rfl, Nat.le_of_ble_eq_true rfl⟩) (pw_preV hw Tm (by decide) rfl) rfl rfl hl.1 rfl (lv_room (Nat.le_of_ble_eq_true rfl)) dL_law__2653 ⟨by show _ ≤ room_1.cells; omega, by show _ ≤ room_1.slots; omega⟩) hw (fun H locs hw hx2 => ?_)
  have Tm : TY S2 ma 12 := ty_ext hx2 Tm
  refine lv_istore (lv' := [(6, .int b9), (5, .int k), (0, .ref b), (1, .ref xa), (2, .ref ma), (3, .ref ao), (4, .int x4)]) hx hb dL_law__2656 hl (by decide) rfl (fun ls hl => ?_)
  refine lv_aload_n hx hb dL_law__2658 rfl (lv_at hl 4 rfl) ?_
  refine pw_ci (va_runV (As := []) (rest := []) ⟨hx, hb, hml, hown, hU⟩ (c_X12_thrown l C (XL C ao f1) n S2 hw.wf _ ma Tm (pI S2 1200 ma) S2 rfl) (cwV 0 hU (pq_gV tw1449 tw1450 tw1451 tw14 tc_X12_thrown) rfl rfl rfl cd_X12_thrown ⟨Nat.le_of_ble_eq_true rfl, Nat.le_of_ble_eq_true rfl⟩) (pw_preV hw Tm (by decide) rfl) rfl rfl hl.1 rfl (lv_room (Nat.le_of_ble_eq_true rfl)) dL_law__2659 ⟨by show _ ≤ room_1.cells; omega, by show _ ≤ room_1.slots; omega⟩) hw (fun H locs hw hx3 => ?_)
  refine lv_iload hx hb dL_law__2662 (lv_at hl 1 rfl) ?_
  refine lv_icmp_eq (tgt := 2669) hx hb dL_law__2664 (by decide) (fun _ => ?_) (fun h9 => absurd hth h9)
  refine lv_iload hx hb dL_law__2669 (lv_at hl 1 rfl) ?_
  refine lv_if_ne (tgt := 2686) hx hb dL_law__2671 (by decide) (fun _ => ?_) (fun h9 => ?_)
  · refine lv_goto (tgt := 3019) hx hb dL_law__2686 (by decide) ?_
    exact W.widen (by omega) (by omega) (hk S2 f1 _ _ ls hJ2 hw (lv_sub hl [2, 3, 4, 5, 6] rfl))
  · refine lv_aload_n hx hb dL_law__2674 rfl (lv_at hl 5 rfl) ?_
    refine lv_iconst (v := 0) hx hb dL_law__2675 (by decide) ?_
    refine pw_lald hx hb hw dL_law__2676 ?_
    refine lv_iload hx hb dL_law__2677 (lv_at hl 0 rfl) ?_
    refine lv_i2l (v := Int32.toInt64 b9) hx hb dL_law__2679 rfl ?_
    refine W.lcmp hx hb dL_law__2680 ?_
    refine lv_if_eq (tgt := 2686) hx hb dL_law__2681 (by decide) (fun _ => ?_) (fun h7 => absurd (lw_cmp0 (han h9)) h7)
    refine lv_goto (tgt := 3019) hx hb dL_law__2686 (by decide) ?_
    exact W.widen (by omega) (by omega) (hk S2 f1 _ _ ls hJ2 hw (lv_sub hl [2, 3, 4, 5, 6] rfl))
set_option maxHeartbeats 4000000 in
set_option maxRecDepth 100000 in
theorem lc_35 {p : Program} {l : Launch} {e : Env} {s : State} {m : MethodId} {below : List Frame} {meth : Method} {c : Code} {b L : Nat} {xs : Nat → Int32} (C0 : lw_At p s m meth c b L xs) (hst : l.stackTraces = false) (C : pq_C) (n xa ma ao : Nat) (J : pq_S → Prop) (hTY : ∀ S, J S → TY S xa 11 ∧ TY S ma 12) (hob : OB_35 n xa ma J) (x4 : Int32) (hi1 : vp_in (x4 + 1) L) (hi2 : vp_in (x4 + 2) L) (hi3 : vp_in (x4 + 3) L) (hi4 : vp_in (x4 + 4) L) (hi5 : vp_in (x4 + 5) L) (hi6 : vp_in (x4 + 6) L) (S : pq_S) (f : Nat → Int64) (H : Heap) (locs : List Loc) (ls : Array Slot) (cells slots : Nat) (hJ : J S) (hcc : cells + 200 ≤ room_1.cells) (hss : slots + 8000 ≤ room_1.slots) (hw : PW C (XL C ao f) S (lw_A s) H locs s) (hl : lv_has ls 8 [(0, .ref b), (1, .ref xa), (2, .ref ma), (3, .ref ao), (4, .int x4)]) (hk : ∀ (S2 : pq_S) (f2 : Nat → Int64) (H2 : Heap) (locs2 : List Loc) (ls2 : Array Slot), J S2 → PW C (XL C ao f2) S2 (lw_A s) H2 locs2 s → lv_has ls2 8 [(0, .ref b), (1, .ref xa), (2, .ref ma), (3, .ref ao), (4, .int x4)] → W p l e room_1 s m #[Value.ref b] below meth c H2 locs2 (cells + 200) (slots + 8000) (lw_Z below #[Value.ref b] s) (F0 m 3019 ls2 [])) : W p l e room_1 s m #[Value.ref b] below meth c H locs cells slots (lw_Z below #[Value.ref b] s) (F0 m 2689 ls []) := by
  obtain ⟨hx, hb, hr, hml, hown, hts, hX, hbl, hlocks, hgv⟩ := id C0
  have hb : c.code = cL_law_ := hb
  have hown : s.vm.findClass RL = some m.cls := hown
  have hbA : ¬ lw_A s b := Nat.not_le.mpr hbl
  have hU : ∀ w ∈ pq_U, w.before _ s = true := fun w h => hts w (List.mem_filter.mp h).1
  obtain ⟨Tx, Tm⟩ := hTY S hJ
  refine lv_aload_n hx hb dL_law__2689 rfl (lv_at hl 1 rfl) ?_
  refine lv_aload_n hx hb dL_law__2690 rfl (lv_at hl 0 rfl) ?_
  refine lv_iload hx hb dL_law__2691 (lv_at hl 4 rfl) ?_
  refine lv_iconst (v := 1) hx hb dL_law__2693 (by decide) ?_
  refine lv_iadd hx hb dL_law__2694 ?_
  refine va_sld hx hb hX hbl hbA hw.S hi1 dL_law__2695 ?_
  refine lv_aload_n hx hb dL_law__2696 rfl (lv_at hl 0 rfl) ?_
  refine lv_iload hx hb dL_law__2697 (lv_at hl 4 rfl) ?_
  refine lv_iconst (v := 2) hx hb dL_law__2699 (by decide) ?_
  refine lv_iadd hx hb dL_law__2700 ?_
  refine va_sld hx hb hX hbl hbA hw.S hi2 dL_law__2701 ?_
  refine lv_aload_n hx hb dL_law__2702 rfl (lv_at hl 0 rfl) ?_
  refine lv_iload hx hb dL_law__2703 (lv_at hl 4 rfl) ?_
  refine lv_iconst (v := 3) hx hb dL_law__2705 (by decide) ?_
  refine lv_iadd hx hb dL_law__2706 ?_
  refine va_sld hx hb hX hbl hbA hw.S hi3 dL_law__2707 ?_
  refine lv_aload_n hx hb dL_law__2708 rfl (lv_at hl 0 rfl) ?_
  refine lv_iload hx hb dL_law__2709 (lv_at hl 4 rfl) ?_
  refine lv_iconst (v := 4) hx hb dL_law__2711 (by decide) ?_
  refine lv_iadd hx hb dL_law__2712 ?_
  refine va_sld hx hb hX hbl hbA hw.S hi4 dL_law__2713 ?_
  refine lv_aload_n hx hb dL_law__2714 rfl (lv_at hl 0 rfl) ?_
  refine lv_iload hx hb dL_law__2715 (lv_at hl 4 rfl) ?_
  refine lv_iconst (v := 5) hx hb dL_law__2717 (by decide) ?_
  refine lv_iadd hx hb dL_law__2718 ?_
  refine va_sld hx hb hX hbl hbA hw.S hi5 dL_law__2719 ?_
  refine lv_aload_n hx hb dL_law__2720 rfl (lv_at hl 0 rfl) ?_
  refine lv_iload hx hb dL_law__2721 (lv_at hl 4 rfl) ?_
  refine lv_bipush (v := 6) hx hb dL_law__2723 (by decide) ?_
  refine lv_iadd hx hb dL_law__2725 ?_
  refine va_sld hx hb hX hbl hbA hw.S hi6 dL_law__2726 ?_
  refine lv_aload_n hx hb dL_law__2727 rfl (lv_at hl 3 rfl) ?_
  obtain ⟨mc, ms, h1, h2, hm⟩ := hob S f hJ (xs (Int32.toNatClampNeg (x4 + 1))) (xs (Int32.toNatClampNeg (x4 + 2))) (xs (Int32.toNatClampNeg (x4 + 3))) (xs (Int32.toNatClampNeg (x4 + 4))) (xs (Int32.toNatClampNeg (x4 + 5))) (xs (Int32.toNatClampNeg (x4 + 6)))
  refine vx_calli (vx_runSX (As := [.ref xa, .int (xs (Int32.toNatClampNeg (x4 + 1))), .int (xs (Int32.toNatClampNeg (x4 + 2))), .int (xs (Int32.toNatClampNeg (x4 + 3))), .int (xs (Int32.toNatClampNeg (x4 + 4))), .int (xs (Int32.toNatClampNeg (x4 + 5))), .int (xs (Int32.toNatClampNeg (x4 + 6))), .ref ao]) (rest := []) ⟨hx, hb, hml, hown, hU⟩ (cl_L_span l C ao f n S hw.wf _ xa (xs (Int32.toNatClampNeg (x4 + 1))) (xs (Int32.toNatClampNeg (x4 + 2))) (xs (Int32.toNatClampNeg (x4 + 3))) (xs (Int32.toNatClampNeg (x4 + 4))) (xs (Int32.toNatClampNeg (x4 + 5))) (xs (Int32.toNatClampNeg (x4 + 6))) Tx mc ms hst _ hm) (vx_cwSW 8 hU (pq_gS tw1414 tw1415 tw0 tc_L_span) rfl rfl rfl cd_L_span ⟨Nat.le_of_ble_eq_true rfl, Nat.le_of_ble_eq_true rfl⟩) (pw_preS hw) rfl rfl hl.1 rfl (lv_room (Nat.le_of_ble_eq_true rfl)) dL_law__2728 ⟨by show _ ≤ room_1.cells; omega, by show _ ≤ room_1.slots; omega⟩) hw.S (fun q _ h => pw_free hw q h) (pw_free hw) (fun q _ h => pw_free hw q h) (fun Es ce q9 u t H1 locs1 ht hvm hpx hB hz1 hk1 hS hce hcv hcl => hpx.elim) (fun k u t H1 locs1 ht hvm hq hB hz1 hk1 hS => ?_)
  obtain ⟨f1, S1⟩ := u
  obtain ⟨hK, hF1, hEx⟩ := hq
  dsimp only at hK hF1 hEx hB
  have hw : PW C (XL C ao f1) S1 (lw_A s) H1 locs1 s := pw_lpost hw ht hvm hF1 hB hS
  obtain ⟨b9, S2, hm2, hth, han, hJ2⟩ := hK
  have Tx : TY S1 xa 11 := ty_ext hEx Tx
  have Tm : TY S1 ma 12 := ty_ext hEx Tm
  refine lv_istore (lv' := [(5, .int k), (0, .ref b), (1, .ref xa), (2, .ref ma), (3, .ref ao), (4, .int x4)]) hx hb dL_law__2731 hl (by decide) rfl (fun ls hl => ?_)
  refine lv_aload_n hx hb dL_law__2733 rfl (lv_at hl 3 rfl) ?_
  refine lv_aload_n hx hb dL_law__2734 rfl (lv_at hl 1 rfl) ?_
  refine lv_iload hx hb dL_law__2735 (lv_at hl 5 rfl) ?_
  refine lv_iconst (v := 1) hx hb dL_law__2737 (by decide) ?_
  refine lv_iadd hx hb dL_law__2738 ?_
  refine va_sld hx hb hX hbl hbA hw.S hi1 dL_law__2739 ?_
  refine lv_aload_n hx hb dL_law__2740 rfl (lv_at hl 1 rfl) ?_
  refine lv_iload hx hb dL_law__2741 (lv_at hl 5 rfl) ?_
  refine lv_iconst (v := 2) hx hb dL_law__2743 (by decide) ?_
  refine lv_iadd hx hb dL_law__2744 ?_
  refine va_sld hx hb hX hbl hbA hw.S hi2 dL_law__2745 ?_
  refine lv_aload_n hx hb dL_law__2746 rfl (lv_at hl 1 rfl) ?_
  refine lv_iload hx hb dL_law__2747 (lv_at hl 5 rfl) ?_
  refine lv_iconst (v := 3) hx hb dL_law__2749 (by decide) ?_
  refine lv_iadd hx hb dL_law__2750 ?_
  refine va_sld hx hb hX hbl hbA hw.S hi3 dL_law__2751 ?_
  refine lv_aload_n hx hb dL_law__2752 rfl (lv_at hl 1 rfl) ?_
  refine lv_iload hx hb dL_law__2753 (lv_at hl 5 rfl) ?_
  refine lv_iconst (v := 4) hx hb dL_law__2755 (by decide) ?_
  refine lv_iadd hx hb dL_law__2756 ?_
  refine va_sld hx hb hX hbl hbA hw.S hi4 dL_law__2757 ?_
  refine lv_aload_n hx hb dL_law__2758 rfl (lv_at hl 1 rfl) ?_
  refine lv_iload hx hb dL_law__2759 (lv_at hl 5 rfl) ?_
  refine lv_iconst (v := 5) hx hb dL_law__2761 (by decide) ?_
  refine lv_iadd hx hb dL_law__2762 ?_
  refine va_sld hx hb hX hbl hbA hw.S hi5 dL_law__2763 ?_
  refine lv_aload_n hx hb dL_law__2764 rfl (lv_at hl 1 rfl) ?_
  refine lv_iload hx hb dL_law__2765 (lv_at hl 5 rfl) ?_
  refine lv_bipush (v := 6) hx hb dL_law__2767 (by decide) ?_
  refine lv_iadd hx hb dL_law__2769 ?_
  refine va_sld hx hb hX hbl hbA hw.S hi6 dL_law__2770 ?_
  refine pw_ci (va_runV (As := [.int (xs (Int32.toNatClampNeg (x4 + 1))), .int (xs (Int32.toNatClampNeg (x4 + 2))), .int (xs (Int32.toNatClampNeg (x4 + 3))), .int (xs (Int32.toNatClampNeg (x4 + 4))), .int (xs (Int32.toNatClampNeg (x4 + 5))), .int (xs (Int32.toNatClampNeg (x4 + 6)))]) (rest := []) ⟨hx, hb, hml, hown, hU⟩ (c_X12_span l C (XL C ao f1) n S1 hw.wf _ ma (xs (Int32.toNatClampNeg (x4 + 1))) (xs (Int32.toNatClampNeg (x4 + 2))) (xs (Int32.toNatClampNeg (x4 + 3))) (xs (Int32.toNatClampNeg (x4 + 4))) (xs (Int32.toNatClampNeg (x4 + 5))) (xs (Int32.toNatClampNeg (x4 + 6))) Tm b9 S2 hm2) (cwV 6 hU (pq_gV tw2109 tw2110 tw2111 tw14 tc_X12_span) rfl rfl rfl cd_X12_span ⟨Nat.le_of_ble_eq_true rfl, Nat.le_of_ble_eq_true rfl⟩) (pw_preV hw Tm (by decide) rfl) rfl rfl hl.1 rfl (lv_room (Nat.le_of_ble_eq_true rfl)) dL_law__2771 ⟨by show _ ≤ room_1.cells; omega, by show _ ≤ room_1.slots; omega⟩) hw (fun H locs hw hx2 => ?_)
  have Tm : TY S2 ma 12 := ty_ext hx2 Tm
  refine lv_istore (lv' := [(6, .int b9), (5, .int k), (0, .ref b), (1, .ref xa), (2, .ref ma), (3, .ref ao), (4, .int x4)]) hx hb dL_law__2774 hl (by decide) rfl (fun ls hl => ?_)
  refine lv_aload_n hx hb dL_law__2776 rfl (lv_at hl 4 rfl) ?_
  refine pw_ci (va_runV (As := []) (rest := []) ⟨hx, hb, hml, hown, hU⟩ (c_X12_thrown l C (XL C ao f1) n S2 hw.wf _ ma Tm (pI S2 1200 ma) S2 rfl) (cwV 0 hU (pq_gV tw1449 tw1450 tw1451 tw14 tc_X12_thrown) rfl rfl rfl cd_X12_thrown ⟨Nat.le_of_ble_eq_true rfl, Nat.le_of_ble_eq_true rfl⟩) (pw_preV hw Tm (by decide) rfl) rfl rfl hl.1 rfl (lv_room (Nat.le_of_ble_eq_true rfl)) dL_law__2777 ⟨by show _ ≤ room_1.cells; omega, by show _ ≤ room_1.slots; omega⟩) hw (fun H locs hw hx3 => ?_)
  refine lv_iload hx hb dL_law__2780 (lv_at hl 1 rfl) ?_
  refine lv_icmp_eq (tgt := 2787) hx hb dL_law__2782 (by decide) (fun _ => ?_) (fun h9 => absurd hth h9)
  refine lv_iload hx hb dL_law__2787 (lv_at hl 1 rfl) ?_
  refine lv_if_ne (tgt := 2804) hx hb dL_law__2789 (by decide) (fun _ => ?_) (fun h9 => ?_)
  · refine lv_goto (tgt := 3019) hx hb dL_law__2804 (by decide) ?_
    exact W.widen (by omega) (by omega) (hk S2 f1 _ _ ls hJ2 hw (lv_sub hl [2, 3, 4, 5, 6] rfl))
  · refine lv_aload_n hx hb dL_law__2792 rfl (lv_at hl 5 rfl) ?_
    refine lv_iconst (v := 0) hx hb dL_law__2793 (by decide) ?_
    refine pw_lald hx hb hw dL_law__2794 ?_
    refine lv_iload hx hb dL_law__2795 (lv_at hl 0 rfl) ?_
    refine lv_i2l (v := Int32.toInt64 b9) hx hb dL_law__2797 rfl ?_
    refine W.lcmp hx hb dL_law__2798 ?_
    refine lv_if_eq (tgt := 2804) hx hb dL_law__2799 (by decide) (fun _ => ?_) (fun h7 => absurd (lw_cmp0 (han h9)) h7)
    refine lv_goto (tgt := 3019) hx hb dL_law__2804 (by decide) ?_
    exact W.widen (by omega) (by omega) (hk S2 f1 _ _ ls hJ2 hw (lv_sub hl [2, 3, 4, 5, 6] rfl))
set_option maxHeartbeats 4000000 in
set_option maxRecDepth 100000 in
theorem lc_36 {p : Program} {l : Launch} {e : Env} {s : State} {m : MethodId} {below : List Frame} {meth : Method} {c : Code} {b L : Nat} {xs : Nat → Int32} (C0 : lw_At p s m meth c b L xs) (hst : l.stackTraces = false) (C : pq_C) (n xa ma ao : Nat) (J : pq_S → Prop) (hTY : ∀ S, J S → TY S xa 11 ∧ TY S ma 12) (hob : OB_36 n xa ma J) (x4 : Int32) (hi1 : vp_in (x4 + 1) L) (hi2 : vp_in (x4 + 2) L) (hi3 : vp_in (x4 + 3) L) (S : pq_S) (f : Nat → Int64) (H : Heap) (locs : List Loc) (ls : Array Slot) (cells slots : Nat) (hJ : J S) (hcc : cells + 200 ≤ room_1.cells) (hss : slots + 8000 ≤ room_1.slots) (hw : PW C (XL C ao f) S (lw_A s) H locs s) (hl : lv_has ls 8 [(0, .ref b), (1, .ref xa), (2, .ref ma), (3, .ref ao), (4, .int x4)]) (hk : ∀ (S2 : pq_S) (f2 : Nat → Int64) (H2 : Heap) (locs2 : List Loc) (ls2 : Array Slot), J S2 → PW C (XL C ao f2) S2 (lw_A s) H2 locs2 s → lv_has ls2 8 [(0, .ref b), (1, .ref xa), (2, .ref ma), (3, .ref ao), (4, .int x4)] → W p l e room_1 s m #[Value.ref b] below meth c H2 locs2 (cells + 200) (slots + 8000) (lw_Z below #[Value.ref b] s) (F0 m 3019 ls2 [])) : W p l e room_1 s m #[Value.ref b] below meth c H locs cells slots (lw_Z below #[Value.ref b] s) (F0 m 2807 ls []) := by
  obtain ⟨hx, hb, hr, hml, hown, hts, hX, hbl, hlocks, hgv⟩ := id C0
  have hb : c.code = cL_law_ := hb
  have hown : s.vm.findClass RL = some m.cls := hown
  have hbA : ¬ lw_A s b := Nat.not_le.mpr hbl
  have hU : ∀ w ∈ pq_U, w.before _ s = true := fun w h => hts w (List.mem_filter.mp h).1
  obtain ⟨Tx, Tm⟩ := hTY S hJ
  refine lv_aload_n hx hb dL_law__2807 rfl (lv_at hl 1 rfl) ?_
  refine lv_aload_n hx hb dL_law__2808 rfl (lv_at hl 0 rfl) ?_
  refine lv_iload hx hb dL_law__2809 (lv_at hl 4 rfl) ?_
  refine lv_iconst (v := 1) hx hb dL_law__2811 (by decide) ?_
  refine lv_iadd hx hb dL_law__2812 ?_
  refine va_sld hx hb hX hbl hbA hw.S hi1 dL_law__2813 ?_
  refine lv_aload_n hx hb dL_law__2814 rfl (lv_at hl 0 rfl) ?_
  refine lv_iload hx hb dL_law__2815 (lv_at hl 4 rfl) ?_
  refine lv_iconst (v := 2) hx hb dL_law__2817 (by decide) ?_
  refine lv_iadd hx hb dL_law__2818 ?_
  refine va_sld hx hb hX hbl hbA hw.S hi2 dL_law__2819 ?_
  refine lv_aload_n hx hb dL_law__2820 rfl (lv_at hl 0 rfl) ?_
  refine lv_iload hx hb dL_law__2821 (lv_at hl 4 rfl) ?_
  refine lv_iconst (v := 3) hx hb dL_law__2823 (by decide) ?_
  refine lv_iadd hx hb dL_law__2824 ?_
  refine va_sld hx hb hX hbl hbA hw.S hi3 dL_law__2825 ?_
  refine lv_aload_n hx hb dL_law__2826 rfl (lv_at hl 3 rfl) ?_
  obtain ⟨mc, ms, h1, h2, hm⟩ := hob S f hJ (xs (Int32.toNatClampNeg (x4 + 1))) (xs (Int32.toNatClampNeg (x4 + 2))) (xs (Int32.toNatClampNeg (x4 + 3)))
  refine vx_calli (vx_runSX (As := [.ref xa, .int (xs (Int32.toNatClampNeg (x4 + 1))), .int (xs (Int32.toNatClampNeg (x4 + 2))), .int (xs (Int32.toNatClampNeg (x4 + 3))), .ref ao]) (rest := []) ⟨hx, hb, hml, hown, hU⟩ (cl_L_ahead l C ao f n S hw.wf _ xa (xs (Int32.toNatClampNeg (x4 + 1))) (xs (Int32.toNatClampNeg (x4 + 2))) (xs (Int32.toNatClampNeg (x4 + 3))) Tx mc ms hst _ hm) (vx_cwSW 5 hU (pq_gS tw1422 tw1423 tw0 tc_L_ahead) rfl rfl rfl cd_L_ahead ⟨Nat.le_of_ble_eq_true rfl, Nat.le_of_ble_eq_true rfl⟩) (pw_preS hw) rfl rfl hl.1 rfl (lv_room (Nat.le_of_ble_eq_true rfl)) dL_law__2827 ⟨by show _ ≤ room_1.cells; omega, by show _ ≤ room_1.slots; omega⟩) hw.S (fun q _ h => pw_free hw q h) (pw_free hw) (fun q _ h => pw_free hw q h) (fun Es ce q9 u t H1 locs1 ht hvm hpx hB hz1 hk1 hS hce hcv hcl => hpx.elim) (fun k u t H1 locs1 ht hvm hq hB hz1 hk1 hS => ?_)
  obtain ⟨f1, S1⟩ := u
  obtain ⟨hK, hF1, hEx⟩ := hq
  dsimp only at hK hF1 hEx hB
  have hw : PW C (XL C ao f1) S1 (lw_A s) H1 locs1 s := pw_lpost hw ht hvm hF1 hB hS
  obtain ⟨b9, S2, hm2, hth, han, hJ2⟩ := hK
  have Tx : TY S1 xa 11 := ty_ext hEx Tx
  have Tm : TY S1 ma 12 := ty_ext hEx Tm
  refine lv_istore (lv' := [(5, .int k), (0, .ref b), (1, .ref xa), (2, .ref ma), (3, .ref ao), (4, .int x4)]) hx hb dL_law__2830 hl (by decide) rfl (fun ls hl => ?_)
  refine lv_aload_n hx hb dL_law__2832 rfl (lv_at hl 3 rfl) ?_
  refine lv_aload_n hx hb dL_law__2833 rfl (lv_at hl 1 rfl) ?_
  refine lv_iload hx hb dL_law__2834 (lv_at hl 5 rfl) ?_
  refine lv_iconst (v := 1) hx hb dL_law__2836 (by decide) ?_
  refine lv_iadd hx hb dL_law__2837 ?_
  refine va_sld hx hb hX hbl hbA hw.S hi1 dL_law__2838 ?_
  refine lv_aload_n hx hb dL_law__2839 rfl (lv_at hl 1 rfl) ?_
  refine lv_iload hx hb dL_law__2840 (lv_at hl 5 rfl) ?_
  refine lv_iconst (v := 2) hx hb dL_law__2842 (by decide) ?_
  refine lv_iadd hx hb dL_law__2843 ?_
  refine va_sld hx hb hX hbl hbA hw.S hi2 dL_law__2844 ?_
  refine lv_aload_n hx hb dL_law__2845 rfl (lv_at hl 1 rfl) ?_
  refine lv_iload hx hb dL_law__2846 (lv_at hl 5 rfl) ?_
  refine lv_iconst (v := 3) hx hb dL_law__2848 (by decide) ?_
  refine lv_iadd hx hb dL_law__2849 ?_
  refine va_sld hx hb hX hbl hbA hw.S hi3 dL_law__2850 ?_
  refine pw_ci (va_runV (As := [.int (xs (Int32.toNatClampNeg (x4 + 1))), .int (xs (Int32.toNatClampNeg (x4 + 2))), .int (xs (Int32.toNatClampNeg (x4 + 3)))]) (rest := []) ⟨hx, hb, hml, hown, hU⟩ (c_X12_ahead l C (XL C ao f1) n S1 hw.wf _ ma (xs (Int32.toNatClampNeg (x4 + 1))) (xs (Int32.toNatClampNeg (x4 + 2))) (xs (Int32.toNatClampNeg (x4 + 3))) Tm b9 S2 hm2) (cwV 3 hU (pq_gV tw2113 tw2114 tw2115 tw14 tc_X12_ahead) rfl rfl rfl cd_X12_ahead ⟨Nat.le_of_ble_eq_true rfl, Nat.le_of_ble_eq_true rfl⟩) (pw_preV hw Tm (by decide) rfl) rfl rfl hl.1 rfl (lv_room (Nat.le_of_ble_eq_true rfl)) dL_law__2851 ⟨by show _ ≤ room_1.cells; omega, by show _ ≤ room_1.slots; omega⟩) hw (fun H locs hw hx2 => ?_)
  have Tm : TY S2 ma 12 := ty_ext hx2 Tm
  refine lv_istore (lv' := [(6, .int b9), (5, .int k), (0, .ref b), (1, .ref xa), (2, .ref ma), (3, .ref ao), (4, .int x4)]) hx hb dL_law__2854 hl (by decide) rfl (fun ls hl => ?_)
  refine lv_aload_n hx hb dL_law__2856 rfl (lv_at hl 4 rfl) ?_
  refine pw_ci (va_runV (As := []) (rest := []) ⟨hx, hb, hml, hown, hU⟩ (c_X12_thrown l C (XL C ao f1) n S2 hw.wf _ ma Tm (pI S2 1200 ma) S2 rfl) (cwV 0 hU (pq_gV tw1449 tw1450 tw1451 tw14 tc_X12_thrown) rfl rfl rfl cd_X12_thrown ⟨Nat.le_of_ble_eq_true rfl, Nat.le_of_ble_eq_true rfl⟩) (pw_preV hw Tm (by decide) rfl) rfl rfl hl.1 rfl (lv_room (Nat.le_of_ble_eq_true rfl)) dL_law__2857 ⟨by show _ ≤ room_1.cells; omega, by show _ ≤ room_1.slots; omega⟩) hw (fun H locs hw hx3 => ?_)
  refine lv_iload hx hb dL_law__2860 (lv_at hl 1 rfl) ?_
  refine lv_icmp_eq (tgt := 2867) hx hb dL_law__2862 (by decide) (fun _ => ?_) (fun h9 => absurd hth h9)
  refine lv_iload hx hb dL_law__2867 (lv_at hl 1 rfl) ?_
  refine lv_if_ne (tgt := 2884) hx hb dL_law__2869 (by decide) (fun _ => ?_) (fun h9 => ?_)
  · refine lv_goto (tgt := 3019) hx hb dL_law__2884 (by decide) ?_
    exact W.widen (by omega) (by omega) (hk S2 f1 _ _ ls hJ2 hw (lv_sub hl [2, 3, 4, 5, 6] rfl))
  · refine lv_aload_n hx hb dL_law__2872 rfl (lv_at hl 5 rfl) ?_
    refine lv_iconst (v := 0) hx hb dL_law__2873 (by decide) ?_
    refine pw_lald hx hb hw dL_law__2874 ?_
    refine lv_iload hx hb dL_law__2875 (lv_at hl 0 rfl) ?_
    refine lv_i2l (v := Int32.toInt64 b9) hx hb dL_law__2877 rfl ?_
    refine W.lcmp hx hb dL_law__2878 ?_
    refine lv_if_eq (tgt := 2884) hx hb dL_law__2879 (by decide) (fun _ => ?_) (fun h7 => absurd (lw_cmp0 (han h9)) h7)
    refine lv_goto (tgt := 3019) hx hb dL_law__2884 (by decide) ?_
    exact W.widen (by omega) (by omega) (hk S2 f1 _ _ ls hJ2 hw (lv_sub hl [2, 3, 4, 5, 6] rfl))
set_option maxHeartbeats 4000000 in
set_option maxRecDepth 100000 in
theorem lc_37 {p : Program} {l : Launch} {e : Env} {s : State} {m : MethodId} {below : List Frame} {meth : Method} {c : Code} {b L : Nat} {xs : Nat → Int32} (C0 : lw_At p s m meth c b L xs) (hst : l.stackTraces = false) (C : pq_C) (n xa ma ao : Nat) (J : pq_S → Prop) (hTY : ∀ S, J S → TY S xa 11 ∧ TY S ma 12) (hob : OB_37 n xa ma J) (x4 : Int32) (hi1 : vp_in (x4 + 1) L) (S : pq_S) (f : Nat → Int64) (H : Heap) (locs : List Loc) (ls : Array Slot) (cells slots : Nat) (hJ : J S) (hcc : cells + 200 ≤ room_1.cells) (hss : slots + 8000 ≤ room_1.slots) (hw : PW C (XL C ao f) S (lw_A s) H locs s) (hl : lv_has ls 8 [(0, .ref b), (1, .ref xa), (2, .ref ma), (3, .ref ao), (4, .int x4)]) (hk : ∀ (S2 : pq_S) (f2 : Nat → Int64) (H2 : Heap) (locs2 : List Loc) (ls2 : Array Slot), J S2 → PW C (XL C ao f2) S2 (lw_A s) H2 locs2 s → lv_has ls2 8 [(0, .ref b), (1, .ref xa), (2, .ref ma), (3, .ref ao), (4, .int x4)] → W p l e room_1 s m #[Value.ref b] below meth c H2 locs2 (cells + 200) (slots + 8000) (lw_Z below #[Value.ref b] s) (F0 m 3019 ls2 [])) : W p l e room_1 s m #[Value.ref b] below meth c H locs cells slots (lw_Z below #[Value.ref b] s) (F0 m 2887 ls []) := by
  obtain ⟨hx, hb, hr, hml, hown, hts, hX, hbl, hlocks, hgv⟩ := id C0
  have hb : c.code = cL_law_ := hb
  have hown : s.vm.findClass RL = some m.cls := hown
  have hbA : ¬ lw_A s b := Nat.not_le.mpr hbl
  have hU : ∀ w ∈ pq_U, w.before _ s = true := fun w h => hts w (List.mem_filter.mp h).1
  obtain ⟨Tx, Tm⟩ := hTY S hJ
  refine lv_aload_n hx hb dL_law__2887 rfl (lv_at hl 1 rfl) ?_
  refine lv_aload_n hx hb dL_law__2888 rfl (lv_at hl 0 rfl) ?_
  refine lv_iload hx hb dL_law__2889 (lv_at hl 4 rfl) ?_
  refine lv_iconst (v := 1) hx hb dL_law__2891 (by decide) ?_
  refine lv_iadd hx hb dL_law__2892 ?_
  refine va_sld hx hb hX hbl hbA hw.S hi1 dL_law__2893 ?_
  refine lv_aload_n hx hb dL_law__2894 rfl (lv_at hl 3 rfl) ?_
  obtain ⟨mc, ms, h1, h2, hm⟩ := hob S f hJ (xs (Int32.toNatClampNeg (x4 + 1)))
  refine vx_calli (vx_runSX (As := [.ref xa, .int (xs (Int32.toNatClampNeg (x4 + 1))), .ref ao]) (rest := []) ⟨hx, hb, hml, hown, hU⟩ (cl_L_chosen l C ao f n S hw.wf _ xa (xs (Int32.toNatClampNeg (x4 + 1))) Tx mc ms hst _ hm) (vx_cwSW 3 hU (pq_gS tw1430 tw1431 tw0 tc_L_chosen) rfl rfl rfl cd_L_chosen ⟨Nat.le_of_ble_eq_true rfl, Nat.le_of_ble_eq_true rfl⟩) (pw_preS hw) rfl rfl hl.1 rfl (lv_room (Nat.le_of_ble_eq_true rfl)) dL_law__2895 ⟨by show _ ≤ room_1.cells; omega, by show _ ≤ room_1.slots; omega⟩) hw.S (fun q _ h => pw_free hw q h) (pw_free hw) (fun q _ h => pw_free hw q h) (fun Es ce q9 u t H1 locs1 ht hvm hpx hB hz1 hk1 hS hce hcv hcl => hpx.elim) (fun k u t H1 locs1 ht hvm hq hB hz1 hk1 hS => ?_)
  obtain ⟨f1, S1⟩ := u
  obtain ⟨hK, hF1, hEx⟩ := hq
  dsimp only at hK hF1 hEx hB
  have hw : PW C (XL C ao f1) S1 (lw_A s) H1 locs1 s := pw_lpost hw ht hvm hF1 hB hS
  obtain ⟨b9, S2, hm2, hth, han, hJ2⟩ := hK
  have Tx : TY S1 xa 11 := ty_ext hEx Tx
  have Tm : TY S1 ma 12 := ty_ext hEx Tm
  refine lv_istore (lv' := [(5, .int k), (0, .ref b), (1, .ref xa), (2, .ref ma), (3, .ref ao), (4, .int x4)]) hx hb dL_law__2898 hl (by decide) rfl (fun ls hl => ?_)
  refine lv_aload_n hx hb dL_law__2900 rfl (lv_at hl 3 rfl) ?_
  refine lv_aload_n hx hb dL_law__2901 rfl (lv_at hl 1 rfl) ?_
  refine lv_iload hx hb dL_law__2902 (lv_at hl 5 rfl) ?_
  refine lv_iconst (v := 1) hx hb dL_law__2904 (by decide) ?_
  refine lv_iadd hx hb dL_law__2905 ?_
  refine va_sld hx hb hX hbl hbA hw.S hi1 dL_law__2906 ?_
  refine pw_ci (va_runV (As := [.int (xs (Int32.toNatClampNeg (x4 + 1)))]) (rest := []) ⟨hx, hb, hml, hown, hU⟩ (c_X12_chosen l C (XL C ao f1) n S1 hw.wf _ ma (xs (Int32.toNatClampNeg (x4 + 1))) Tm b9 S2 hm2) (cwV 1 hU (pq_gV tw2117 tw2118 tw2119 tw14 tc_X12_chosen) rfl rfl rfl cd_X12_chosen ⟨Nat.le_of_ble_eq_true rfl, Nat.le_of_ble_eq_true rfl⟩) (pw_preV hw Tm (by decide) rfl) rfl rfl hl.1 rfl (lv_room (Nat.le_of_ble_eq_true rfl)) dL_law__2907 ⟨by show _ ≤ room_1.cells; omega, by show _ ≤ room_1.slots; omega⟩) hw (fun H locs hw hx2 => ?_)
  have Tm : TY S2 ma 12 := ty_ext hx2 Tm
  refine lv_istore (lv' := [(6, .int b9), (5, .int k), (0, .ref b), (1, .ref xa), (2, .ref ma), (3, .ref ao), (4, .int x4)]) hx hb dL_law__2910 hl (by decide) rfl (fun ls hl => ?_)
  refine lv_aload_n hx hb dL_law__2912 rfl (lv_at hl 4 rfl) ?_
  refine pw_ci (va_runV (As := []) (rest := []) ⟨hx, hb, hml, hown, hU⟩ (c_X12_thrown l C (XL C ao f1) n S2 hw.wf _ ma Tm (pI S2 1200 ma) S2 rfl) (cwV 0 hU (pq_gV tw1449 tw1450 tw1451 tw14 tc_X12_thrown) rfl rfl rfl cd_X12_thrown ⟨Nat.le_of_ble_eq_true rfl, Nat.le_of_ble_eq_true rfl⟩) (pw_preV hw Tm (by decide) rfl) rfl rfl hl.1 rfl (lv_room (Nat.le_of_ble_eq_true rfl)) dL_law__2913 ⟨by show _ ≤ room_1.cells; omega, by show _ ≤ room_1.slots; omega⟩) hw (fun H locs hw hx3 => ?_)
  refine lv_iload hx hb dL_law__2916 (lv_at hl 1 rfl) ?_
  refine lv_icmp_eq (tgt := 2923) hx hb dL_law__2918 (by decide) (fun _ => ?_) (fun h9 => absurd hth h9)
  refine lv_iload hx hb dL_law__2923 (lv_at hl 1 rfl) ?_
  refine lv_if_ne (tgt := 2940) hx hb dL_law__2925 (by decide) (fun _ => ?_) (fun h9 => ?_)
  · refine lv_goto (tgt := 3019) hx hb dL_law__2940 (by decide) ?_
    exact W.widen (by omega) (by omega) (hk S2 f1 _ _ ls hJ2 hw (lv_sub hl [2, 3, 4, 5, 6] rfl))
  · refine lv_aload_n hx hb dL_law__2928 rfl (lv_at hl 5 rfl) ?_
    refine lv_iconst (v := 0) hx hb dL_law__2929 (by decide) ?_
    refine pw_lald hx hb hw dL_law__2930 ?_
    refine lv_iload hx hb dL_law__2931 (lv_at hl 0 rfl) ?_
    refine lv_i2l (v := Int32.toInt64 b9) hx hb dL_law__2933 rfl ?_
    refine W.lcmp hx hb dL_law__2934 ?_
    refine lv_if_eq (tgt := 2940) hx hb dL_law__2935 (by decide) (fun _ => ?_) (fun h7 => absurd (lw_cmp0 (han h9)) h7)
    refine lv_goto (tgt := 3019) hx hb dL_law__2940 (by decide) ?_
    exact W.widen (by omega) (by omega) (hk S2 f1 _ _ ls hJ2 hw (lv_sub hl [2, 3, 4, 5, 6] rfl))
set_option maxHeartbeats 4000000 in
set_option maxRecDepth 100000 in
theorem lc_38 {p : Program} {l : Launch} {e : Env} {s : State} {m : MethodId} {below : List Frame} {meth : Method} {c : Code} {b L : Nat} {xs : Nat → Int32} (C0 : lw_At p s m meth c b L xs) (hst : l.stackTraces = false) (C : pq_C) (n xa ma ao : Nat) (J : pq_S → Prop) (hTY : ∀ S, J S → TY S xa 11 ∧ TY S ma 12) (hob : OB_38 n xa ma J) (x4 : Int32)  (S : pq_S) (f : Nat → Int64) (H : Heap) (locs : List Loc) (ls : Array Slot) (cells slots : Nat) (hJ : J S) (hcc : cells + 200 ≤ room_1.cells) (hss : slots + 8000 ≤ room_1.slots) (hw : PW C (XL C ao f) S (lw_A s) H locs s) (hl : lv_has ls 8 [(0, .ref b), (1, .ref xa), (2, .ref ma), (3, .ref ao), (4, .int x4)]) (hk : ∀ (S2 : pq_S) (f2 : Nat → Int64) (H2 : Heap) (locs2 : List Loc) (ls2 : Array Slot), J S2 → PW C (XL C ao f2) S2 (lw_A s) H2 locs2 s → lv_has ls2 8 [(0, .ref b), (1, .ref xa), (2, .ref ma), (3, .ref ao), (4, .int x4)] → W p l e room_1 s m #[Value.ref b] below meth c H2 locs2 (cells + 200) (slots + 8000) (lw_Z below #[Value.ref b] s) (F0 m 3019 ls2 [])) : W p l e room_1 s m #[Value.ref b] below meth c H locs cells slots (lw_Z below #[Value.ref b] s) (F0 m 2943 ls []) := by
  obtain ⟨hx, hb, hr, hml, hown, hts, hX, hbl, hlocks, hgv⟩ := id C0
  have hb : c.code = cL_law_ := hb
  have hown : s.vm.findClass RL = some m.cls := hown
  have hbA : ¬ lw_A s b := Nat.not_le.mpr hbl
  have hU : ∀ w ∈ pq_U, w.before _ s = true := fun w h => hts w (List.mem_filter.mp h).1
  obtain ⟨Tx, Tm⟩ := hTY S hJ
  refine lv_aload_n hx hb dL_law__2943 rfl (lv_at hl 1 rfl) ?_
  obtain ⟨mc, ms, h1, h2, hm⟩ := hob S hJ
  refine pw_wi (va_runV (As := []) (rest := []) ⟨hx, hb, hml, hown, hU⟩ (cw_X11_image l C (XL C ao f) n S hw.wf _ xa  Tx mc ms _ hm) (cwV 0 hU (pq_gV tw449 tw450 tw451 tw1 tc_X11_image) rfl rfl rfl cd_X11_image ⟨Nat.le_of_ble_eq_true rfl, Nat.le_of_ble_eq_true rfl⟩) (pw_preV hw Tx (by decide) rfl) rfl rfl hl.1 rfl (lv_room (Nat.le_of_ble_eq_true rfl)) dL_law__2944 ⟨by show _ ≤ room_1.cells; omega, by show _ ≤ room_1.slots; omega⟩) hw (fun r S1 H locs hm hw hx1 => ?_)
  obtain ⟨S2, hm2, hJ2⟩ := hm
  have Tm : TY S1 ma 12 := ty_ext hx1 Tm
  refine lv_aload_n hx hb dL_law__2947 rfl (lv_at hl 2 rfl) ?_
  refine pw_ci (va_runV (As := []) (rest := [.int r]) ⟨hx, hb, hml, hown, hU⟩ (c_X12_image l C (XL C ao f) n S1 hw.wf _ ma  Tm r S2 hm2) (cwV 0 hU (pq_gV tw2125 tw2126 tw2127 tw14 tc_X12_image) rfl rfl rfl cd_X12_image ⟨Nat.le_of_ble_eq_true rfl, Nat.le_of_ble_eq_true rfl⟩) (pw_preV hw Tm (by decide) rfl) rfl rfl hl.1 rfl (lv_room (Nat.le_of_ble_eq_true rfl)) dL_law__2948 ⟨by show _ ≤ room_1.cells; omega, by show _ ≤ room_1.slots; omega⟩) hw (fun H locs hw hx2 => ?_)
  refine lv_icmp_eq (tgt := 3019) hx hb dL_law__2951 (by decide) (fun _ => ?_) (fun h9 => absurd rfl h9)
  exact W.widen (by omega) (by omega) (hk S2 f _ _ ls hJ2 hw (lv_sub hl [0, 1, 2, 3, 4] rfl))
set_option maxHeartbeats 4000000 in
set_option maxRecDepth 100000 in
theorem lc_39 {p : Program} {l : Launch} {e : Env} {s : State} {m : MethodId} {below : List Frame} {meth : Method} {c : Code} {b L : Nat} {xs : Nat → Int32} (C0 : lw_At p s m meth c b L xs) (hst : l.stackTraces = false) (C : pq_C) (n xa ma ao : Nat) (J : pq_S → Prop) (hTY : ∀ S, J S → TY S xa 11 ∧ TY S ma 12) (hob : OB_39 n xa ma J) (x4 : Int32)  (S : pq_S) (f : Nat → Int64) (H : Heap) (locs : List Loc) (ls : Array Slot) (cells slots : Nat) (hJ : J S) (hcc : cells + 200 ≤ room_1.cells) (hss : slots + 8000 ≤ room_1.slots) (hw : PW C (XL C ao f) S (lw_A s) H locs s) (hl : lv_has ls 8 [(0, .ref b), (1, .ref xa), (2, .ref ma), (3, .ref ao), (4, .int x4)]) (hk : ∀ (S2 : pq_S) (f2 : Nat → Int64) (H2 : Heap) (locs2 : List Loc) (ls2 : Array Slot), J S2 → PW C (XL C ao f2) S2 (lw_A s) H2 locs2 s → lv_has ls2 8 [(0, .ref b), (1, .ref xa), (2, .ref ma), (3, .ref ao), (4, .int x4)] → W p l e room_1 s m #[Value.ref b] below meth c H2 locs2 (cells + 200) (slots + 8000) (lw_Z below #[Value.ref b] s) (F0 m 3019 ls2 [])) : W p l e room_1 s m #[Value.ref b] below meth c H locs cells slots (lw_Z below #[Value.ref b] s) (F0 m 2956 ls []) := by
  obtain ⟨hx, hb, hr, hml, hown, hts, hX, hbl, hlocks, hgv⟩ := id C0
  have hb : c.code = cL_law_ := hb
  have hown : s.vm.findClass RL = some m.cls := hown
  have hbA : ¬ lw_A s b := Nat.not_le.mpr hbl
  have hU : ∀ w ∈ pq_U, w.before _ s = true := fun w h => hts w (List.mem_filter.mp h).1
  obtain ⟨Tx, Tm⟩ := hTY S hJ
  refine lv_aload_n hx hb dL_law__2956 rfl (lv_at hl 1 rfl) ?_
  obtain ⟨mc, ms, h1, h2, hm⟩ := hob S hJ
  refine pw_wi (va_runV (As := []) (rest := []) ⟨hx, hb, hml, hown, hU⟩ (cw_X11_restore l C (XL C ao f) n S hw.wf _ xa  Tx mc ms _ hm) (cwV 0 hU (pq_gV tw466 tw467 tw468 tw1 tc_X11_restore) rfl rfl rfl cd_X11_restore ⟨Nat.le_of_ble_eq_true rfl, Nat.le_of_ble_eq_true rfl⟩) (pw_preV hw Tx (by decide) rfl) rfl rfl hl.1 rfl (lv_room (Nat.le_of_ble_eq_true rfl)) dL_law__2957 ⟨by show _ ≤ room_1.cells; omega, by show _ ≤ room_1.slots; omega⟩) hw (fun r S1 H locs hm hw hx1 => ?_)
  obtain ⟨S2, hm2, hJ2⟩ := hm
  have Tm : TY S1 ma 12 := ty_ext hx1 Tm
  refine lv_aload_n hx hb dL_law__2960 rfl (lv_at hl 2 rfl) ?_
  refine pw_ci (va_runV (As := []) (rest := [.int r]) ⟨hx, hb, hml, hown, hU⟩ (c_X12_restore l C (XL C ao f) n S1 hw.wf _ ma  Tm r S2 hm2) (cwV 0 hU (pq_gV tw2137 tw2138 tw2139 tw14 tc_X12_restore) rfl rfl rfl cd_X12_restore ⟨Nat.le_of_ble_eq_true rfl, Nat.le_of_ble_eq_true rfl⟩) (pw_preV hw Tm (by decide) rfl) rfl rfl hl.1 rfl (lv_room (Nat.le_of_ble_eq_true rfl)) dL_law__2961 ⟨by show _ ≤ room_1.cells; omega, by show _ ≤ room_1.slots; omega⟩) hw (fun H locs hw hx2 => ?_)
  refine lv_icmp_eq (tgt := 3019) hx hb dL_law__2964 (by decide) (fun _ => ?_) (fun h9 => absurd rfl h9)
  exact W.widen (by omega) (by omega) (hk S2 f _ _ ls hJ2 hw (lv_sub hl [0, 1, 2, 3, 4] rfl))
set_option maxHeartbeats 4000000 in
set_option maxRecDepth 100000 in
theorem lc_40 {p : Program} {l : Launch} {e : Env} {s : State} {m : MethodId} {below : List Frame} {meth : Method} {c : Code} {b L : Nat} {xs : Nat → Int32} (C0 : lw_At p s m meth c b L xs) (hst : l.stackTraces = false) (C : pq_C) (n xa ma ao : Nat) (J : pq_S → Prop) (hTY : ∀ S, J S → TY S xa 11 ∧ TY S ma 12) (hob : OB_40 n xa ma J) (x4 : Int32) (hi1 : vp_in (x4 + 1) L) (S : pq_S) (f : Nat → Int64) (H : Heap) (locs : List Loc) (ls : Array Slot) (cells slots : Nat) (hJ : J S) (hcc : cells + 200 ≤ room_1.cells) (hss : slots + 8000 ≤ room_1.slots) (hw : PW C (XL C ao f) S (lw_A s) H locs s) (hl : lv_has ls 8 [(0, .ref b), (1, .ref xa), (2, .ref ma), (3, .ref ao), (4, .int x4)]) (hk : ∀ (S2 : pq_S) (f2 : Nat → Int64) (H2 : Heap) (locs2 : List Loc) (ls2 : Array Slot), J S2 → PW C (XL C ao f2) S2 (lw_A s) H2 locs2 s → lv_has ls2 8 [(0, .ref b), (1, .ref xa), (2, .ref ma), (3, .ref ao), (4, .int x4)] → W p l e room_1 s m #[Value.ref b] below meth c H2 locs2 (cells + 200) (slots + 8000) (lw_Z below #[Value.ref b] s) (F0 m 3019 ls2 [])) : W p l e room_1 s m #[Value.ref b] below meth c H locs cells slots (lw_Z below #[Value.ref b] s) (F0 m 2969 ls []) := by
  obtain ⟨hx, hb, hr, hml, hown, hts, hX, hbl, hlocks, hgv⟩ := id C0
  have hb : c.code = cL_law_ := hb
  have hown : s.vm.findClass RL = some m.cls := hown
  have hbA : ¬ lw_A s b := Nat.not_le.mpr hbl
  have hU : ∀ w ∈ pq_U, w.before _ s = true := fun w h => hts w (List.mem_filter.mp h).1
  obtain ⟨Tx, Tm⟩ := hTY S hJ
  refine lv_aload_n hx hb dL_law__2969 rfl (lv_at hl 1 rfl) ?_
  refine lv_aload_n hx hb dL_law__2970 rfl (lv_at hl 0 rfl) ?_
  refine lv_iload hx hb dL_law__2971 (lv_at hl 4 rfl) ?_
  refine lv_iconst (v := 1) hx hb dL_law__2973 (by decide) ?_
  refine lv_iadd hx hb dL_law__2974 ?_
  refine va_sld hx hb hX hbl hbA hw.S hi1 dL_law__2975 ?_
  obtain ⟨r, S1, S2, hm1, hm2, hJ2⟩ := hob S hJ (xs (Int32.toNatClampNeg (x4 + 1)))
  refine pw_ci (va_runV (As := [.int (xs (Int32.toNatClampNeg (x4 + 1)))]) (rest := []) ⟨hx, hb, hml, hown, hU⟩ (c_X11_status l C (XL C ao f) n S hw.wf _ xa (xs (Int32.toNatClampNeg (x4 + 1))) Tx r S1 hm1) (cwV 1 hU (pq_gV tw470 tw471 tw472 tw1 tc_X11_status) rfl rfl rfl cd_X11_status ⟨Nat.le_of_ble_eq_true rfl, Nat.le_of_ble_eq_true rfl⟩) (pw_preV hw Tx (by decide) rfl) rfl rfl hl.1 rfl (lv_room (Nat.le_of_ble_eq_true rfl)) dL_law__2976 ⟨by show _ ≤ room_1.cells; omega, by show _ ≤ room_1.slots; omega⟩) hw (fun H locs hw hx1 => ?_)
  have Tm : TY S1 ma 12 := ty_ext hx1 Tm
  refine lv_aload_n hx hb dL_law__2979 rfl (lv_at hl 2 rfl) ?_
  refine lv_aload_n hx hb dL_law__2980 rfl (lv_at hl 0 rfl) ?_
  refine lv_iload hx hb dL_law__2981 (lv_at hl 4 rfl) ?_
  refine lv_iconst (v := 1) hx hb dL_law__2983 (by decide) ?_
  refine lv_iadd hx hb dL_law__2984 ?_
  refine va_sld hx hb hX hbl hbA hw.S hi1 dL_law__2985 ?_
  refine pw_ci (va_runV (As := [.int (xs (Int32.toNatClampNeg (x4 + 1)))]) (rest := [.int r]) ⟨hx, hb, hml, hown, hU⟩ (c_X12_status l C (XL C ao f) n S1 hw.wf _ ma (xs (Int32.toNatClampNeg (x4 + 1))) Tm r S2 hm2) (cwV 1 hU (pq_gV tw2141 tw2142 tw2143 tw14 tc_X12_status) rfl rfl rfl cd_X12_status ⟨Nat.le_of_ble_eq_true rfl, Nat.le_of_ble_eq_true rfl⟩) (pw_preV hw Tm (by decide) rfl) rfl rfl hl.1 rfl (lv_room (Nat.le_of_ble_eq_true rfl)) dL_law__2986 ⟨by show _ ≤ room_1.cells; omega, by show _ ≤ room_1.slots; omega⟩) hw (fun H locs hw hx2 => ?_)
  refine lv_icmp_eq (tgt := 3019) hx hb dL_law__2989 (by decide) (fun _ => ?_) (fun h9 => absurd rfl h9)
  exact W.widen (by omega) (by omega) (hk S2 f _ _ ls hJ2 hw (lv_sub hl [0, 1, 2, 3, 4] rfl))
set_option maxHeartbeats 4000000 in
set_option maxRecDepth 100000 in
theorem lc_41 {p : Program} {l : Launch} {e : Env} {s : State} {m : MethodId} {below : List Frame} {meth : Method} {c : Code} {b L : Nat} {xs : Nat → Int32} (C0 : lw_At p s m meth c b L xs) (hst : l.stackTraces = false) (C : pq_C) (n xa ma ao : Nat) (J : pq_S → Prop) (hTY : ∀ S, J S → TY S xa 11 ∧ TY S ma 12) (hob : OB_41 n xa ma J) (x4 : Int32) (hi1 : vp_in (x4 + 1) L) (S : pq_S) (f : Nat → Int64) (H : Heap) (locs : List Loc) (ls : Array Slot) (cells slots : Nat) (hJ : J S) (hcc : cells + 200 ≤ room_1.cells) (hss : slots + 8000 ≤ room_1.slots) (hw : PW C (XL C ao f) S (lw_A s) H locs s) (hl : lv_has ls 8 [(0, .ref b), (1, .ref xa), (2, .ref ma), (3, .ref ao), (4, .int x4)]) (hk : ∀ (S2 : pq_S) (f2 : Nat → Int64) (H2 : Heap) (locs2 : List Loc) (ls2 : Array Slot), J S2 → PW C (XL C ao f2) S2 (lw_A s) H2 locs2 s → lv_has ls2 8 [(0, .ref b), (1, .ref xa), (2, .ref ma), (3, .ref ao), (4, .int x4)] → W p l e room_1 s m #[Value.ref b] below meth c H2 locs2 (cells + 200) (slots + 8000) (lw_Z below #[Value.ref b] s) (F0 m 3019 ls2 [])) : W p l e room_1 s m #[Value.ref b] below meth c H locs cells slots (lw_Z below #[Value.ref b] s) (F0 m 2994 ls []) := by
  obtain ⟨hx, hb, hr, hml, hown, hts, hX, hbl, hlocks, hgv⟩ := id C0
  have hb : c.code = cL_law_ := hb
  have hown : s.vm.findClass RL = some m.cls := hown
  have hbA : ¬ lw_A s b := Nat.not_le.mpr hbl
  have hU : ∀ w ∈ pq_U, w.before _ s = true := fun w h => hts w (List.mem_filter.mp h).1
  obtain ⟨Tx, Tm⟩ := hTY S hJ
  refine lv_aload_n hx hb dL_law__2994 rfl (lv_at hl 1 rfl) ?_
  refine lv_aload_n hx hb dL_law__2995 rfl (lv_at hl 0 rfl) ?_
  refine lv_iload hx hb dL_law__2996 (lv_at hl 4 rfl) ?_
  refine lv_iconst (v := 1) hx hb dL_law__2998 (by decide) ?_
  refine lv_iadd hx hb dL_law__2999 ?_
  refine va_sld hx hb hX hbl hbA hw.S hi1 dL_law__3000 ?_
  obtain ⟨r, S1, S2, hm1, hm2, hJ2⟩ := hob S hJ (xs (Int32.toNatClampNeg (x4 + 1)))
  refine pw_ci (va_runV (As := [.int (xs (Int32.toNatClampNeg (x4 + 1)))]) (rest := []) ⟨hx, hb, hml, hown, hU⟩ (c_X11_count l C (XL C ao f) n S hw.wf _ xa (xs (Int32.toNatClampNeg (x4 + 1))) Tx r S1 hm1) (cwV 1 hU (pq_gV tw474 tw475 tw476 tw1 tc_X11_count) rfl rfl rfl cd_X11_count ⟨Nat.le_of_ble_eq_true rfl, Nat.le_of_ble_eq_true rfl⟩) (pw_preV hw Tx (by decide) rfl) rfl rfl hl.1 rfl (lv_room (Nat.le_of_ble_eq_true rfl)) dL_law__3001 ⟨by show _ ≤ room_1.cells; omega, by show _ ≤ room_1.slots; omega⟩) hw (fun H locs hw hx1 => ?_)
  have Tm : TY S1 ma 12 := ty_ext hx1 Tm
  refine lv_aload_n hx hb dL_law__3004 rfl (lv_at hl 2 rfl) ?_
  refine lv_aload_n hx hb dL_law__3005 rfl (lv_at hl 0 rfl) ?_
  refine lv_iload hx hb dL_law__3006 (lv_at hl 4 rfl) ?_
  refine lv_iconst (v := 1) hx hb dL_law__3008 (by decide) ?_
  refine lv_iadd hx hb dL_law__3009 ?_
  refine va_sld hx hb hX hbl hbA hw.S hi1 dL_law__3010 ?_
  refine pw_ci (va_runV (As := [.int (xs (Int32.toNatClampNeg (x4 + 1)))]) (rest := [.int r]) ⟨hx, hb, hml, hown, hU⟩ (c_X12_count l C (XL C ao f) n S1 hw.wf _ ma (xs (Int32.toNatClampNeg (x4 + 1))) Tm r S2 hm2) (cwV 1 hU (pq_gV tw2145 tw2146 tw2147 tw14 tc_X12_count) rfl rfl rfl cd_X12_count ⟨Nat.le_of_ble_eq_true rfl, Nat.le_of_ble_eq_true rfl⟩) (pw_preV hw Tm (by decide) rfl) rfl rfl hl.1 rfl (lv_room (Nat.le_of_ble_eq_true rfl)) dL_law__3011 ⟨by show _ ≤ room_1.cells; omega, by show _ ≤ room_1.slots; omega⟩) hw (fun H locs hw hx2 => ?_)
  refine lv_icmp_eq (tgt := 3019) hx hb dL_law__3014 (by decide) (fun _ => ?_) (fun h9 => absurd rfl h9)
  exact W.widen (by omega) (by omega) (hk S2 f _ _ ls hJ2 hw (lv_sub hl [0, 1, 2, 3, 4] rfl))
