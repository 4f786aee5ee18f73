abbrev pq_vwCl : List vw_C := vwCl
abbrev pq_S : Type := List Nat × (Nat → Nat) × (Nat → Nat → Int32) × (Nat → Nat → Option Nat) × (Nat → Nat) × (Nat → Nat → Int32) × (Nat → Nat → Option Nat)
def pL (S : pq_S) : List Nat := S.1
def pK (S : pq_S) : Nat → Nat := S.2.1
def pI (S : pq_S) : Nat → Nat → Int32 := S.2.2.1
def pR (S : pq_S) : Nat → Nat → Option Nat := S.2.2.2.1
def pN (S : pq_S) : Nat → Nat := S.2.2.2.2.1
def pA (S : pq_S) : Nat → Nat → Int32 := S.2.2.2.2.2.1
def pQ (S : pq_S) : Nat → Nat → Option Nat := S.2.2.2.2.2.2
def sI (S : pq_S) (f a : Nat) (v : Int32) : pq_S := (pL S, pK S, fun f1 a1 => if f1 = f ∧ a1 = a then v else pI S f1 a1, pR S, pN S, pA S, pQ S)
def sR (S : pq_S) (f a : Nat) (v : Option Nat) : pq_S := (pL S, pK S, pI S, fun f1 a1 => if f1 = f ∧ a1 = a then v else pR S f1 a1, pN S, pA S, pQ S)
def sA (S : pq_S) (a i : Nat) (v : Int32) : pq_S := (pL S, pK S, pI S, pR S, pN S, fun a1 i1 => if a1 = a ∧ i1 = i then v else pA S a1 i1, pQ S)
def sF (S : pq_S) (a : Nat) (g : Nat → Int32) : pq_S := (pL S, pK S, pI S, pR S, pN S, fun a1 i1 => if a1 = a then g i1 else pA S a1 i1, pQ S)
def sQ (S : pq_S) (a i : Nat) (v : Option Nat) : pq_S := (pL S, pK S, pI S, pR S, pN S, pA S, fun a1 i1 => if a1 = a ∧ i1 = i then v else pQ S a1 i1)
def nO (S : pq_S) (a k : Nat) : pq_S := (pL S ++ [a], fun a1 => if a1 = a then k else pK S a1, fun f1 a1 => if a1 = a then 0 else pI S f1 a1, fun f1 a1 => if a1 = a then none else pR S f1 a1, pN S, pA S, pQ S)
def nA (S : pq_S) (a k n : Nat) : pq_S := (pL S ++ [a], fun a1 => if a1 = a then k else pK S a1, pI S, pR S, fun a1 => if a1 = a then n else pN S a1, fun a1 i1 => if a1 = a then 0 else pA S a1 i1, fun a1 i1 => if a1 = a then none else pQ S a1 i1)
def pq_nfL : List Nat := [2, 6, 5, 9, 7, 2, 4, 6, 5, 3, 7, 17, 73]
def pq_nf (k : Nat) : Nat := pq_nfL.getD k 0
def pq_refL : List (List Nat) := [[1, 0], [1, 1, 1, 1, 0, 0], [1, 1, 1, 0, 0], [1, 1, 1, 1, 0, 0, 0, 0, 0], [1, 1, 1, 1, 1, 0, 0], [1, 0], [1, 0, 0, 0], [1, 1, 1, 1, 0, 0], [1, 1, 1, 0, 0], [1, 0, 0], [1, 0, 0, 0, 0, 0, 0], [1, 1, 1, 1, 1, 1, 1, 1, 1, 1, 1, 1, 0, 0, 0, 0, 0], [0, 1, 0, 0, 0, 0, 0, 0, 0, 1, 1, 1, 1, 1, 1, 1, 1, 1, 0, 0, 0, 0, 0, 0, 0, 0, 0, 0, 0, 0, 1, 1, 1, 1, 1, 1, 0, 1, 1, 1, 0, 0, 0, 0, 0, 0, 1, 1, 1, 1, 1, 0, 1, 0, 0, 0, 0, 0, 0, 1, 1, 0, 1, 1, 1, 0, 0, 0, 0, 0, 0, 1, 0]]
def pq_ref (k j : Nat) : Bool := (pq_refL.getD k []).getD j 0 == 1
def pq_tyL : List (List Nat) := [[14, 0], [9, 9, 9, 9, 0, 0], [14, 14, 14, 0, 0], [7, 14, 14, 14, 0, 0, 0, 0, 0], [7, 14, 14, 14, 14, 0, 0], [16, 0], [9, 0, 0, 0], [1, 8, 2, 2, 0, 0], [9, 9, 9, 0, 0], [14, 0, 0], [13, 0, 0, 0, 0, 0, 0], [10, 7, 3, 4, 6, 1, 2, 0, 0, 5, 15, 14, 0, 0, 0, 0, 0], [0, 14, 0, 0, 0, 0, 0, 0, 0, 14, 14, 14, 14, 14, 14, 14, 14, 14, 0, 0, 0, 0, 0, 0, 0, 0, 0, 0, 0, 0, 14, 14, 14, 14, 14, 14, 0, 14, 14, 14, 0, 0, 0, 0, 0, 0, 14, 14, 14, 14, 14, 0, 14, 0, 0, 0, 0, 0, 0, 14, 14, 0, 14, 14, 14, 0, 0, 0, 0, 0, 0, 14, 0]]
def pq_ty (k j : Nat) : Nat := (pq_tyL.getD k []).getD j 0
def pq_v (S : pq_S) (k a j : Nat) : Value := if pq_ref k j = true then va_rf (pR S (100 * k + j) a) else .int (pI S (100 * k + j) a)
def pq_fs (S : pq_S) (k a : Nat) : List Value := (List.range (pq_nf k)).map (pq_v S k a)
def pq_e (cB cI cP cS : ClassId) (S : pq_S) (a : Nat) : va_E := if pK S a = 13 then .inl (cB, pN S a, .inl (pA S a)) else if pK S a = 14 then .inl (cI, pN S a, .inl (pA S a)) else if pK S a = 15 then .inl (cP, pN S a, .inr (.inr (.inr (.inr (pQ S a))))) else if pK S a = 16 then .inl (cS, pN S a, .inr (.inr (.inr (.inr (pQ S a))))) else .inr (pK S a, pq_fs S (pK S a) a)
abbrev pq_W (cB cI cP cS : ClassId) (X : va_W) (S : pq_S) : va_W := X ++ va_pl (pL S) (pq_e cB cI cP cS S)
/-- a is an address of the pool, of kind k -/
def TY (S : pq_S) (a k : Nat) : Prop := a ∈ pL S ∧ pK S a = k
/-- every reference of the pool is null or of its kind -/
def WF (S : pq_S) : Prop := (∀ a k j b : Nat, TY S a k → k < 13 → j < pq_nf k → pR S (100 * k + j) a = some b → TY S b (pq_ty k j)) ∧ (∀ a i b : Nat, TY S a 15 → pQ S a i = some b → TY S b 5) ∧ (∀ a i b : Nat, TY S a 16 → pQ S a i = some b → TY S b 8)
def Ext (S T : pq_S) : Prop := ∀ a k : Nat, TY S a k → TY T a k
theorem Ext.rf (S : pq_S) : Ext S S := fun _ _ h => h
theorem Ext.tr {S T U : pq_S} (h1 : Ext S T) (h2 : Ext T U) : Ext S U := fun a k h => h2 a k (h1 a k h)
theorem WF.ref {S : pq_S} (h : WF S) {a k j b : Nat} (hT : TY S a k) (hk : k < 13) (hj : j < pq_nf k) (hq : pR S (100 * k + j) a = some b) : TY S b (pq_ty k j) := h.1 a k j b hT hk hj hq
theorem WF.sI {S : pq_S} (h : WF S) (f a : Nat) (v : Int32) : WF (sI S f a v) := h
theorem WF.sA {S : pq_S} (h : WF S) (a i : Nat) (v : Int32) : WF (sA S a i v) := h
theorem WF.sF {S : pq_S} (h : WF S) (a : Nat) (g : Nat → Int32) : WF (sF S a g) := h
theorem WF.sR {S : pq_S} (h : WF S) {k j a b : Nat} (hT : TY S a k) (hk : k < 13) (hj : j < pq_nf k) (hn : ∀ k : Nat, k < 13 → pq_nf k ≤ 100) (hb : TY S b (pq_ty k j)) : WF (sR S (100 * k + j) a (some b)) := by
  refine ⟨fun a1 k1 j1 b1 h1 h2 h3 h4 => ?_, h.2.1, h.2.2⟩
  have h4' : (if 100 * k1 + j1 = 100 * k + j ∧ a1 = a then some b else pR S (100 * k1 + j1) a1) = some b1 := h4
  have h1' : TY S a1 k1 := h1
  by_cases hc : 100 * k1 + j1 = 100 * k + j ∧ a1 = a
  · rw [if_pos hc] at h4'
    have e1 : k1 = k := by have := hn k hk; have := hn k1 h2; omega
    have e2 : j1 = j := by omega
    subst e1; subst e2
    cases h4'
    exact hb
  · rw [if_neg hc] at h4'
    exact h.1 a1 k1 j1 b1 h1' h2 h3 h4'
theorem WF.sQ {S : pq_S} (h : WF S) {a i b k : Nat} (hT : TY S a k) (hk : (k = 15 ∧ TY S b 5) ∨ (k = 16 ∧ TY S b 8)) : WF (sQ S a i (some b)) := by
  refine ⟨h.1, fun a1 i1 b1 h1 h2 => ?_, fun a1 i1 b1 h1 h2 => ?_⟩
  · have h2' : (if a1 = a ∧ i1 = i then some b else pQ S a1 i1) = some b1 := h2
    have h1' : TY S a1 15 := h1
    by_cases hc : a1 = a ∧ i1 = i
    · rw [if_pos hc] at h2'
      cases h2'
      rcases hk with ⟨e, hb⟩ | ⟨e, hb⟩
      · exact hb
      · exfalso
        have := hT.2.symm.trans (hc.1 ▸ h1'.2)
        omega
    · rw [if_neg hc] at h2'
      exact h.2.1 a1 i1 b1 h1' h2'
  · have h2' : (if a1 = a ∧ i1 = i then some b else pQ S a1 i1) = some b1 := h2
    have h1' : TY S a1 16 := h1
    by_cases hc : a1 = a ∧ i1 = i
    · rw [if_pos hc] at h2'
      cases h2'
      rcases hk with ⟨e, hb⟩ | ⟨e, hb⟩
      · exfalso
        have := hT.2.symm.trans (hc.1 ▸ h1'.2)
        omega
      · exact hb
    · rw [if_neg hc] at h2'
      exact h.2.2 a1 i1 b1 h1' h2'
theorem pq_nf100 : ∀ k : Nat, k < 13 → pq_nf k ≤ 100 := by decide +kernel
theorem pq_pos {cB cI cP cS : ClassId} {S : pq_S} {a k : Nat} (h : TY S a k) (hk : k < 13) : pq_e cB cI cP cS S a = .inr (k, pq_fs S k a) := by
  have := h.2
  subst this
  unfold pq_e
  rw [if_neg (by omega), if_neg (by omega), if_neg (by omega), if_neg (by omega)]
theorem pq_get {cB cI cP cS : ClassId} (X : va_W) {S : pq_S} {a k : Nat} (h : TY S a k) (hk : k < 13) : ∃ q : Nat, (pq_W cB cI cP cS X S)[q]? = some (a, .inr (k, pq_fs S k a)) := by
  obtain ⟨q, hq⟩ := va_pl_get (X := X) (f := pq_e cB cI cP cS S) h.1
  exact ⟨q, by rw [hq, pq_pos h hk]⟩
theorem pq_getI {cB cI cP cS : ClassId} (X : va_W) {S : pq_S} {a : Nat} (h : TY S a 14) : ∃ q : Nat, (pq_W cB cI cP cS X S)[q]? = some (a, .inl (cI, pN S a, .inl (pA S a))) := by
  obtain ⟨q, hq⟩ := va_pl_get (X := X) (f := pq_e cB cI cP cS S) h.1
  exact ⟨q, by rw [hq]; simp [pq_e, h.2]⟩
theorem pq_getB {cB cI cP cS : ClassId} (X : va_W) {S : pq_S} {a : Nat} (h : TY S a 13) : ∃ q : Nat, (pq_W cB cI cP cS X S)[q]? = some (a, .inl (cB, pN S a, .inl (pA S a))) := by
  obtain ⟨q, hq⟩ := va_pl_get (X := X) (f := pq_e cB cI cP cS S) h.1
  exact ⟨q, by rw [hq]; simp [pq_e, h.2]⟩
theorem pq_getP {cB cI cP cS : ClassId} (X : va_W) {S : pq_S} {a : Nat} (h : TY S a 15) : ∃ q : Nat, (pq_W cB cI cP cS X S)[q]? = some (a, .inl (cP, pN S a, .inr (.inr (.inr (.inr (pQ S a)))))) := by
  obtain ⟨q, hq⟩ := va_pl_get (X := X) (f := pq_e cB cI cP cS S) h.1
  exact ⟨q, by rw [hq]; simp [pq_e, h.2]⟩
theorem pq_getS {cB cI cP cS : ClassId} (X : va_W) {S : pq_S} {a : Nat} (h : TY S a 16) : ∃ q : Nat, (pq_W cB cI cP cS X S)[q]? = some (a, .inl (cS, pN S a, .inr (.inr (.inr (.inr (pQ S a)))))) := by
  obtain ⟨q, hq⟩ := va_pl_get (X := X) (f := pq_e cB cI cP cS S) h.1
  exact ⟨q, by rw [hq]; simp [pq_e, h.2]⟩
theorem pq_fsAt {S : pq_S} {k a j : Nat} (hj : j < pq_nf k) : (pq_fs S k a)[j]? = some (pq_v S k a j) := by
  unfold pq_fs
  rw [List.getElem?_map, List.getElem?_range hj]
  rfl
theorem pq_fsLen {S : pq_S} {k a : Nat} : (pq_fs S k a).length = pq_nf k := by simp [pq_fs]
/-- a world's row at q, set anew -/
theorem pq_setW {cB cI cP cS : ClassId} {X : va_W} {S T : pq_S} {A : Nat → Prop} {a q : Nat} {e : va_E} (hD : va_D A (pq_W cB cI cP cS X S)) (hL : a ∈ pL S) (hq : (pq_W cB cI cP cS X S)[q]? = some (a, pq_e cB cI cP cS S a)) (hLT : pL T = pL S) (h : ∀ b, va_up (pq_e cB cI cP cS S) a e b = pq_e cB cI cP cS T b) : (pq_W cB cI cP cS X S).set q (a, e) = pq_W cB cI cP cS X T := by
  unfold pq_W at *
  rw [va_pl_set hD hL hq, hLT]
  exact congrArg (fun l => X ++ l) (va_pl_congr h)
theorem pq_fsI {S : pq_S} {k a j : Nat} {v : Int32} (hj : j < pq_nf k) (hr : pq_ref k j = false) : (pq_fs S k a).set j (.int v) = pq_fs (sI S (100 * k + j) a v) k a := by
  apply List.ext_getElem?
  intro i
  rw [List.getElem?_set, pq_fsLen]
  by_cases hi : i < pq_nf k
  · rw [pq_fsAt hi, pq_fsAt hi]
    by_cases e : j = i
    · subst e
      rw [if_pos rfl, if_pos hj]
      unfold pq_v
      rw [if_neg (by rw [hr]; decide)]
      show _ = some (Value.int (if 100 * k + j = 100 * k + j ∧ a = a then v else _))
      rw [if_pos ⟨rfl, rfl⟩]
    · rw [if_neg e]
      unfold pq_v
      have : pI (sI S (100 * k + j) a v) (100 * k + i) a = pI S (100 * k + i) a := by
        show (if 100 * k + i = 100 * k + j ∧ a = a then v else _) = _
        rw [if_neg (by omega)]
      rw [this]
      rfl
  · rw [if_neg (by omega)]
    rw [List.getElem?_eq_none (by rw [pq_fsLen]; omega), List.getElem?_eq_none (by rw [pq_fsLen]; omega)]
theorem pq_fsR {S : pq_S} {k a j : Nat} {v : Option Nat} (hj : j < pq_nf k) (hr : pq_ref k j = true) : (pq_fs S k a).set j (va_rf v) = pq_fs (sR S (100 * k + j) a v) k a := by
  apply List.ext_getElem?
  intro i
  rw [List.getElem?_set, pq_fsLen]
  by_cases hi : i < pq_nf k
  · rw [pq_fsAt hi, pq_fsAt hi]
    by_cases e : j = i
    · subst e
      rw [if_pos rfl, if_pos hj]
      unfold pq_v
      rw [if_pos hr]
      show _ = some (va_rf (if 100 * k + j = 100 * k + j ∧ a = a then v else _))
      rw [if_pos ⟨rfl, rfl⟩]
    · rw [if_neg e]
      unfold pq_v
      have : pR (sR S (100 * k + j) a v) (100 * k + i) a = pR S (100 * k + i) a := by
        show (if 100 * k + i = 100 * k + j ∧ a = a then v else _) = _
        rw [if_neg (by omega)]
      rw [this]
      rfl
  · rw [if_neg (by omega)]
    rw [List.getElem?_eq_none (by rw [pq_fsLen]; omega), List.getElem?_eq_none (by rw [pq_fsLen]; omega)]
theorem pq_fsIo {S : pq_S} {k a b f : Nat} {v : Int32} (h : b ≠ a) : pq_fs (sI S f a v) k b = pq_fs S k b := by
  unfold pq_fs
  refine List.map_congr_left fun j _ => ?_
  unfold pq_v
  have : pI (sI S f a v) (100 * k + j) b = pI S (100 * k + j) b := by
    show (if 100 * k + j = f ∧ b = a then v else _) = _
    rw [if_neg (fun q => h q.2)]
  rw [this]
  rfl
theorem pq_fsRo {S : pq_S} {k a b f : Nat} {v : Option Nat} (h : b ≠ a) : pq_fs (sR S f a v) k b = pq_fs S k b := by
  unfold pq_fs
  refine List.map_congr_left fun j _ => ?_
  unfold pq_v
  have : pR (sR S f a v) (100 * k + j) b = pR S (100 * k + j) b := by
    show (if 100 * k + j = f ∧ b = a then v else _) = _
    rw [if_neg (fun q => h q.2)]
  rw [this]
  rfl
theorem pq_putI {cB cI cP cS : ClassId} {X : va_W} {S : pq_S} {A : Nat → Prop} {a q k j : Nat} {v : Int32} (hD : va_D A (pq_W cB cI cP cS X S)) (hT : TY S a k) (hk : k < 13) (hj : j < pq_nf k) (hr : pq_ref k j = false) (hq : (pq_W cB cI cP cS X S)[q]? = some (a, .inr (k, pq_fs S k a))) : (pq_W cB cI cP cS X S).set q (a, .inr (k, (pq_fs S k a).set j (.int v))) = pq_W cB cI cP cS X (sI S (100 * k + j) a v) := by
  refine pq_setW hD hT.1 (by rw [hq, pq_pos hT hk]) rfl fun b => ?_
  by_cases hb : b = a
  · subst hb
    rw [pq_pos (S := sI S (100 * k + j) b v) (show TY (sI S (100 * k + j) b v) b k from hT) hk, pq_fsI hj hr]
    simp [va_up]
  · show (if b = a then _ else pq_e cB cI cP cS S b) = _
    rw [if_neg hb]
    unfold pq_e
    show _ = (if pK S b = 13 then Sum.inl (cB, pN S b, Sum.inl (pA S b)) else if pK S b = 14 then Sum.inl (cI, pN S b, Sum.inl (pA S b)) else if pK S b = 15 then Sum.inl (cP, pN S b, Sum.inr (Sum.inr (Sum.inr (Sum.inr (pQ S b))))) else if pK S b = 16 then Sum.inl (cS, pN S b, Sum.inr (Sum.inr (Sum.inr (Sum.inr (pQ S b))))) else Sum.inr (pK S b, pq_fs (sI S (100 * k + j) a v) (pK S b) b))
    rw [pq_fsIo hb]
theorem pq_putR {cB cI cP cS : ClassId} {X : va_W} {S : pq_S} {A : Nat → Prop} {a q k j : Nat} {v : Option Nat} (hD : va_D A (pq_W cB cI cP cS X S)) (hT : TY S a k) (hk : k < 13) (hj : j < pq_nf k) (hr : pq_ref k j = true) (hq : (pq_W cB cI cP cS X S)[q]? = some (a, .inr (k, pq_fs S k a))) : (pq_W cB cI cP cS X S).set q (a, .inr (k, (pq_fs S k a).set j (va_rf v))) = pq_W cB cI cP cS X (sR S (100 * k + j) a v) := by
  refine pq_setW hD hT.1 (by rw [hq, pq_pos hT hk]) rfl fun b => ?_
  by_cases hb : b = a
  · subst hb
    rw [pq_pos (S := sR S (100 * k + j) b v) (show TY (sR S (100 * k + j) b v) b k from hT) hk, pq_fsR hj hr]
    simp [va_up]
  · show (if b = a then _ else pq_e cB cI cP cS S b) = _
    rw [if_neg hb]
    unfold pq_e
    show _ = (if pK S b = 13 then Sum.inl (cB, pN S b, Sum.inl (pA S b)) else if pK S b = 14 then Sum.inl (cI, pN S b, Sum.inl (pA S b)) else if pK S b = 15 then Sum.inl (cP, pN S b, Sum.inr (Sum.inr (Sum.inr (Sum.inr (pQ S b))))) else if pK S b = 16 then Sum.inl (cS, pN S b, Sum.inr (Sum.inr (Sum.inr (Sum.inr (pQ S b))))) else Sum.inr (pK S b, pq_fs (sR S (100 * k + j) a v) (pK S b) b))
    rw [pq_fsRo hb]
theorem pq_eF {cB cI cP cS : ClassId} {S : pq_S} {a b : Nat} {g : Nat → Int32} (hb : b ≠ a) : pq_e cB cI cP cS (sF S a g) b = pq_e cB cI cP cS S b := by
  have h1 : pA (sF S a g) b = pA S b := by
    funext i
    show (if b = a then g i else pA S b i) = _
    rw [if_neg hb]
  show (if pK S b = 13 then Sum.inl (cB, pN S b, Sum.inl (pA (sF S a g) b)) else if pK S b = 14 then Sum.inl (cI, pN S b, Sum.inl (pA (sF S a g) b)) else if pK S b = 15 then Sum.inl (cP, pN S b, Sum.inr (Sum.inr (Sum.inr (Sum.inr (pQ S b))))) else if pK S b = 16 then Sum.inl (cS, pN S b, Sum.inr (Sum.inr (Sum.inr (Sum.inr (pQ S b))))) else Sum.inr (pK S b, pq_fs S (pK S b) b)) = _
  rw [h1]
  rfl
theorem pq_putF {cB cI cP cS : ClassId} {X : va_W} {S : pq_S} {A : Nat → Prop} {a q : Nat} {g : Nat → Int32} (hD : va_D A (pq_W cB cI cP cS X S)) (hT : TY S a 14) (hq : (pq_W cB cI cP cS X S)[q]? = some (a, .inl (cI, pN S a, .inl (pA S a)))) : (pq_W cB cI cP cS X S).set q (a, .inl (cI, pN S a, .inl g)) = pq_W cB cI cP cS X (sF S a g) := by
  refine pq_setW hD hT.1 (by rw [hq]; simp [pq_e, hT.2]) rfl fun b => ?_
  by_cases hb : b = a
  · subst hb
    have h1 : pA (sF S b g) b = g := by funext i; show (if b = b then g i else _) = _; rw [if_pos rfl]
    have h2 : pK (sF S b g) b = 14 := hT.2
    unfold pq_e
    rw [if_neg (by omega), if_pos h2, h1]
    simp [va_up]
    rfl
  · rw [pq_eF hb]
    show (if b = a then _ else pq_e cB cI cP cS S b) = _
    rw [if_neg hb]
theorem pq_putFB {cB cI cP cS : ClassId} {X : va_W} {S : pq_S} {A : Nat → Prop} {a q : Nat} {g : Nat → Int32} (hD : va_D A (pq_W cB cI cP cS X S)) (hT : TY S a 13) (hq : (pq_W cB cI cP cS X S)[q]? = some (a, .inl (cB, pN S a, .inl (pA S a)))) : (pq_W cB cI cP cS X S).set q (a, .inl (cB, pN S a, .inl g)) = pq_W cB cI cP cS X (sF S a g) := by
  refine pq_setW hD hT.1 (by rw [hq]; simp [pq_e, hT.2]) rfl fun b => ?_
  by_cases hb : b = a
  · subst hb
    have h1 : pA (sF S b g) b = g := by funext i; show (if b = b then g i else _) = _; rw [if_pos rfl]
    have h2 : pK (sF S b g) b = 13 := hT.2
    unfold pq_e
    rw [if_pos h2, h1]
    simp [va_up]
    rfl
  · rw [pq_eF hb]
    show (if b = a then _ else pq_e cB cI cP cS S b) = _
    rw [if_neg hb]
theorem sA_F (S : pq_S) (a i : Nat) (v : Int32) : sF S a (upd (pA S a) i v) = sA S a i v := by
  have : (fun a1 i1 => if a1 = a then upd (pA S a) i v i1 else pA S a1 i1) = (fun a1 i1 => if a1 = a ∧ i1 = i then v else pA S a1 i1) := by
    funext a1 i1
    by_cases h : a1 = a
    · subst h
      by_cases h2 : i1 = i
      · subst h2; simp [upd]
      · simp [upd, h2]
    · simp [h]
  unfold sF sA
  rw [this]

