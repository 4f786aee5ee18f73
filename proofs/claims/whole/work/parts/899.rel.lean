/-! for the constructors: a pool S is like a pool M whose addresses are the numbers 0, 1, 2, ..; l says where each lies in S -/
def REL (l : List Nat) (M S : pq_S) : Prop := pL S = l ∧ l.Nodup ∧ (∀ i q, l[i]? = some q → pK S q = pK M i ∧ (pK M i < 13 → (∀ f, pI S f q = pI M f i) ∧ ∀ f, pR S f q = (pR M f i).bind (fun j => l[j]?)) ∧ (13 ≤ pK M i → pN S q = pN M i ∧ (∀ j, pA S q j = pA M i j) ∧ ∀ j, pQ S q j = (pQ M i j).bind (fun k => l[k]?))) ∧ (∀ f i j, pR M f i = some j → j < l.length) ∧ ∀ i j k, pQ M i j = some k → k < l.length
theorem rl_app {l : List Nat} {q i p : Nat} (h : (l ++ [q])[i]? = some p) : (i < l.length ∧ l[i]? = some p) ∨ (i = l.length ∧ p = q) := by
  by_cases hi : i < l.length
  · rw [List.getElem?_append_left hi] at h
    exact Or.inl ⟨hi, h⟩
  · rw [List.getElem?_append_right (by omega)] at h
    by_cases e : i - l.length = 0
    · rw [e] at h
      simp at h
      exact Or.inr ⟨by omega, h.symm⟩
    · rw [List.getElem?_eq_none (by simp; omega)] at h
      cases h
theorem rl_mem {l : List Nat} {i p : Nat} (h : l[i]? = some p) : p ∈ l := List.mem_of_getElem? h
theorem rl_bind {l : List Nat} {q : Nat} {o : Option Nat} (h : ∀ j, o = some j → j < l.length) : (o.bind fun j => (l ++ [q])[j]?) = o.bind fun j => l[j]? := by
  cases o with
  | none => rfl
  | some j =>
    show (l ++ [q])[j]? = l[j]?
    rw [List.getElem?_append_left (h j rfl)]
theorem rl_nd {l : List Nat} {q : Nat} (h : l.Nodup) (hq : q ∉ l) : (l ++ [q]).Nodup := by
  rw [List.nodup_append]
  refine ⟨h, by simp, fun a ha b hb e => ?_⟩
  rw [List.mem_singleton] at hb
  exact hq (hb ▸ e ▸ ha)
theorem REL.nO {l : List Nat} {M S : pq_S} {q k : Nat} (h : REL l M S) (hk : k < 13) (hq : q ∉ pL S) : REL (l ++ [q]) (nO M l.length k) (nO S q k) := by
  obtain ⟨h1, h2, h3, h4, h5⟩ := h
  rw [h1] at hq
  refine ⟨by rw [pL_nO, h1], rl_nd h2 hq, fun i p hp => ?_, fun f i j hj => ?_, fun i j k hj => ?_⟩
  · rcases rl_app hp with ⟨a, b⟩ | ⟨a, b⟩
    · have hpq : p ≠ q := fun e => hq (e ▸ rl_mem b)
      have hil : i ≠ l.length := by omega
      obtain ⟨x1, x2, x3⟩ := h3 i p b
      rw [pK_nO, pK_nO, if_neg hpq, if_neg hil]
      refine ⟨x1, fun hk => ⟨fun f => ?_, fun f => ?_⟩, fun hk => ⟨(x3 hk).1, (x3 hk).2.1, fun j => ?_⟩⟩
      · rw [pI_nO, pI_nO, if_neg hpq, if_neg hil]; exact (x2 hk).1 f
      · rw [pR_nO, pR_nO, if_neg hpq, if_neg hil, rl_bind (fun j hj => h4 f i j hj)]; exact (x2 hk).2 f
      · rw [pQ_nO, pQ_nO, rl_bind (fun k hj => h5 i j k hj)]; exact (x3 hk).2.2 j
    · subst a; subst b
      rw [pK_nO, pK_nO, if_pos rfl, if_pos rfl]
      refine ⟨rfl, fun _ => ⟨fun f => ?_, fun f => ?_⟩, fun hk => by omega⟩
      · rw [pI_nO, pI_nO, if_pos rfl, if_pos rfl]
      · rw [pR_nO, pR_nO, if_pos rfl, if_pos rfl]; rfl
  · rw [pR_nO] at hj
    rw [List.length_append]
    by_cases e : i = l.length
    · rw [if_pos e] at hj; cases hj
    · rw [if_neg e] at hj; have := h4 f i j hj; omega
  · rw [List.length_append]
    have := h5 i j k hj
    omega
theorem REL.nA {l : List Nat} {M S : pq_S} {q k n : Nat} (h : REL l M S) (hk : 13 ≤ k) (hq : q ∉ pL S) : REL (l ++ [q]) (nA M l.length k n) (nA S q k n) := by
  obtain ⟨h1, h2, h3, h4, h5⟩ := h
  rw [h1] at hq
  refine ⟨by rw [pL_nA, h1], rl_nd h2 hq, fun i p hp => ?_, fun f i j hj => ?_, fun i j k hj => ?_⟩
  · rcases rl_app hp with ⟨a, b⟩ | ⟨a, b⟩
    · have hpq : p ≠ q := fun e => hq (e ▸ rl_mem b)
      have hil : i ≠ l.length := by omega
      obtain ⟨x1, x2, x3⟩ := h3 i p b
      rw [pK_nA, pK_nA, if_neg hpq, if_neg hil]
      refine ⟨x1, fun hk => ⟨(x2 hk).1, fun f => ?_⟩, fun hk => ⟨?_, fun j => ?_, fun j => ?_⟩⟩
      · rw [pR_nA, pR_nA, rl_bind (fun j hj => h4 f i j hj)]; exact (x2 hk).2 f
      · rw [pN_nA, pN_nA, if_neg hpq, if_neg hil]; exact (x3 hk).1
      · rw [pA_nA, pA_nA, if_neg hpq, if_neg hil]; exact (x3 hk).2.1 j
      · rw [pQ_nA, pQ_nA, if_neg hpq, if_neg hil, rl_bind (fun k hj => h5 i j k hj)]; exact (x3 hk).2.2 j
    · subst a; subst b
      rw [pK_nA, pK_nA, if_pos rfl, if_pos rfl]
      refine ⟨rfl, fun hk => by omega, fun _ => ⟨?_, fun j => ?_, fun j => ?_⟩⟩
      · rw [pN_nA, pN_nA, if_pos rfl, if_pos rfl]
      · rw [pA_nA, pA_nA, if_pos rfl, if_pos rfl]
      · rw [pQ_nA, pQ_nA, if_pos rfl, if_pos rfl]; rfl
  · rw [List.length_append]
    have := h4 f i j hj
    omega
  · rw [pQ_nA] at hj
    rw [List.length_append]
    by_cases e : i = l.length
    · rw [if_pos e] at hj; cases hj
    · rw [if_neg e] at hj; have := h5 i j k hj; omega
theorem REL.ix {l : List Nat} {M S : pq_S} (h : REL l M S) {i j p q : Nat} (hi : l[i]? = some p) (hj : l[j]? = some q) : p = q ↔ i = j := by
  refine ⟨fun e => ?_, fun e => ?_⟩
  · subst e
    exact (List.getElem?_inj (by by_cases c : i < l.length; exact c; rw [List.getElem?_eq_none (by omega)] at hi; cases hi) h.2.1).mp (hi.trans hj.symm)
  · subst e
    rw [hi] at hj
    exact Option.some.inj hj
theorem REL.sI {l : List Nat} {M S : pq_S} {f a i : Nat} {v : Int32} (h : REL l M S) (hi : l[i]? = some a) : REL l (sI M f i v) (sI S f a v) := by
  refine ⟨h.1, h.2.1, fun j p hp => ?_, h.2.2.2.1, h.2.2.2.2⟩
  obtain ⟨x1, x2, x3⟩ := h.2.2.1 j p hp
  refine ⟨x1, fun hk => ⟨fun g => ?_, (x2 hk).2⟩, x3⟩
  have ec := h.ix hp hi
  rw [pI_sI, pI_sI]
  by_cases e : g = f ∧ j = i
  · rw [if_pos ⟨e.1, ec.mpr e.2⟩, if_pos e]
  · rw [if_neg (fun z => e ⟨z.1, ec.mp z.2⟩), if_neg e]; exact (x2 hk).1 g
theorem REL.sR {l : List Nat} {M S : pq_S} {f a i b j : Nat} (h : REL l M S) (hi : l[i]? = some a) (hj : l[j]? = some b) : REL l (sR M f i (some j)) (sR S f a (some b)) := by
  have hjl : j < l.length := by
    by_cases c : j < l.length
    · exact c
    · rw [List.getElem?_eq_none (by omega)] at hj; cases hj
  refine ⟨h.1, h.2.1, fun k p hp => ?_, fun g k x hx => ?_, h.2.2.2.2⟩
  · obtain ⟨x1, x2, x3⟩ := h.2.2.1 k p hp
    refine ⟨x1, fun hk => ⟨(x2 hk).1, fun g => ?_⟩, x3⟩
    have ec := h.ix hp hi
    rw [pR_sR, pR_sR]
    by_cases e : g = f ∧ k = i
    · rw [if_pos ⟨e.1, ec.mpr e.2⟩, if_pos e]; exact hj.symm
    · rw [if_neg (fun z => e ⟨z.1, ec.mp z.2⟩), if_neg e]; exact (x2 hk).2 g
  · rw [pR_sR] at hx
    by_cases e : g = f ∧ k = i
    · rw [if_pos e] at hx; cases hx; exact hjl
    · rw [if_neg e] at hx; exact h.2.2.2.1 g k x hx
theorem REL.sF {l : List Nat} {M S : pq_S} {a i : Nat} {u : Nat → Int32} (h : REL l M S) (hi : l[i]? = some a) : REL l (sF M i u) (sF S a u) := by
  refine ⟨h.1, h.2.1, fun j p hp => ?_, h.2.2.2.1, h.2.2.2.2⟩
  obtain ⟨x1, x2, x3⟩ := h.2.2.1 j p hp
  refine ⟨x1, x2, fun hk => ⟨(x3 hk).1, fun k => ?_, (x3 hk).2.2⟩⟩
  have ec := h.ix hp hi
  rw [pA_sF, pA_sF]
  by_cases e : j = i
  · rw [if_pos (ec.mpr e), if_pos e]
  · rw [if_neg (fun z => e (ec.mp z)), if_neg e]; exact (x3 hk).2.1 k
theorem REL.r {l : List Nat} {M S : pq_S} {i j p q f : Nat} (h : REL l M S) (hi : l[i]? = some p) (hj : l[j]? = some q) (hk : pK M i < 13) (hm : pR M f i = some j) : pR S f p = some q := by
  rw [((h.2.2.1 i p hi).2.1 hk).2 f, hm]
  exact hj
theorem REL.k {l : List Nat} {M S : pq_S} {i p k : Nat} (h : REL l M S) (hi : l[i]? = some p) (hk : pK M i = k) : TY S p k := ⟨by rw [h.1]; exact rl_mem hi, (h.2.2.1 i p hi).1.trans hk⟩
