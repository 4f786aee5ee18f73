/-! the constructors: a concrete pool beside them -/
def RR (b : Nat) (l : List Nat) (M S : pq_S) : Prop := REL l M S ∧ l.length = b
theorem w9 {n a a1 c s : Nat} {x : Int32} {S : pq_S} {Q : pq_S → Prop} (h : Q (sI (sR S 900 a (some a1)) 901 a x)) : wp_X9_init n a a1 x S c s Q := h
theorem lt_i {α : Type} {x : α} {k : α → Prop} (h : k x) : lt_ x k := h
section
variable {b : Nat} {l : List Nat} {M S : pq_S}
theorem REL.nil : REL [] S00 S00 := ⟨rfl, List.nodup_nil, fun i q h => (by simp at h), fun f i j h => (by cases h), fun i j k h => (by cases h)⟩
theorem RR.o {q k : Nat} (r : RR b l M S) (hk : k < 13) (hq : q ∉ pL S) : ∃ l', RR (b + 1) l' (nO M b k) (nO S q k) ∧ l'[b]? = some q ∧ ∀ (j p : Nat), l[j]? = some p → l'[j]? = some p := by
  obtain ⟨r, rfl⟩ := r
  refine ⟨l ++ [q], ⟨r.nO hk hq, by simp⟩, by simp, fun j p h => ?_⟩
  rw [List.getElem?_append_left (by by_cases c : j < l.length; exact c; rw [List.getElem?_eq_none (by omega)] at h; cases h)]
  exact h
theorem RR.a {q k m : Nat} (r : RR b l M S) (hk : 13 ≤ k) (hq : q ∉ pL S) : ∃ l', RR (b + 1) l' (nA M b k m) (nA S q k m) ∧ l'[b]? = some q ∧ ∀ (j p : Nat), l[j]? = some p → l'[j]? = some p := by
  obtain ⟨r, rfl⟩ := r
  refine ⟨l ++ [q], ⟨r.nA hk hq, by simp⟩, by simp, fun j p h => ?_⟩
  rw [List.getElem?_append_left (by by_cases c : j < l.length; exact c; rw [List.getElem?_eq_none (by omega)] at h; cases h)]
  exact h
theorem RR.i {f a i : Nat} {v : Int32} (r : RR b l M S) (hi : l[i]? = some a) : RR b l (sI M f i v) (sI S f a v) := ⟨r.1.sI hi, r.2⟩
theorem RR.r {f a i p j : Nat} (r : RR b l M S) (hi : l[i]? = some a) (hj : l[j]? = some p) : RR b l (sR M f i (some j)) (sR S f a (some p)) := ⟨r.1.sR hi hj, r.2⟩
theorem RR.f {a i : Nat} {u : Nat → Int32} (r : RR b l M S) (hi : l[i]? = some a) : RR b l (sF M i u) (sF S a u) := ⟨r.1.sF hi, r.2⟩
end
def mX10 (M : pq_S) (b i : Nat) : pq_S := (sR (nA M b 13 600) 1000 i (some b))
theorem i_X10 {n b i a : Nat} {l : List Nat} {M S : pq_S} {Q : pq_S → Prop} (hn : 20000 ≤ n) (r : RR b l M S) (h_a : l[i]? = some a) (K : ∀ l2 S2, RR (b + 1) l2 (mX10 M b i) S2 → (∀ (j p : Nat), l[j]? = some p → l2[j]? = some p) → Q S2) : wp_X10_init n a S 1 600 Q := by
  have kk : ∀ (j p : Nat), l[j]? = some p → l[j]? = some p := fun _ _ h => h
  unfold wp_X10_init
  refine ⟨by decide, by decide, fun q_x hq => ?_⟩
  obtain ⟨l, r, h_x, kp⟩ := r.a (k := 13) (m := 600) (by decide) hq
  have h_a := kp _ _ h_a
  have kk := fun (j p : Nat) h => kp j p (kk j p h)
  have r := r.r (f := 1000) h_a h_x
  exact K _ _ r kk
def mX1 (M : pq_S) (b i : Nat) : pq_S := (sI (sI (sR (sI (sR (nA (nO (sR (sI (sR (nA (nO (sR (sI (sR (nA (nO (sR (sI (sR (nA (nO M b 9) (b + 1) 14 24) 900 b (some (b + 1))) 901 b 4) 100 i (some b)) (b + 2) 9) (b + 3) 14 48) 900 (b + 2) (some (b + 3))) 901 (b + 2) 4) 101 i (some (b + 2))) (b + 4) 9) (b + 5) 14 9) 900 (b + 4) (some (b + 5))) 901 (b + 4) 3) 102 i (some (b + 4))) (b + 6) 9) (b + 7) 14 6) 900 (b + 6) (some (b + 7))) 901 (b + 6) 2) 103 i (some (b + 6))) 104 i 1) 105 i 3)
theorem i_X1 {n b i a : Nat} {l : List Nat} {M S : pq_S} {Q : pq_S → Prop} (hn : 20000 ≤ n) (r : RR b l M S) (h_a : l[i]? = some a) (K : ∀ l2 S2, RR (b + 8) l2 (mX1 M b i) S2 → (∀ (j p : Nat), l[j]? = some p → l2[j]? = some p) → Q S2) : wp_X1_init n a S 8 99 Q := by
  have kk : ∀ (j p : Nat), l[j]? = some p → l[j]? = some p := fun _ _ h => h
  unfold wp_X1_init
  refine ⟨by decide, by decide, fun q_t hq => ?_⟩
  obtain ⟨l, r, h_t, kp⟩ := r.o (k := 9) (by decide) hq
  have h_a := kp _ _ h_a
  have kk := fun (j p : Nat) h => kp j p (kk j p h)
  refine ⟨by decide, by decide, fun q_c hq => ?_⟩
  obtain ⟨l, r, h_c, kp⟩ := r.a (k := 14) (m := 24) (by decide) hq
  have h_a := kp _ _ h_a
  have h_t := kp _ _ h_t
  have kk := fun (j p : Nat) h => kp j p (kk j p h)
  refine ⟨0, 0, by decide, by decide, w9 ?_⟩
  have r := (r.r (f := 900) h_t h_c).i (f := 901) (v := 4) h_t
  have r := r.r (f := 100) h_a h_t
  refine ⟨by decide, by decide, fun q_u hq => ?_⟩
  obtain ⟨l, r, h_u, kp⟩ := r.o (k := 9) (by decide) hq
  have h_a := kp _ _ h_a
  have h_t := kp _ _ h_t
  have h_c := kp _ _ h_c
  have kk := fun (j p : Nat) h => kp j p (kk j p h)
  refine ⟨by decide, by decide, fun q_d hq => ?_⟩
  obtain ⟨l, r, h_d, kp⟩ := r.a (k := 14) (m := 48) (by decide) hq
  have h_a := kp _ _ h_a
  have h_t := kp _ _ h_t
  have h_c := kp _ _ h_c
  have h_u := kp _ _ h_u
  have kk := fun (j p : Nat) h => kp j p (kk j p h)
  refine ⟨0, 0, by decide, by decide, w9 ?_⟩
  have r := (r.r (f := 900) h_u h_d).i (f := 901) (v := 4) h_u
  have r := r.r (f := 101) h_a h_u
  refine ⟨by decide, by decide, fun q_v hq => ?_⟩
  obtain ⟨l, r, h_v, kp⟩ := r.o (k := 9) (by decide) hq
  have h_a := kp _ _ h_a
  have h_t := kp _ _ h_t
  have h_c := kp _ _ h_c
  have h_u := kp _ _ h_u
  have h_d := kp _ _ h_d
  have kk := fun (j p : Nat) h => kp j p (kk j p h)
  refine ⟨by decide, by decide, fun q_e hq => ?_⟩
  obtain ⟨l, r, h_e, kp⟩ := r.a (k := 14) (m := 9) (by decide) hq
  have h_a := kp _ _ h_a
  have h_t := kp _ _ h_t
  have h_c := kp _ _ h_c
  have h_u := kp _ _ h_u
  have h_d := kp _ _ h_d
  have h_v := kp _ _ h_v
  have kk := fun (j p : Nat) h => kp j p (kk j p h)
  refine ⟨0, 0, by decide, by decide, w9 ?_⟩
  have r := (r.r (f := 900) h_v h_e).i (f := 901) (v := 3) h_v
  have r := r.r (f := 102) h_a h_v
  refine ⟨by decide, by decide, fun q_w hq => ?_⟩
  obtain ⟨l, r, h_w, kp⟩ := r.o (k := 9) (by decide) hq
  have h_a := kp _ _ h_a
  have h_t := kp _ _ h_t
  have h_c := kp _ _ h_c
  have h_u := kp _ _ h_u
  have h_d := kp _ _ h_d
  have h_v := kp _ _ h_v
  have h_e := kp _ _ h_e
  have kk := fun (j p : Nat) h => kp j p (kk j p h)
  refine ⟨by decide, by decide, fun q_f hq => ?_⟩
  obtain ⟨l, r, h_f, kp⟩ := r.a (k := 14) (m := 6) (by decide) hq
  have h_a := kp _ _ h_a
  have h_t := kp _ _ h_t
  have h_c := kp _ _ h_c
  have h_u := kp _ _ h_u
  have h_d := kp _ _ h_d
  have h_v := kp _ _ h_v
  have h_e := kp _ _ h_e
  have h_w := kp _ _ h_w
  have kk := fun (j p : Nat) h => kp j p (kk j p h)
  refine ⟨0, 0, by decide, by decide, w9 ?_⟩
  have r := (r.r (f := 900) h_w h_f).i (f := 901) (v := 2) h_w
  have r := r.r (f := 103) h_a h_w
  have r := r.i (f := 104) (v := 1) h_a
  have r := r.i (f := 105) (v := 3) h_a
  exact K _ _ r kk
def mX8 (M : pq_S) (b i : Nat) : pq_S := (sR (sI (sR (nA (nO (sR (sI (sR (nA (nO (sR (sI (sR (nA (nO M b 9) (b + 1) 14 18) 900 b (some (b + 1))) 901 b 3) 800 i (some b)) (b + 2) 9) (b + 3) 14 24) 900 (b + 2) (some (b + 3))) 901 (b + 2) 2) 801 i (some (b + 2))) (b + 4) 9) (b + 5) 14 6) 900 (b + 4) (some (b + 5))) 901 (b + 4) 2) 802 i (some (b + 4)))
theorem i_X8 {n b i a : Nat} {l : List Nat} {M S : pq_S} {Q : pq_S → Prop} (hn : 20000 ≤ n) (r : RR b l M S) (h_a : l[i]? = some a) (K : ∀ l2 S2, RR (b + 6) l2 (mX8 M b i) S2 → (∀ (j p : Nat), l[j]? = some p → l2[j]? = some p) → Q S2) : wp_X8_init n a S 6 57 Q := by
  have kk : ∀ (j p : Nat), l[j]? = some p → l[j]? = some p := fun _ _ h => h
  unfold wp_X8_init
  refine ⟨by decide, by decide, fun q_t hq => ?_⟩
  obtain ⟨l, r, h_t, kp⟩ := r.o (k := 9) (by decide) hq
  have h_a := kp _ _ h_a
  have kk := fun (j p : Nat) h => kp j p (kk j p h)
  refine ⟨by decide, by decide, fun q_c hq => ?_⟩
  obtain ⟨l, r, h_c, kp⟩ := r.a (k := 14) (m := 18) (by decide) hq
  have h_a := kp _ _ h_a
  have h_t := kp _ _ h_t
  have kk := fun (j p : Nat) h => kp j p (kk j p h)
  refine ⟨0, 0, by decide, by decide, w9 ?_⟩
  have r := (r.r (f := 900) h_t h_c).i (f := 901) (v := 3) h_t
  have r := r.r (f := 800) h_a h_t
  refine ⟨by decide, by decide, fun q_u hq => ?_⟩
  obtain ⟨l, r, h_u, kp⟩ := r.o (k := 9) (by decide) hq
  have h_a := kp _ _ h_a
  have h_t := kp _ _ h_t
  have h_c := kp _ _ h_c
  have kk := fun (j p : Nat) h => kp j p (kk j p h)
  refine ⟨by decide, by decide, fun q_d hq => ?_⟩
  obtain ⟨l, r, h_d, kp⟩ := r.a (k := 14) (m := 24) (by decide) hq
  have h_a := kp _ _ h_a
  have h_t := kp _ _ h_t
  have h_c := kp _ _ h_c
  have h_u := kp _ _ h_u
  have kk := fun (j p : Nat) h => kp j p (kk j p h)
  refine ⟨0, 0, by decide, by decide, w9 ?_⟩
  have r := (r.r (f := 900) h_u h_d).i (f := 901) (v := 2) h_u
  have r := r.r (f := 801) h_a h_u
  refine ⟨by decide, by decide, fun q_v hq => ?_⟩
  obtain ⟨l, r, h_v, kp⟩ := r.o (k := 9) (by decide) hq
  have h_a := kp _ _ h_a
  have h_t := kp _ _ h_t
  have h_c := kp _ _ h_c
  have h_u := kp _ _ h_u
  have h_d := kp _ _ h_d
  have kk := fun (j p : Nat) h => kp j p (kk j p h)
  refine ⟨by decide, by decide, fun q_e hq => ?_⟩
  obtain ⟨l, r, h_e, kp⟩ := r.a (k := 14) (m := 6) (by decide) hq
  have h_a := kp _ _ h_a
  have h_t := kp _ _ h_t
  have h_c := kp _ _ h_c
  have h_u := kp _ _ h_u
  have h_d := kp _ _ h_d
  have h_v := kp _ _ h_v
  have kk := fun (j p : Nat) h => kp j p (kk j p h)
  refine ⟨0, 0, by decide, by decide, w9 ?_⟩
  have r := (r.r (f := 900) h_v h_e).i (f := 901) (v := 2) h_v
  have r := r.r (f := 802) h_a h_v
  exact K _ _ r kk
def mX2 (M : pq_S) (b i : Nat) : pq_S := (sR (nA (sR (nA (sR (nA M b 14 150) 200 i (some b)) (b + 1) 14 7) 201 i (some (b + 1))) (b + 2) 14 32) 202 i (some (b + 2)))
theorem i_X2 {n b i a : Nat} {l : List Nat} {M S : pq_S} {Q : pq_S → Prop} (hn : 20000 ≤ n) (r : RR b l M S) (h_a : l[i]? = some a) (K : ∀ l2 S2, RR (b + 3) l2 (mX2 M b i) S2 → (∀ (j p : Nat), l[j]? = some p → l2[j]? = some p) → Q S2) : wp_X2_init n a S 3 189 Q := by
  have kk : ∀ (j p : Nat), l[j]? = some p → l[j]? = some p := fun _ _ h => h
  unfold wp_X2_init
  refine ⟨by decide, by decide, fun q_x hq => ?_⟩
  obtain ⟨l, r, h_x, kp⟩ := r.a (k := 14) (m := 150) (by decide) hq
  have h_a := kp _ _ h_a
  have kk := fun (j p : Nat) h => kp j p (kk j p h)
  have r := r.r (f := 200) h_a h_x
  refine ⟨by decide, by decide, fun q_y hq => ?_⟩
  obtain ⟨l, r, h_y, kp⟩ := r.a (k := 14) (m := 7) (by decide) hq
  have h_a := kp _ _ h_a
  have h_x := kp _ _ h_x
  have kk := fun (j p : Nat) h => kp j p (kk j p h)
  have r := r.r (f := 201) h_a h_y
  refine lt_i ?_
  refine ⟨by decide, by decide, fun q_z hq => ?_⟩
  obtain ⟨l, r, h_z, kp⟩ := r.a (k := 14) (m := 32) (by decide) hq
  have h_a := kp _ _ h_a
  have h_x := kp _ _ h_x
  have h_y := kp _ _ h_y
  have kk := fun (j p : Nat) h => kp j p (kk j p h)
  have r := r.r (f := 202) h_a h_z
  exact K _ _ r kk
def mX3 (M : pq_S) (b i j : Nat) : pq_S := (sR (sR (nA (sR (nA (sR (nA M b 14 145) 301 i (some b)) (b + 1) 14 145) 302 i (some (b + 1))) (b + 2) 14 21) 303 i (some (b + 2))) 300 i (some j))
theorem i_X3 {n b i j a s : Nat} {l : List Nat} {M S : pq_S} {Q : pq_S → Prop} (hn : 20000 ≤ n) (r : RR b l M S) (h_a : l[i]? = some a) (h_s : l[j]? = some s) (K : ∀ l2 S2, RR (b + 3) l2 (mX3 M b i j) S2 → (∀ (j p : Nat), l[j]? = some p → l2[j]? = some p) → Q S2) : wp_X3_init n a s S 3 311 Q := by
  have kk : ∀ (j p : Nat), l[j]? = some p → l[j]? = some p := fun _ _ h => h
  unfold wp_X3_init
  refine ⟨by decide, by decide, fun q_x hq => ?_⟩
  obtain ⟨l, r, h_x, kp⟩ := r.a (k := 14) (m := 145) (by decide) hq
  have h_a := kp _ _ h_a
  have h_s := kp _ _ h_s
  have kk := fun (j p : Nat) h => kp j p (kk j p h)
  have r := r.r (f := 301) h_a h_x
  refine ⟨by decide, by decide, fun q_y hq => ?_⟩
  obtain ⟨l, r, h_y, kp⟩ := r.a (k := 14) (m := 145) (by decide) hq
  have h_a := kp _ _ h_a
  have h_s := kp _ _ h_s
  have h_x := kp _ _ h_x
  have kk := fun (j p : Nat) h => kp j p (kk j p h)
  have r := r.r (f := 302) h_a h_y
  refine lt_i ?_
  refine ⟨by decide, by decide, fun q_z hq => ?_⟩
  obtain ⟨l, r, h_z, kp⟩ := r.a (k := 14) (m := 21) (by decide) hq
  have h_a := kp _ _ h_a
  have h_s := kp _ _ h_s
  have h_x := kp _ _ h_x
  have h_y := kp _ _ h_y
  have kk := fun (j p : Nat) h => kp j p (kk j p h)
  have r := r.r (f := 303) h_a h_z
  have r := r.r (f := 300) h_a h_s
  exact K _ _ r kk
def mX4 (M : pq_S) (b i j : Nat) : pq_S := (sR (sR (nA (sR (nA (sR (nA M b 14 12) 401 i (some b)) (b + 1) 14 12) 402 i (some (b + 1))) (b + 2) 14 12) 403 i (some (b + 2))) 400 i (some j))
theorem i_X4 {n b i j a s : Nat} {l : List Nat} {M S : pq_S} {Q : pq_S → Prop} (hn : 20000 ≤ n) (r : RR b l M S) (h_a : l[i]? = some a) (h_s : l[j]? = some s) (K : ∀ l2 S2, RR (b + 3) l2 (mX4 M b i j) S2 → (∀ (j p : Nat), l[j]? = some p → l2[j]? = some p) → Q S2) : wp_X4_init n a s S 3 36 Q := by
  have kk : ∀ (j p : Nat), l[j]? = some p → l[j]? = some p := fun _ _ h => h
  unfold wp_X4_init
  refine ⟨by decide, by decide, fun q_x hq => ?_⟩
  obtain ⟨l, r, h_x, kp⟩ := r.a (k := 14) (m := 12) (by decide) hq
  have h_a := kp _ _ h_a
  have h_s := kp _ _ h_s
  have kk := fun (j p : Nat) h => kp j p (kk j p h)
  have r := r.r (f := 401) h_a h_x
  refine ⟨by decide, by decide, fun q_y hq => ?_⟩
  obtain ⟨l, r, h_y, kp⟩ := r.a (k := 14) (m := 12) (by decide) hq
  have h_a := kp _ _ h_a
  have h_s := kp _ _ h_s
  have h_x := kp _ _ h_x
  have kk := fun (j p : Nat) h => kp j p (kk j p h)
  have r := r.r (f := 402) h_a h_y
  refine lt_i ?_
  refine ⟨by decide, by decide, fun q_z hq => ?_⟩
  obtain ⟨l, r, h_z, kp⟩ := r.a (k := 14) (m := 12) (by decide) hq
  have h_a := kp _ _ h_a
  have h_s := kp _ _ h_s
  have h_x := kp _ _ h_x
  have h_y := kp _ _ h_y
  have kk := fun (j p : Nat) h => kp j p (kk j p h)
  have r := r.r (f := 403) h_a h_z
  have r := r.r (f := 400) h_a h_s
  exact K _ _ r kk
def mX6 (M : pq_S) (b i : Nat) : pq_S := (sR (sI (sR (nA (nO M b 9) (b + 1) 14 125) 900 b (some (b + 1))) 901 b 5) 600 i (some b))
theorem i_X6 {n b i a : Nat} {l : List Nat} {M S : pq_S} {Q : pq_S → Prop} (hn : 20000 ≤ n) (r : RR b l M S) (h_a : l[i]? = some a) (K : ∀ l2 S2, RR (b + 2) l2 (mX6 M b i) S2 → (∀ (j p : Nat), l[j]? = some p → l2[j]? = some p) → Q S2) : wp_X6_init n a S 2 128 Q := by
  have kk : ∀ (j p : Nat), l[j]? = some p → l[j]? = some p := fun _ _ h => h
  unfold wp_X6_init
  refine ⟨by decide, by decide, fun q_t hq => ?_⟩
  obtain ⟨l, r, h_t, kp⟩ := r.o (k := 9) (by decide) hq
  have h_a := kp _ _ h_a
  have kk := fun (j p : Nat) h => kp j p (kk j p h)
  refine ⟨by decide, by decide, fun q_c hq => ?_⟩
  obtain ⟨l, r, h_c, kp⟩ := r.a (k := 14) (m := 125) (by decide) hq
  have h_a := kp _ _ h_a
  have h_t := kp _ _ h_t
  have kk := fun (j p : Nat) h => kp j p (kk j p h)
  refine ⟨0, 0, by decide, by decide, w9 ?_⟩
  have r := (r.r (f := 900) h_t h_c).i (f := 901) (v := 5) h_t
  have r := r.r (f := 600) h_a h_t
  exact K _ _ r kk
def mX0 (M : pq_S) (b i : Nat) : pq_S := (sF (sR (nA M b 14 6) 0 i (some b)) b (mixr 6 (fun _ => -1) (fun _ => 0)))
theorem i_X0 {n b i a : Nat} {l : List Nat} {M S : pq_S} {Q : pq_S → Prop} (hn : 20000 ≤ n) (r : RR b l M S) (h_a : l[i]? = some a) (K : ∀ l2 S2, RR (b + 1) l2 (mX0 M b i) S2 → (∀ (j p : Nat), l[j]? = some p → l2[j]? = some p) → Q S2) : wp_X0_init n a S 1 6 Q := by
  have kk : ∀ (j p : Nat), l[j]? = some p → l[j]? = some p := fun _ _ h => h
  unfold wp_X0_init
  refine ⟨by decide, by decide, fun q_x hq => ?_⟩
  obtain ⟨l, r, h_x, kp⟩ := r.a (k := 14) (m := 6) (by decide) hq
  have h_a := kp _ _ h_a
  have kk := fun (j p : Nat) h => kp j p (kk j p h)
  have r := r.r (f := 0) h_a h_x
  refine ⟨q_x, by rw [pR_sR, if_pos ⟨rfl, rfl⟩], _, sp_fill (N := 6) (by rw [pN_sR, pN_nA, if_pos rfl]) (by decide) (by omega), ?_⟩
  rw [show pA (sR (nA S q_x 14 6) 0 a (some q_x)) q_x = fun _ => 0 from by funext i; rw [pA_sR, pA_nA, if_pos rfl]]
  have r := r.f (u := mixr 6 (fun _ => -1) (fun _ => 0)) h_x
  exact K _ _ r kk
def mX5 (M : pq_S) (b i : Nat) : pq_S := (sR (nA M b 16 17) 500 i (some b))
theorem i_X5 {n b i a : Nat} {l : List Nat} {M S : pq_S} {Q : pq_S → Prop} (hn : 20000 ≤ n) (r : RR b l M S) (h_a : l[i]? = some a) (K : ∀ l2 S2, RR (b + 1) l2 (mX5 M b i) S2 → (∀ (j p : Nat), l[j]? = some p → l2[j]? = some p) → Q S2) : wp_X5_init n a S 1 17 Q := by
  have kk : ∀ (j p : Nat), l[j]? = some p → l[j]? = some p := fun _ _ h => h
  unfold wp_X5_init
  refine ⟨by decide, by decide, fun q_x hq => ?_⟩
  obtain ⟨l, r, h_x, kp⟩ := r.a (k := 16) (m := 17) (by decide) hq
  have h_a := kp _ _ h_a
  have kk := fun (j p : Nat) h => kp j p (kk j p h)
  have r := r.r (f := 500) h_a h_x
  exact K _ _ r kk
def mX7 (M : pq_S) (b i : Nat) : pq_S := (sR (mX2 (nO (sR (mX2 (nO (sR (mX8 (nO (sR (mX1 (nO M b 1) (b + 1) b) 700 i (some b)) (b + 9) 8) (b + 10) (b + 9)) 701 i (some (b + 9))) (b + 16) 2) (b + 17) (b + 16)) 702 i (some (b + 16))) (b + 20) 2) (b + 21) (b + 20)) 703 i (some (b + 20)))
theorem i_X7 {n b i a : Nat} {l : List Nat} {M S : pq_S} {Q : pq_S → Prop} (hn : 20000 ≤ n) (r : RR b l M S) (h_a : l[i]? = some a) (K : ∀ l2 S2, RR (b + 24) l2 (mX7 M b i) S2 → (∀ (j p : Nat), l[j]? = some p → l2[j]? = some p) → Q S2) : wp_X7_init n a S 24 555 Q := by
  have kk : ∀ (j p : Nat), l[j]? = some p → l[j]? = some p := fun _ _ h => h
  unfold wp_X7_init
  refine ⟨by decide, by decide, fun q_c hq => ?_⟩
  obtain ⟨l, r, h_c, kp⟩ := r.o (k := 1) (by decide) hq
  have h_a := kp _ _ h_a
  have kk := fun (j p : Nat) h => kp j p (kk j p h)
  refine ⟨8, 99, by decide, by decide, i_X1 hn r h_c (fun l S r kp => ?_)⟩
  have h_a := kp _ _ h_a
  have h_c := kp _ _ h_c
  have kk := fun (j p : Nat) h => kp j p (kk j p h)
  have r := r.r (f := 700) h_a h_c
  refine ⟨by decide, by decide, fun q_s hq => ?_⟩
  obtain ⟨l, r, h_s, kp⟩ := r.o (k := 8) (by decide) hq
  have h_a := kp _ _ h_a
  have h_c := kp _ _ h_c
  have kk := fun (j p : Nat) h => kp j p (kk j p h)
  refine ⟨6, 57, by decide, by decide, i_X8 hn r h_s (fun l S r kp => ?_)⟩
  have h_a := kp _ _ h_a
  have h_c := kp _ _ h_c
  have h_s := kp _ _ h_s
  have kk := fun (j p : Nat) h => kp j p (kk j p h)
  have r := r.r (f := 701) h_a h_s
  refine ⟨by decide, by decide, fun q_l hq => ?_⟩
  obtain ⟨l, r, h_l, kp⟩ := r.o (k := 2) (by decide) hq
  have h_a := kp _ _ h_a
  have h_c := kp _ _ h_c
  have h_s := kp _ _ h_s
  have kk := fun (j p : Nat) h => kp j p (kk j p h)
  refine ⟨3, 189, by decide, by decide, i_X2 hn r h_l (fun l S r kp => ?_)⟩
  have h_a := kp _ _ h_a
  have h_c := kp _ _ h_c
  have h_s := kp _ _ h_s
  have h_l := kp _ _ h_l
  have kk := fun (j p : Nat) h => kp j p (kk j p h)
  have r := r.r (f := 702) h_a h_l
  refine ⟨by decide, by decide, fun q_m hq => ?_⟩
  obtain ⟨l, r, h_m, kp⟩ := r.o (k := 2) (by decide) hq
  have h_a := kp _ _ h_a
  have h_c := kp _ _ h_c
  have h_s := kp _ _ h_s
  have h_l := kp _ _ h_l
  have kk := fun (j p : Nat) h => kp j p (kk j p h)
  refine ⟨3, 189, by decide, by decide, i_X2 hn r h_m (fun l S r kp => ?_)⟩
  have h_a := kp _ _ h_a
  have h_c := kp _ _ h_c
  have h_s := kp _ _ h_s
  have h_l := kp _ _ h_l
  have h_m := kp _ _ h_m
  have kk := fun (j p : Nat) h => kp j p (kk j p h)
  have r := r.r (f := 703) h_a h_m
  exact K _ _ r kk
def mX11 : pq_S := (sI (sR (nA (sR (nA (sR (mX5 (nO (sR (mX0 (nO (sR (mX0 (nO (sR (mX2 (nO (sR (mX1 (nO (sR (mX6 (nO (sR (mX4 (nO (sR (mX3 (nO (sR (mX7 (nO (sR (mX10 (nO (nO S00 0 11) 1 10) 2 1) 1100 0 (some 1)) 3 7) 4 3) 1101 0 (some 3)) 28 3) 29 28 3) 1102 0 (some 28)) 32 4) 33 32 3) 1103 0 (some 32)) 36 6) 37 36) 1104 0 (some 36)) 39 1) 40 39) 1105 0 (some 39)) 48 2) 49 48) 1106 0 (some 48)) 52 0) 53 52) 1107 0 (some 52)) 54 0) 55 54) 1108 0 (some 54)) 56 5) 57 56) 1109 0 (some 56)) 58 15 3) 1110 0 (some 58)) 59 14 41) 1111 0 (some 59)) 1113 0 (-1))
theorem i_X11 {n a : Nat} {Q : pq_S → Prop} (hn : 20000 ≤ n) (K : ∀ l2 S2, RR 60 l2 mX11 S2 → l2[0]? = some a → Q S2) : wp_X11_init n a (nO S00 a 11) 400 10000 Q := by
  obtain ⟨l, r, h_a, _⟩ := RR.o (q := a) (k := 11) (⟨REL.nil, rfl⟩ : RR 0 [] S00 S00) (by decide) (by intro h; cases h)
  have kk : ∀ (j p : Nat), l[j]? = some p → l[j]? = some p := fun _ _ h => h
  unfold wp_X11_init
  refine ⟨by decide, by decide, fun q_t hq => ?_⟩
  obtain ⟨l, r, h_t, kp⟩ := r.o (k := 10) (by decide) hq
  have h_a := kp _ _ h_a
  have kk := fun (j p : Nat) h => kp j p (kk j p h)
  refine ⟨1, 600, by decide, by decide, i_X10 hn r h_t (fun l S r kp => ?_)⟩
  have h_a := kp _ _ h_a
  have h_t := kp _ _ h_t
  have kk := fun (j p : Nat) h => kp j p (kk j p h)
  have r := r.r (f := 1100) h_a h_t
  refine ⟨by decide, by decide, fun q_s hq => ?_⟩
  obtain ⟨l, r, h_s, kp⟩ := r.o (k := 7) (by decide) hq
  have h_a := kp _ _ h_a
  have h_t := kp _ _ h_t
  have kk := fun (j p : Nat) h => kp j p (kk j p h)
  refine ⟨24, 555, by decide, by decide, i_X7 hn r h_s (fun l S r kp => ?_)⟩
  have h_a := kp _ _ h_a
  have h_t := kp _ _ h_t
  have h_s := kp _ _ h_s
  have kk := fun (j p : Nat) h => kp j p (kk j p h)
  have r := r.r (f := 1101) h_a h_s
  refine ⟨by decide, by decide, fun q_m hq => ?_⟩
  obtain ⟨l, r, h_m, kp⟩ := r.o (k := 3) (by decide) hq
  have h_a := kp _ _ h_a
  have h_t := kp _ _ h_t
  have h_s := kp _ _ h_s
  have kk := fun (j p : Nat) h => kp j p (kk j p h)
  refine ⟨q_s, r.1.r h_a h_s (by decide +kernel) (by decide +kernel), ?_⟩
  refine ⟨3, 311, by decide, by decide, i_X3 hn r h_m h_s (fun l S r kp => ?_)⟩
  have h_a := kp _ _ h_a
  have h_t := kp _ _ h_t
  have h_s := kp _ _ h_s
  have h_m := kp _ _ h_m
  have kk := fun (j p : Nat) h => kp j p (kk j p h)
  have r := r.r (f := 1102) h_a h_m
  refine ⟨by decide, by decide, fun q_n hq => ?_⟩
  obtain ⟨l, r, h_n, kp⟩ := r.o (k := 4) (by decide) hq
  have h_a := kp _ _ h_a
  have h_t := kp _ _ h_t
  have h_s := kp _ _ h_s
  have h_m := kp _ _ h_m
  have kk := fun (j p : Nat) h => kp j p (kk j p h)
  refine ⟨q_s, r.1.r h_a h_s (by decide +kernel) (by decide +kernel), ?_⟩
  refine ⟨3, 36, by decide, by decide, i_X4 hn r h_n h_s (fun l S r kp => ?_)⟩
  have h_a := kp _ _ h_a
  have h_t := kp _ _ h_t
  have h_s := kp _ _ h_s
  have h_m := kp _ _ h_m
  have h_n := kp _ _ h_n
  have kk := fun (j p : Nat) h => kp j p (kk j p h)
  have r := r.r (f := 1103) h_a h_n
  refine ⟨by decide, by decide, fun q_p hq => ?_⟩
  obtain ⟨l, r, h_p, kp⟩ := r.o (k := 6) (by decide) hq
  have h_a := kp _ _ h_a
  have h_t := kp _ _ h_t
  have h_s := kp _ _ h_s
  have h_m := kp _ _ h_m
  have h_n := kp _ _ h_n
  have kk := fun (j p : Nat) h => kp j p (kk j p h)
  refine ⟨2, 128, by decide, by decide, i_X6 hn r h_p (fun l S r kp => ?_)⟩
  have h_a := kp _ _ h_a
  have h_t := kp _ _ h_t
  have h_s := kp _ _ h_s
  have h_m := kp _ _ h_m
  have h_n := kp _ _ h_n
  have h_p := kp _ _ h_p
  have kk := fun (j p : Nat) h => kp j p (kk j p h)
  have r := r.r (f := 1104) h_a h_p
  refine ⟨by decide, by decide, fun q_c hq => ?_⟩
  obtain ⟨l, r, h_c, kp⟩ := r.o (k := 1) (by decide) hq
  have h_a := kp _ _ h_a
  have h_t := kp _ _ h_t
  have h_s := kp _ _ h_s
  have h_m := kp _ _ h_m
  have h_n := kp _ _ h_n
  have h_p := kp _ _ h_p
  have kk := fun (j p : Nat) h => kp j p (kk j p h)
  refine ⟨8, 99, by decide, by decide, i_X1 hn r h_c (fun l S r kp => ?_)⟩
  have h_a := kp _ _ h_a
  have h_t := kp _ _ h_t
  have h_s := kp _ _ h_s
  have h_m := kp _ _ h_m
  have h_n := kp _ _ h_n
  have h_p := kp _ _ h_p
  have h_c := kp _ _ h_c
  have kk := fun (j p : Nat) h => kp j p (kk j p h)
  have r := r.r (f := 1105) h_a h_c
  refine ⟨by decide, by decide, fun q_l hq => ?_⟩
  obtain ⟨l, r, h_l, kp⟩ := r.o (k := 2) (by decide) hq
  have h_a := kp _ _ h_a
  have h_t := kp _ _ h_t
  have h_s := kp _ _ h_s
  have h_m := kp _ _ h_m
  have h_n := kp _ _ h_n
  have h_p := kp _ _ h_p
  have h_c := kp _ _ h_c
  have kk := fun (j p : Nat) h => kp j p (kk j p h)
  refine ⟨3, 189, by decide, by decide, i_X2 hn r h_l (fun l S r kp => ?_)⟩
  have h_a := kp _ _ h_a
  have h_t := kp _ _ h_t
  have h_s := kp _ _ h_s
  have h_m := kp _ _ h_m
  have h_n := kp _ _ h_n
  have h_p := kp _ _ h_p
  have h_c := kp _ _ h_c
  have h_l := kp _ _ h_l
  have kk := fun (j p : Nat) h => kp j p (kk j p h)
  have r := r.r (f := 1106) h_a h_l
  refine ⟨by decide, by decide, fun q_b hq => ?_⟩
  obtain ⟨l, r, h_b, kp⟩ := r.o (k := 0) (by decide) hq
  have h_a := kp _ _ h_a
  have h_t := kp _ _ h_t
  have h_s := kp _ _ h_s
  have h_m := kp _ _ h_m
  have h_n := kp _ _ h_n
  have h_p := kp _ _ h_p
  have h_c := kp _ _ h_c
  have h_l := kp _ _ h_l
  have kk := fun (j p : Nat) h => kp j p (kk j p h)
  refine ⟨1, 6, by decide, by decide, i_X0 hn r h_b (fun l S r kp => ?_)⟩
  have h_a := kp _ _ h_a
  have h_t := kp _ _ h_t
  have h_s := kp _ _ h_s
  have h_m := kp _ _ h_m
  have h_n := kp _ _ h_n
  have h_p := kp _ _ h_p
  have h_c := kp _ _ h_c
  have h_l := kp _ _ h_l
  have h_b := kp _ _ h_b
  have kk := fun (j p : Nat) h => kp j p (kk j p h)
  have r := r.r (f := 1107) h_a h_b
  refine ⟨by decide, by decide, fun q_d hq => ?_⟩
  obtain ⟨l, r, h_d, kp⟩ := r.o (k := 0) (by decide) hq
  have h_a := kp _ _ h_a
  have h_t := kp _ _ h_t
  have h_s := kp _ _ h_s
  have h_m := kp _ _ h_m
  have h_n := kp _ _ h_n
  have h_p := kp _ _ h_p
  have h_c := kp _ _ h_c
  have h_l := kp _ _ h_l
  have h_b := kp _ _ h_b
  have kk := fun (j p : Nat) h => kp j p (kk j p h)
  refine ⟨1, 6, by decide, by decide, i_X0 hn r h_d (fun l S r kp => ?_)⟩
  have h_a := kp _ _ h_a
  have h_t := kp _ _ h_t
  have h_s := kp _ _ h_s
  have h_m := kp _ _ h_m
  have h_n := kp _ _ h_n
  have h_p := kp _ _ h_p
  have h_c := kp _ _ h_c
  have h_l := kp _ _ h_l
  have h_b := kp _ _ h_b
  have h_d := kp _ _ h_d
  have kk := fun (j p : Nat) h => kp j p (kk j p h)
  have r := r.r (f := 1108) h_a h_d
  refine ⟨by decide, by decide, fun q_e hq => ?_⟩
  obtain ⟨l, r, h_e, kp⟩ := r.o (k := 5) (by decide) hq
  have h_a := kp _ _ h_a
  have h_t := kp _ _ h_t
  have h_s := kp _ _ h_s
  have h_m := kp _ _ h_m
  have h_n := kp _ _ h_n
  have h_p := kp _ _ h_p
  have h_c := kp _ _ h_c
  have h_l := kp _ _ h_l
  have h_b := kp _ _ h_b
  have h_d := kp _ _ h_d
  have kk := fun (j p : Nat) h => kp j p (kk j p h)
  refine ⟨1, 17, by decide, by decide, i_X5 hn r h_e (fun l S r kp => ?_)⟩
  have h_a := kp _ _ h_a
  have h_t := kp _ _ h_t
  have h_s := kp _ _ h_s
  have h_m := kp _ _ h_m
  have h_n := kp _ _ h_n
  have h_p := kp _ _ h_p
  have h_c := kp _ _ h_c
  have h_l := kp _ _ h_l
  have h_b := kp _ _ h_b
  have h_d := kp _ _ h_d
  have h_e := kp _ _ h_e
  have kk := fun (j p : Nat) h => kp j p (kk j p h)
  have r := r.r (f := 1109) h_a h_e
  refine ⟨by decide, by decide, fun q_f hq => ?_⟩
  obtain ⟨l, r, h_f, kp⟩ := r.a (k := 15) (m := 3) (by decide) hq
  have h_a := kp _ _ h_a
  have h_t := kp _ _ h_t
  have h_s := kp _ _ h_s
  have h_m := kp _ _ h_m
  have h_n := kp _ _ h_n
  have h_p := kp _ _ h_p
  have h_c := kp _ _ h_c
  have h_l := kp _ _ h_l
  have h_b := kp _ _ h_b
  have h_d := kp _ _ h_d
  have h_e := kp _ _ h_e
  have kk := fun (j p : Nat) h => kp j p (kk j p h)
  have r := r.r (f := 1110) h_a h_f
  refine ⟨by decide, by decide, fun q_g hq => ?_⟩
  obtain ⟨l, r, h_g, kp⟩ := r.a (k := 14) (m := 41) (by decide) hq
  have h_a := kp _ _ h_a
  have h_t := kp _ _ h_t
  have h_s := kp _ _ h_s
  have h_m := kp _ _ h_m
  have h_n := kp _ _ h_n
  have h_p := kp _ _ h_p
  have h_c := kp _ _ h_c
  have h_l := kp _ _ h_l
  have h_b := kp _ _ h_b
  have h_d := kp _ _ h_d
  have h_e := kp _ _ h_e
  have h_f := kp _ _ h_f
  have kk := fun (j p : Nat) h => kp j p (kk j p h)
  refine lt_i ?_
  have r := r.r (f := 1111) h_a h_g
  have r := r.i (f := 1113) (v := (-1)) h_a
  exact K _ _ r h_a
def mX12 (M : pq_S) (b i : Nat) : pq_S := (sR (nA (sR (nA (sR (nA (sR (nA (sR (nA (sR (nA (sR (nA (sR (nA (sR (nA (sR (nA (sR (nA (sR (nA (sR (nA (sR (nA (sR (nA (sR (nA (sR (nA (sR (nA (sR (nA (sR (nA (sR (nA (sR (nA (sR (nA (sR (nA (sR (nA (sR (nA (sR (nA (sR (nA (sR (nA (sR (nA (sI (sR (nA M b 14 2) 1201 i (some b)) 1208 i (-1)) (b + 1) 14 600) 1209 i (some (b + 1))) (b + 2) 14 24) 1210 i (some (b + 2))) (b + 3) 14 48) 1211 i (some (b + 3))) (b + 4) 14 9) 1212 i (some (b + 4))) (b + 5) 14 6) 1213 i (some (b + 5))) (b + 6) 14 24) 1214 i (some (b + 6))) (b + 7) 14 48) 1215 i (some (b + 7))) (b + 8) 14 9) 1216 i (some (b + 8))) (b + 9) 14 6) 1217 i (some (b + 9))) (b + 10) 14 150) 1230 i (some (b + 10))) (b + 11) 14 150) 1231 i (some (b + 11))) (b + 12) 14 300) 1232 i (some (b + 12))) (b + 13) 14 300) 1233 i (some (b + 13))) (b + 14) 14 2) 1234 i (some (b + 14))) (b + 15) 14 150) 1235 i (some (b + 15))) (b + 16) 14 7) 1237 i (some (b + 16))) (b + 17) 14 250) 1238 i (some (b + 17))) (b + 18) 14 250) 1239 i (some (b + 18))) (b + 19) 14 50) 1246 i (some (b + 19))) (b + 20) 14 50) 1247 i (some (b + 20))) (b + 21) 14 800) 1248 i (some (b + 21))) (b + 22) 14 12) 1249 i (some (b + 22))) (b + 23) 14 12) 1250 i (some (b + 23))) (b + 24) 14 12) 1252 i (some (b + 24))) (b + 25) 14 12) 1259 i (some (b + 25))) (b + 26) 14 12) 1260 i (some (b + 26))) (b + 27) 14 41) 1262 i (some (b + 27))) (b + 28) 14 41) 1263 i (some (b + 28))) (b + 29) 14 6) 1264 i (some (b + 29))) (b + 30) 14 2553) 1271 i (some (b + 30)))
theorem i_X12 {n b i a : Nat} {l : List Nat} {M S : pq_S} {Q : pq_S → Prop} (hn : 20000 ≤ n) (r : RR b l M S) (h_a : l[i]? = some a) (K : ∀ l2 S2, RR (b + 31) l2 (mX12 M b i) S2 → (∀ (j p : Nat), l[j]? = some p → l2[j]? = some p) → ∃ S3, m_X12_clears n a S2 = some S3 ∧ ∃ S4, m_X12_sets n a S3 = some S4 ∧ Q S4) : wp_X12_init n a S 400 15000 Q := by
  have kk : ∀ (j p : Nat), l[j]? = some p → l[j]? = some p := fun _ _ h => h
  unfold wp_X12_init
  refine ⟨by decide, by decide, fun q_x1 hq => ?_⟩
  obtain ⟨l, r, h_x1, kp⟩ := r.a (k := 14) (m := 2) (by decide) hq
  have h_a := kp _ _ h_a
  have kk := fun (j p : Nat) h => kp j p (kk j p h)
  have r := r.r (f := 1201) h_a h_x1
  have r := r.i (f := 1208) (v := (-1)) h_a
  refine ⟨by decide, by decide, fun q_x2 hq => ?_⟩
  obtain ⟨l, r, h_x2, kp⟩ := r.a (k := 14) (m := 600) (by decide) hq
  have h_a := kp _ _ h_a
  have h_x1 := kp _ _ h_x1
  have kk := fun (j p : Nat) h => kp j p (kk j p h)
  refine lt_i ?_
  have r := r.r (f := 1209) h_a h_x2
  refine ⟨by decide, by decide, fun q_x3 hq => ?_⟩
  obtain ⟨l, r, h_x3, kp⟩ := r.a (k := 14) (m := 24) (by decide) hq
  have h_a := kp _ _ h_a
  have h_x1 := kp _ _ h_x1
  have h_x2 := kp _ _ h_x2
  have kk := fun (j p : Nat) h => kp j p (kk j p h)
  have r := r.r (f := 1210) h_a h_x3
  refine ⟨by decide, by decide, fun q_x4 hq => ?_⟩
  obtain ⟨l, r, h_x4, kp⟩ := r.a (k := 14) (m := 48) (by decide) hq
  have h_a := kp _ _ h_a
  have h_x1 := kp _ _ h_x1
  have h_x2 := kp _ _ h_x2
  have h_x3 := kp _ _ h_x3
  have kk := fun (j p : Nat) h => kp j p (kk j p h)
  refine lt_i ?_
  have r := r.r (f := 1211) h_a h_x4
  refine ⟨by decide, by decide, fun q_x5 hq => ?_⟩
  obtain ⟨l, r, h_x5, kp⟩ := r.a (k := 14) (m := 9) (by decide) hq
  have h_a := kp _ _ h_a
  have h_x1 := kp _ _ h_x1
  have h_x2 := kp _ _ h_x2
  have h_x3 := kp _ _ h_x3
  have h_x4 := kp _ _ h_x4
  have kk := fun (j p : Nat) h => kp j p (kk j p h)
  have r := r.r (f := 1212) h_a h_x5
  refine ⟨by decide, by decide, fun q_x6 hq => ?_⟩
  obtain ⟨l, r, h_x6, kp⟩ := r.a (k := 14) (m := 6) (by decide) hq
  have h_a := kp _ _ h_a
  have h_x1 := kp _ _ h_x1
  have h_x2 := kp _ _ h_x2
  have h_x3 := kp _ _ h_x3
  have h_x4 := kp _ _ h_x4
  have h_x5 := kp _ _ h_x5
  have kk := fun (j p : Nat) h => kp j p (kk j p h)
  refine lt_i ?_
  have r := r.r (f := 1213) h_a h_x6
  refine ⟨by decide, by decide, fun q_x7 hq => ?_⟩
  obtain ⟨l, r, h_x7, kp⟩ := r.a (k := 14) (m := 24) (by decide) hq
  have h_a := kp _ _ h_a
  have h_x1 := kp _ _ h_x1
  have h_x2 := kp _ _ h_x2
  have h_x3 := kp _ _ h_x3
  have h_x4 := kp _ _ h_x4
  have h_x5 := kp _ _ h_x5
  have h_x6 := kp _ _ h_x6
  have kk := fun (j p : Nat) h => kp j p (kk j p h)
  have r := r.r (f := 1214) h_a h_x7
  refine ⟨by decide, by decide, fun q_x8 hq => ?_⟩
  obtain ⟨l, r, h_x8, kp⟩ := r.a (k := 14) (m := 48) (by decide) hq
  have h_a := kp _ _ h_a
  have h_x1 := kp _ _ h_x1
  have h_x2 := kp _ _ h_x2
  have h_x3 := kp _ _ h_x3
  have h_x4 := kp _ _ h_x4
  have h_x5 := kp _ _ h_x5
  have h_x6 := kp _ _ h_x6
  have h_x7 := kp _ _ h_x7
  have kk := fun (j p : Nat) h => kp j p (kk j p h)
  refine lt_i ?_
  have r := r.r (f := 1215) h_a h_x8
  refine ⟨by decide, by decide, fun q_x9 hq => ?_⟩
  obtain ⟨l, r, h_x9, kp⟩ := r.a (k := 14) (m := 9) (by decide) hq
  have h_a := kp _ _ h_a
  have h_x1 := kp _ _ h_x1
  have h_x2 := kp _ _ h_x2
  have h_x3 := kp _ _ h_x3
  have h_x4 := kp _ _ h_x4
  have h_x5 := kp _ _ h_x5
  have h_x6 := kp _ _ h_x6
  have h_x7 := kp _ _ h_x7
  have h_x8 := kp _ _ h_x8
  have kk := fun (j p : Nat) h => kp j p (kk j p h)
  have r := r.r (f := 1216) h_a h_x9
  refine ⟨by decide, by decide, fun q_x10 hq => ?_⟩
  obtain ⟨l, r, h_x10, kp⟩ := r.a (k := 14) (m := 6) (by decide) hq
  have h_a := kp _ _ h_a
  have h_x1 := kp _ _ h_x1
  have h_x2 := kp _ _ h_x2
  have h_x3 := kp _ _ h_x3
  have h_x4 := kp _ _ h_x4
  have h_x5 := kp _ _ h_x5
  have h_x6 := kp _ _ h_x6
  have h_x7 := kp _ _ h_x7
  have h_x8 := kp _ _ h_x8
  have h_x9 := kp _ _ h_x9
  have kk := fun (j p : Nat) h => kp j p (kk j p h)
  refine lt_i ?_
  have r := r.r (f := 1217) h_a h_x10
  refine ⟨by decide, by decide, fun q_x11 hq => ?_⟩
  obtain ⟨l, r, h_x11, kp⟩ := r.a (k := 14) (m := 150) (by decide) hq
  have h_a := kp _ _ h_a
  have h_x1 := kp _ _ h_x1
  have h_x2 := kp _ _ h_x2
  have h_x3 := kp _ _ h_x3
  have h_x4 := kp _ _ h_x4
  have h_x5 := kp _ _ h_x5
  have h_x6 := kp _ _ h_x6
  have h_x7 := kp _ _ h_x7
  have h_x8 := kp _ _ h_x8
  have h_x9 := kp _ _ h_x9
  have h_x10 := kp _ _ h_x10
  have kk := fun (j p : Nat) h => kp j p (kk j p h)
  have r := r.r (f := 1230) h_a h_x11
  refine ⟨by decide, by decide, fun q_x12 hq => ?_⟩
  obtain ⟨l, r, h_x12, kp⟩ := r.a (k := 14) (m := 150) (by decide) hq
  have h_a := kp _ _ h_a
  have h_x1 := kp _ _ h_x1
  have h_x2 := kp _ _ h_x2
  have h_x3 := kp _ _ h_x3
  have h_x4 := kp _ _ h_x4
  have h_x5 := kp _ _ h_x5
  have h_x6 := kp _ _ h_x6
  have h_x7 := kp _ _ h_x7
  have h_x8 := kp _ _ h_x8
  have h_x9 := kp _ _ h_x9
  have h_x10 := kp _ _ h_x10
  have h_x11 := kp _ _ h_x11
  have kk := fun (j p : Nat) h => kp j p (kk j p h)
  refine lt_i ?_
  have r := r.r (f := 1231) h_a h_x12
  refine ⟨by decide, by decide, fun q_x13 hq => ?_⟩
  obtain ⟨l, r, h_x13, kp⟩ := r.a (k := 14) (m := 300) (by decide) hq
  have h_a := kp _ _ h_a
  have h_x1 := kp _ _ h_x1
  have h_x2 := kp _ _ h_x2
  have h_x3 := kp _ _ h_x3
  have h_x4 := kp _ _ h_x4
  have h_x5 := kp _ _ h_x5
  have h_x6 := kp _ _ h_x6
  have h_x7 := kp _ _ h_x7
  have h_x8 := kp _ _ h_x8
  have h_x9 := kp _ _ h_x9
  have h_x10 := kp _ _ h_x10
  have h_x11 := kp _ _ h_x11
  have h_x12 := kp _ _ h_x12
  have kk := fun (j p : Nat) h => kp j p (kk j p h)
  have r := r.r (f := 1232) h_a h_x13
  refine ⟨by decide, by decide, fun q_x14 hq => ?_⟩
  obtain ⟨l, r, h_x14, kp⟩ := r.a (k := 14) (m := 300) (by decide) hq
  have h_a := kp _ _ h_a
  have h_x1 := kp _ _ h_x1
  have h_x2 := kp _ _ h_x2
  have h_x3 := kp _ _ h_x3
  have h_x4 := kp _ _ h_x4
  have h_x5 := kp _ _ h_x5
  have h_x6 := kp _ _ h_x6
  have h_x7 := kp _ _ h_x7
  have h_x8 := kp _ _ h_x8
  have h_x9 := kp _ _ h_x9
  have h_x10 := kp _ _ h_x10
  have h_x11 := kp _ _ h_x11
  have h_x12 := kp _ _ h_x12
  have h_x13 := kp _ _ h_x13
  have kk := fun (j p : Nat) h => kp j p (kk j p h)
  refine lt_i ?_
  have r := r.r (f := 1233) h_a h_x14
  refine ⟨by decide, by decide, fun q_x15 hq => ?_⟩
  obtain ⟨l, r, h_x15, kp⟩ := r.a (k := 14) (m := 2) (by decide) hq
  have h_a := kp _ _ h_a
  have h_x1 := kp _ _ h_x1
  have h_x2 := kp _ _ h_x2
  have h_x3 := kp _ _ h_x3
  have h_x4 := kp _ _ h_x4
  have h_x5 := kp _ _ h_x5
  have h_x6 := kp _ _ h_x6
  have h_x7 := kp _ _ h_x7
  have h_x8 := kp _ _ h_x8
  have h_x9 := kp _ _ h_x9
  have h_x10 := kp _ _ h_x10
  have h_x11 := kp _ _ h_x11
  have h_x12 := kp _ _ h_x12
  have h_x13 := kp _ _ h_x13
  have h_x14 := kp _ _ h_x14
  have kk := fun (j p : Nat) h => kp j p (kk j p h)
  have r := r.r (f := 1234) h_a h_x15
  refine ⟨by decide, by decide, fun q_x16 hq => ?_⟩
  obtain ⟨l, r, h_x16, kp⟩ := r.a (k := 14) (m := 150) (by decide) hq
  have h_a := kp _ _ h_a
  have h_x1 := kp _ _ h_x1
  have h_x2 := kp _ _ h_x2
  have h_x3 := kp _ _ h_x3
  have h_x4 := kp _ _ h_x4
  have h_x5 := kp _ _ h_x5
  have h_x6 := kp _ _ h_x6
  have h_x7 := kp _ _ h_x7
  have h_x8 := kp _ _ h_x8
  have h_x9 := kp _ _ h_x9
  have h_x10 := kp _ _ h_x10
  have h_x11 := kp _ _ h_x11
  have h_x12 := kp _ _ h_x12
  have h_x13 := kp _ _ h_x13
  have h_x14 := kp _ _ h_x14
  have h_x15 := kp _ _ h_x15
  have kk := fun (j p : Nat) h => kp j p (kk j p h)
  refine lt_i ?_
  have r := r.r (f := 1235) h_a h_x16
  refine ⟨by decide, by decide, fun q_x17 hq => ?_⟩
  obtain ⟨l, r, h_x17, kp⟩ := r.a (k := 14) (m := 7) (by decide) hq
  have h_a := kp _ _ h_a
  have h_x1 := kp _ _ h_x1
  have h_x2 := kp _ _ h_x2
  have h_x3 := kp _ _ h_x3
  have h_x4 := kp _ _ h_x4
  have h_x5 := kp _ _ h_x5
  have h_x6 := kp _ _ h_x6
  have h_x7 := kp _ _ h_x7
  have h_x8 := kp _ _ h_x8
  have h_x9 := kp _ _ h_x9
  have h_x10 := kp _ _ h_x10
  have h_x11 := kp _ _ h_x11
  have h_x12 := kp _ _ h_x12
  have h_x13 := kp _ _ h_x13
  have h_x14 := kp _ _ h_x14
  have h_x15 := kp _ _ h_x15
  have h_x16 := kp _ _ h_x16
  have kk := fun (j p : Nat) h => kp j p (kk j p h)
  have r := r.r (f := 1237) h_a h_x17
  refine ⟨by decide, by decide, fun q_x18 hq => ?_⟩
  obtain ⟨l, r, h_x18, kp⟩ := r.a (k := 14) (m := 250) (by decide) hq
  have h_a := kp _ _ h_a
  have h_x1 := kp _ _ h_x1
  have h_x2 := kp _ _ h_x2
  have h_x3 := kp _ _ h_x3
  have h_x4 := kp _ _ h_x4
  have h_x5 := kp _ _ h_x5
  have h_x6 := kp _ _ h_x6
  have h_x7 := kp _ _ h_x7
  have h_x8 := kp _ _ h_x8
  have h_x9 := kp _ _ h_x9
  have h_x10 := kp _ _ h_x10
  have h_x11 := kp _ _ h_x11
  have h_x12 := kp _ _ h_x12
  have h_x13 := kp _ _ h_x13
  have h_x14 := kp _ _ h_x14
  have h_x15 := kp _ _ h_x15
  have h_x16 := kp _ _ h_x16
  have h_x17 := kp _ _ h_x17
  have kk := fun (j p : Nat) h => kp j p (kk j p h)
  refine lt_i ?_
  have r := r.r (f := 1238) h_a h_x18
  refine ⟨by decide, by decide, fun q_x19 hq => ?_⟩
  obtain ⟨l, r, h_x19, kp⟩ := r.a (k := 14) (m := 250) (by decide) hq
  have h_a := kp _ _ h_a
  have h_x1 := kp _ _ h_x1
  have h_x2 := kp _ _ h_x2
  have h_x3 := kp _ _ h_x3
  have h_x4 := kp _ _ h_x4
  have h_x5 := kp _ _ h_x5
  have h_x6 := kp _ _ h_x6
  have h_x7 := kp _ _ h_x7
  have h_x8 := kp _ _ h_x8
  have h_x9 := kp _ _ h_x9
  have h_x10 := kp _ _ h_x10
  have h_x11 := kp _ _ h_x11
  have h_x12 := kp _ _ h_x12
  have h_x13 := kp _ _ h_x13
  have h_x14 := kp _ _ h_x14
  have h_x15 := kp _ _ h_x15
  have h_x16 := kp _ _ h_x16
  have h_x17 := kp _ _ h_x17
  have h_x18 := kp _ _ h_x18
  have kk := fun (j p : Nat) h => kp j p (kk j p h)
  refine lt_i ?_
  have r := r.r (f := 1239) h_a h_x19
  refine ⟨by decide, by decide, fun q_x20 hq => ?_⟩
  obtain ⟨l, r, h_x20, kp⟩ := r.a (k := 14) (m := 50) (by decide) hq
  have h_a := kp _ _ h_a
  have h_x1 := kp _ _ h_x1
  have h_x2 := kp _ _ h_x2
  have h_x3 := kp _ _ h_x3
  have h_x4 := kp _ _ h_x4
  have h_x5 := kp _ _ h_x5
  have h_x6 := kp _ _ h_x6
  have h_x7 := kp _ _ h_x7
  have h_x8 := kp _ _ h_x8
  have h_x9 := kp _ _ h_x9
  have h_x10 := kp _ _ h_x10
  have h_x11 := kp _ _ h_x11
  have h_x12 := kp _ _ h_x12
  have h_x13 := kp _ _ h_x13
  have h_x14 := kp _ _ h_x14
  have h_x15 := kp _ _ h_x15
  have h_x16 := kp _ _ h_x16
  have h_x17 := kp _ _ h_x17
  have h_x18 := kp _ _ h_x18
  have h_x19 := kp _ _ h_x19
  have kk := fun (j p : Nat) h => kp j p (kk j p h)
  have r := r.r (f := 1246) h_a h_x20
  refine ⟨by decide, by decide, fun q_x21 hq => ?_⟩
  obtain ⟨l, r, h_x21, kp⟩ := r.a (k := 14) (m := 50) (by decide) hq
  have h_a := kp _ _ h_a
  have h_x1 := kp _ _ h_x1
  have h_x2 := kp _ _ h_x2
  have h_x3 := kp _ _ h_x3
  have h_x4 := kp _ _ h_x4
  have h_x5 := kp _ _ h_x5
  have h_x6 := kp _ _ h_x6
  have h_x7 := kp _ _ h_x7
  have h_x8 := kp _ _ h_x8
  have h_x9 := kp _ _ h_x9
  have h_x10 := kp _ _ h_x10
  have h_x11 := kp _ _ h_x11
  have h_x12 := kp _ _ h_x12
  have h_x13 := kp _ _ h_x13
  have h_x14 := kp _ _ h_x14
  have h_x15 := kp _ _ h_x15
  have h_x16 := kp _ _ h_x16
  have h_x17 := kp _ _ h_x17
  have h_x18 := kp _ _ h_x18
  have h_x19 := kp _ _ h_x19
  have h_x20 := kp _ _ h_x20
  have kk := fun (j p : Nat) h => kp j p (kk j p h)
  refine lt_i ?_
  have r := r.r (f := 1247) h_a h_x21
  refine ⟨by decide, by decide, fun q_x22 hq => ?_⟩
  obtain ⟨l, r, h_x22, kp⟩ := r.a (k := 14) (m := 800) (by decide) hq
  have h_a := kp _ _ h_a
  have h_x1 := kp _ _ h_x1
  have h_x2 := kp _ _ h_x2
  have h_x3 := kp _ _ h_x3
  have h_x4 := kp _ _ h_x4
  have h_x5 := kp _ _ h_x5
  have h_x6 := kp _ _ h_x6
  have h_x7 := kp _ _ h_x7
  have h_x8 := kp _ _ h_x8
  have h_x9 := kp _ _ h_x9
  have h_x10 := kp _ _ h_x10
  have h_x11 := kp _ _ h_x11
  have h_x12 := kp _ _ h_x12
  have h_x13 := kp _ _ h_x13
  have h_x14 := kp _ _ h_x14
  have h_x15 := kp _ _ h_x15
  have h_x16 := kp _ _ h_x16
  have h_x17 := kp _ _ h_x17
  have h_x18 := kp _ _ h_x18
  have h_x19 := kp _ _ h_x19
  have h_x20 := kp _ _ h_x20
  have h_x21 := kp _ _ h_x21
  have kk := fun (j p : Nat) h => kp j p (kk j p h)
  have r := r.r (f := 1248) h_a h_x22
  refine ⟨by decide, by decide, fun q_x23 hq => ?_⟩
  obtain ⟨l, r, h_x23, kp⟩ := r.a (k := 14) (m := 12) (by decide) hq
  have h_a := kp _ _ h_a
  have h_x1 := kp _ _ h_x1
  have h_x2 := kp _ _ h_x2
  have h_x3 := kp _ _ h_x3
  have h_x4 := kp _ _ h_x4
  have h_x5 := kp _ _ h_x5
  have h_x6 := kp _ _ h_x6
  have h_x7 := kp _ _ h_x7
  have h_x8 := kp _ _ h_x8
  have h_x9 := kp _ _ h_x9
  have h_x10 := kp _ _ h_x10
  have h_x11 := kp _ _ h_x11
  have h_x12 := kp _ _ h_x12
  have h_x13 := kp _ _ h_x13
  have h_x14 := kp _ _ h_x14
  have h_x15 := kp _ _ h_x15
  have h_x16 := kp _ _ h_x16
  have h_x17 := kp _ _ h_x17
  have h_x18 := kp _ _ h_x18
  have h_x19 := kp _ _ h_x19
  have h_x20 := kp _ _ h_x20
  have h_x21 := kp _ _ h_x21
  have h_x22 := kp _ _ h_x22
  have kk := fun (j p : Nat) h => kp j p (kk j p h)
  refine lt_i ?_
  have r := r.r (f := 1249) h_a h_x23
  refine ⟨by decide, by decide, fun q_x24 hq => ?_⟩
  obtain ⟨l, r, h_x24, kp⟩ := r.a (k := 14) (m := 12) (by decide) hq
  have h_a := kp _ _ h_a
  have h_x1 := kp _ _ h_x1
  have h_x2 := kp _ _ h_x2
  have h_x3 := kp _ _ h_x3
  have h_x4 := kp _ _ h_x4
  have h_x5 := kp _ _ h_x5
  have h_x6 := kp _ _ h_x6
  have h_x7 := kp _ _ h_x7
  have h_x8 := kp _ _ h_x8
  have h_x9 := kp _ _ h_x9
  have h_x10 := kp _ _ h_x10
  have h_x11 := kp _ _ h_x11
  have h_x12 := kp _ _ h_x12
  have h_x13 := kp _ _ h_x13
  have h_x14 := kp _ _ h_x14
  have h_x15 := kp _ _ h_x15
  have h_x16 := kp _ _ h_x16
  have h_x17 := kp _ _ h_x17
  have h_x18 := kp _ _ h_x18
  have h_x19 := kp _ _ h_x19
  have h_x20 := kp _ _ h_x20
  have h_x21 := kp _ _ h_x21
  have h_x22 := kp _ _ h_x22
  have h_x23 := kp _ _ h_x23
  have kk := fun (j p : Nat) h => kp j p (kk j p h)
  have r := r.r (f := 1250) h_a h_x24
  refine ⟨by decide, by decide, fun q_x25 hq => ?_⟩
  obtain ⟨l, r, h_x25, kp⟩ := r.a (k := 14) (m := 12) (by decide) hq
  have h_a := kp _ _ h_a
  have h_x1 := kp _ _ h_x1
  have h_x2 := kp _ _ h_x2
  have h_x3 := kp _ _ h_x3
  have h_x4 := kp _ _ h_x4
  have h_x5 := kp _ _ h_x5
  have h_x6 := kp _ _ h_x6
  have h_x7 := kp _ _ h_x7
  have h_x8 := kp _ _ h_x8
  have h_x9 := kp _ _ h_x9
  have h_x10 := kp _ _ h_x10
  have h_x11 := kp _ _ h_x11
  have h_x12 := kp _ _ h_x12
  have h_x13 := kp _ _ h_x13
  have h_x14 := kp _ _ h_x14
  have h_x15 := kp _ _ h_x15
  have h_x16 := kp _ _ h_x16
  have h_x17 := kp _ _ h_x17
  have h_x18 := kp _ _ h_x18
  have h_x19 := kp _ _ h_x19
  have h_x20 := kp _ _ h_x20
  have h_x21 := kp _ _ h_x21
  have h_x22 := kp _ _ h_x22
  have h_x23 := kp _ _ h_x23
  have h_x24 := kp _ _ h_x24
  have kk := fun (j p : Nat) h => kp j p (kk j p h)
  refine lt_i ?_
  have r := r.r (f := 1252) h_a h_x25
  refine ⟨by decide, by decide, fun q_x26 hq => ?_⟩
  obtain ⟨l, r, h_x26, kp⟩ := r.a (k := 14) (m := 12) (by decide) hq
  have h_a := kp _ _ h_a
  have h_x1 := kp _ _ h_x1
  have h_x2 := kp _ _ h_x2
  have h_x3 := kp _ _ h_x3
  have h_x4 := kp _ _ h_x4
  have h_x5 := kp _ _ h_x5
  have h_x6 := kp _ _ h_x6
  have h_x7 := kp _ _ h_x7
  have h_x8 := kp _ _ h_x8
  have h_x9 := kp _ _ h_x9
  have h_x10 := kp _ _ h_x10
  have h_x11 := kp _ _ h_x11
  have h_x12 := kp _ _ h_x12
  have h_x13 := kp _ _ h_x13
  have h_x14 := kp _ _ h_x14
  have h_x15 := kp _ _ h_x15
  have h_x16 := kp _ _ h_x16
  have h_x17 := kp _ _ h_x17
  have h_x18 := kp _ _ h_x18
  have h_x19 := kp _ _ h_x19
  have h_x20 := kp _ _ h_x20
  have h_x21 := kp _ _ h_x21
  have h_x22 := kp _ _ h_x22
  have h_x23 := kp _ _ h_x23
  have h_x24 := kp _ _ h_x24
  have h_x25 := kp _ _ h_x25
  have kk := fun (j p : Nat) h => kp j p (kk j p h)
  have r := r.r (f := 1259) h_a h_x26
  refine ⟨by decide, by decide, fun q_x27 hq => ?_⟩
  obtain ⟨l, r, h_x27, kp⟩ := r.a (k := 14) (m := 12) (by decide) hq
  have h_a := kp _ _ h_a
  have h_x1 := kp _ _ h_x1
  have h_x2 := kp _ _ h_x2
  have h_x3 := kp _ _ h_x3
  have h_x4 := kp _ _ h_x4
  have h_x5 := kp _ _ h_x5
  have h_x6 := kp _ _ h_x6
  have h_x7 := kp _ _ h_x7
  have h_x8 := kp _ _ h_x8
  have h_x9 := kp _ _ h_x9
  have h_x10 := kp _ _ h_x10
  have h_x11 := kp _ _ h_x11
  have h_x12 := kp _ _ h_x12
  have h_x13 := kp _ _ h_x13
  have h_x14 := kp _ _ h_x14
  have h_x15 := kp _ _ h_x15
  have h_x16 := kp _ _ h_x16
  have h_x17 := kp _ _ h_x17
  have h_x18 := kp _ _ h_x18
  have h_x19 := kp _ _ h_x19
  have h_x20 := kp _ _ h_x20
  have h_x21 := kp _ _ h_x21
  have h_x22 := kp _ _ h_x22
  have h_x23 := kp _ _ h_x23
  have h_x24 := kp _ _ h_x24
  have h_x25 := kp _ _ h_x25
  have h_x26 := kp _ _ h_x26
  have kk := fun (j p : Nat) h => kp j p (kk j p h)
  refine lt_i ?_
  have r := r.r (f := 1260) h_a h_x27
  refine ⟨by decide, by decide, fun q_x28 hq => ?_⟩
  obtain ⟨l, r, h_x28, kp⟩ := r.a (k := 14) (m := 41) (by decide) hq
  have h_a := kp _ _ h_a
  have h_x1 := kp _ _ h_x1
  have h_x2 := kp _ _ h_x2
  have h_x3 := kp _ _ h_x3
  have h_x4 := kp _ _ h_x4
  have h_x5 := kp _ _ h_x5
  have h_x6 := kp _ _ h_x6
  have h_x7 := kp _ _ h_x7
  have h_x8 := kp _ _ h_x8
  have h_x9 := kp _ _ h_x9
  have h_x10 := kp _ _ h_x10
  have h_x11 := kp _ _ h_x11
  have h_x12 := kp _ _ h_x12
  have h_x13 := kp _ _ h_x13
  have h_x14 := kp _ _ h_x14
  have h_x15 := kp _ _ h_x15
  have h_x16 := kp _ _ h_x16
  have h_x17 := kp _ _ h_x17
  have h_x18 := kp _ _ h_x18
  have h_x19 := kp _ _ h_x19
  have h_x20 := kp _ _ h_x20
  have h_x21 := kp _ _ h_x21
  have h_x22 := kp _ _ h_x22
  have h_x23 := kp _ _ h_x23
  have h_x24 := kp _ _ h_x24
  have h_x25 := kp _ _ h_x25
  have h_x26 := kp _ _ h_x26
  have h_x27 := kp _ _ h_x27
  have kk := fun (j p : Nat) h => kp j p (kk j p h)
  have r := r.r (f := 1262) h_a h_x28
  refine ⟨by decide, by decide, fun q_x29 hq => ?_⟩
  obtain ⟨l, r, h_x29, kp⟩ := r.a (k := 14) (m := 41) (by decide) hq
  have h_a := kp _ _ h_a
  have h_x1 := kp _ _ h_x1
  have h_x2 := kp _ _ h_x2
  have h_x3 := kp _ _ h_x3
  have h_x4 := kp _ _ h_x4
  have h_x5 := kp _ _ h_x5
  have h_x6 := kp _ _ h_x6
  have h_x7 := kp _ _ h_x7
  have h_x8 := kp _ _ h_x8
  have h_x9 := kp _ _ h_x9
  have h_x10 := kp _ _ h_x10
  have h_x11 := kp _ _ h_x11
  have h_x12 := kp _ _ h_x12
  have h_x13 := kp _ _ h_x13
  have h_x14 := kp _ _ h_x14
  have h_x15 := kp _ _ h_x15
  have h_x16 := kp _ _ h_x16
  have h_x17 := kp _ _ h_x17
  have h_x18 := kp _ _ h_x18
  have h_x19 := kp _ _ h_x19
  have h_x20 := kp _ _ h_x20
  have h_x21 := kp _ _ h_x21
  have h_x22 := kp _ _ h_x22
  have h_x23 := kp _ _ h_x23
  have h_x24 := kp _ _ h_x24
  have h_x25 := kp _ _ h_x25
  have h_x26 := kp _ _ h_x26
  have h_x27 := kp _ _ h_x27
  have h_x28 := kp _ _ h_x28
  have kk := fun (j p : Nat) h => kp j p (kk j p h)
  refine lt_i ?_
  have r := r.r (f := 1263) h_a h_x29
  refine ⟨by decide, by decide, fun q_x30 hq => ?_⟩
  obtain ⟨l, r, h_x30, kp⟩ := r.a (k := 14) (m := 6) (by decide) hq
  have h_a := kp _ _ h_a
  have h_x1 := kp _ _ h_x1
  have h_x2 := kp _ _ h_x2
  have h_x3 := kp _ _ h_x3
  have h_x4 := kp _ _ h_x4
  have h_x5 := kp _ _ h_x5
  have h_x6 := kp _ _ h_x6
  have h_x7 := kp _ _ h_x7
  have h_x8 := kp _ _ h_x8
  have h_x9 := kp _ _ h_x9
  have h_x10 := kp _ _ h_x10
  have h_x11 := kp _ _ h_x11
  have h_x12 := kp _ _ h_x12
  have h_x13 := kp _ _ h_x13
  have h_x14 := kp _ _ h_x14
  have h_x15 := kp _ _ h_x15
  have h_x16 := kp _ _ h_x16
  have h_x17 := kp _ _ h_x17
  have h_x18 := kp _ _ h_x18
  have h_x19 := kp _ _ h_x19
  have h_x20 := kp _ _ h_x20
  have h_x21 := kp _ _ h_x21
  have h_x22 := kp _ _ h_x22
  have h_x23 := kp _ _ h_x23
  have h_x24 := kp _ _ h_x24
  have h_x25 := kp _ _ h_x25
  have h_x26 := kp _ _ h_x26
  have h_x27 := kp _ _ h_x27
  have h_x28 := kp _ _ h_x28
  have h_x29 := kp _ _ h_x29
  have kk := fun (j p : Nat) h => kp j p (kk j p h)
  have r := r.r (f := 1264) h_a h_x30
  refine ⟨by decide, by decide, fun q_x31 hq => ?_⟩
  obtain ⟨l, r, h_x31, kp⟩ := r.a (k := 14) (m := 2553) (by decide) hq
  have h_a := kp _ _ h_a
  have h_x1 := kp _ _ h_x1
  have h_x2 := kp _ _ h_x2
  have h_x3 := kp _ _ h_x3
  have h_x4 := kp _ _ h_x4
  have h_x5 := kp _ _ h_x5
  have h_x6 := kp _ _ h_x6
  have h_x7 := kp _ _ h_x7
  have h_x8 := kp _ _ h_x8
  have h_x9 := kp _ _ h_x9
  have h_x10 := kp _ _ h_x10
  have h_x11 := kp _ _ h_x11
  have h_x12 := kp _ _ h_x12
  have h_x13 := kp _ _ h_x13
  have h_x14 := kp _ _ h_x14
  have h_x15 := kp _ _ h_x15
  have h_x16 := kp _ _ h_x16
  have h_x17 := kp _ _ h_x17
  have h_x18 := kp _ _ h_x18
  have h_x19 := kp _ _ h_x19
  have h_x20 := kp _ _ h_x20
  have h_x21 := kp _ _ h_x21
  have h_x22 := kp _ _ h_x22
  have h_x23 := kp _ _ h_x23
  have h_x24 := kp _ _ h_x24
  have h_x25 := kp _ _ h_x25
  have h_x26 := kp _ _ h_x26
  have h_x27 := kp _ _ h_x27
  have h_x28 := kp _ _ h_x28
  have h_x29 := kp _ _ h_x29
  have h_x30 := kp _ _ h_x30
  have kk := fun (j p : Nat) h => kp j p (kk j p h)
  refine lt_i ?_
  have r := r.r (f := 1271) h_a h_x31
  exact K _ _ r kk
