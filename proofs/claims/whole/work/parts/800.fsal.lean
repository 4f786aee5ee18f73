/-! subsets by numbers -/
def sAl (g : GH) : List Nat → Nat → Nat
  | [], _ => 0
  | i :: ws, t => (if t % 2 = 1 then gwa g (4 * i + 1) * gwa g (4 * i + 2) else 0) + sAl g ws (t / 2)
def sLl (g : GH) : List Nat → Nat → Nat
  | [], _ => 0
  | i :: ws, t => (if t % 2 = 1 then gwa g (4 * i + 1) else 0) + sLl g ws (t / 2)
def sWo (g : GH) : List Nat → Nat → Nat
  | [], _ => 0
  | i :: ws, t => (if t % 2 = 1 then gwa g (4 * i + 3) else 0) + sWo g ws (t / 2)
def sBi : List Nat → Nat → Nat
  | [], _ => 0
  | i :: ws, t => (if t % 2 = 1 then 2 ^ i else 0) + sBi ws (t / 2)
theorem BK_all {g : GH} {G W v : Nat} : ∀ (ws : List Nat) (al ll wo bi : Nat), BK g G W ws al ll wo bi ≤ v ↔ ∀ t, t < 2 ^ ws.length → al + sAl g ws t ≤ G ∧ ll + sLl g ws t ≤ G + W → keyF (wo + sWo g ws t) (bi + sBi ws t) ≤ v := by
  intro ws
  induction ws with
  | nil =>
    intro al ll wo bi
    unfold BK sAl sLl sWo sBi
    constructor
    · intro h t _ ht
      rw [if_pos ⟨by omega, by omega⟩] at h
      exact h
    · intro h
      by_cases c : al ≤ G ∧ ll ≤ G + W
      · rw [if_pos c]
        exact h 0 (by decide) ⟨by omega, by omega⟩
      · rw [if_neg c]; omega
  | cons i ws ih =>
    intro al ll wo bi
    unfold BK
    rw [mxx_le, ih, ih, List.length_cons, Nat.pow_succ]
    constructor
    · rintro ⟨h1, h2⟩ t ht hf
      unfold sAl sLl at hf
      unfold sWo sBi
      by_cases c : t % 2 = 1
      · simp only [if_pos c] at hf ⊢
        have := h2 (t / 2) (by omega) ⟨by omega, by omega⟩
        rw [show wo + (gwa g (4 * i + 3) + sWo g ws (t / 2)) = wo + gwa g (4 * i + 3) + sWo g ws (t / 2) by omega, show bi + (2 ^ i + sBi ws (t / 2)) = bi + 2 ^ i + sBi ws (t / 2) by omega]
        exact this
      · simp only [if_neg c] at hf ⊢
        have := h1 (t / 2) (by omega) ⟨by omega, by omega⟩
        rw [Nat.zero_add, Nat.zero_add]
        exact this
    · intro h
      refine ⟨fun t ht hf => ?_, fun t ht hf => ?_⟩
      · have := h (2 * t) (by omega)
        unfold sAl sLl sWo sBi at this
        have e1 : ¬ (2 * t) % 2 = 1 := by omega
        have e2 : 2 * t / 2 = t := by omega
        simp only [if_neg e1, e2, Nat.zero_add] at this
        exact this hf
      · have := h (2 * t + 1) (by omega)
        unfold sAl sLl sWo sBi at this
        have e1 : (2 * t + 1) % 2 = 1 := by omega
        have e2 : (2 * t + 1) / 2 = t := by omega
        simp only [if_pos e1, e2] at this
        have h3 := this ⟨by omega, by omega⟩
        rw [show wo + gwa g (4 * i + 3) + sWo g ws t = wo + (gwa g (4 * i + 3) + sWo g ws t) by omega, show bi + 2 ^ i + sBi ws t = bi + (2 ^ i + sBi ws t) by omega]
        exact h3
/-- a row that goes up, all from lo on, below 12 -/
def upL : Nat → List Nat → Prop
  | _, [] => True
  | lo, i :: ws => lo ≤ i ∧ i < 12 ∧ upL (i + 1) ws
theorem wl_up {g : GH} {st : Nat → Int32} {p : Nat} : ∀ k i, i + k ≤ 12 → upL i (wlF g st p k i) := by
  have mono : ∀ ws lo lo', lo ≤ lo' → upL lo' ws → upL lo ws := by
    intro ws
    cases ws with
    | nil => intro _ _ _ _; trivial
    | cons i ws => intro lo lo' h1 h2; exact ⟨by have := h2.1; omega, h2.2⟩
  intro k
  induction k with
  | zero => intro i _; trivial
  | succ k ih =>
    intro i hi
    rw [wlF]
    split
    · exact ⟨Nat.le_refl _, by omega, ih (i + 1) (by omega)⟩
    · exact mono _ _ _ (by omega) (ih (i + 1) (by omega))
theorem sB_dvd : ∀ (ws : List Nat) (lo t : Nat), upL lo ws → ∃ q, sBi ws t = 2 ^ lo * q := by
  intro ws
  induction ws with
  | nil => intro lo t _; exact ⟨0, rfl⟩
  | cons i ws ih =>
    intro lo t h
    obtain ⟨q, hq⟩ := ih (i + 1) (t / 2) h.2.2
    have e : 2 ^ i = 2 ^ lo * 2 ^ (i - lo) := by rw [← Nat.pow_add]; congr 1; have := h.1; omega
    refine ⟨(if t % 2 = 1 then 2 ^ (i - lo) else 0) + 2 ^ (i - lo) * (2 * q), ?_⟩
    unfold sBi
    rw [hq, Nat.pow_succ, Nat.mul_add, Nat.mul_assoc (2 ^ i) 2 q, e, Nat.mul_assoc]
    congr 1
    split
    · rfl
    · rw [Nat.mul_zero]
theorem sB_lt : ∀ (ws : List Nat) (lo t1 t2 : Nat), upL lo ws → t1 < t2 → t2 < 2 ^ ws.length → sBi ws t1 < sBi ws t2 := by
  intro ws
  induction ws with
  | nil => intro lo t1 t2 _ h1 h2; rw [List.length_nil, Nat.pow_zero] at h2; omega
  | cons i ws ih =>
    intro lo t1 t2 h h1 h2
    rw [List.length_cons, Nat.pow_succ] at h2
    obtain ⟨q1, e1⟩ := sB_dvd ws (i + 1) (t1 / 2) h.2.2
    obtain ⟨q2, e2⟩ := sB_dvd ws (i + 1) (t2 / 2) h.2.2
    have pp : 0 < 2 ^ i := Nat.pow_pos (by decide)
    unfold sBi
    by_cases c : t1 / 2 < t2 / 2
    · have h3 := ih (i + 1) _ _ h.2.2 c (by omega)
      rw [e1, e2, Nat.pow_succ] at h3 ⊢
      have h4 : q1 < q2 := Nat.lt_of_mul_lt_mul_left h3
      have h5 : 2 ^ i * 2 * q1 + 2 ^ i * 2 ≤ 2 ^ i * 2 * q2 := by
        have := Nat.mul_le_mul (Nat.le_refl (2 ^ i * 2)) h4
        rw [Nat.mul_succ] at this
        exact this
      split <;> split <;> omega
    · have e : t1 / 2 = t2 / 2 := by omega
      rw [e]
      have c1 : ¬ t1 % 2 = 1 := by omega
      have c2 : t2 % 2 = 1 := by omega
      rw [if_neg c1, if_pos c2]
      omega
theorem sB_le : ∀ (ws : List Nat) (lo t : Nat), upL lo ws → lo ≤ 12 → sBi ws t + 2 ^ lo ≤ 4096 := by
  intro ws
  induction ws with
  | nil =>
    intro lo t _ h
    have := Nat.pow_le_pow_right (n := 2) (by decide) h
    unfold sBi
    omega
  | cons i ws ih =>
    intro lo t h hl
    have h1 := ih (i + 1) (t / 2) h.2.2 (by have := h.2.1; omega)
    have h2 := Nat.pow_le_pow_right (n := 2) (by decide) h.1
    rw [Nat.pow_succ] at h1
    unfold sBi
    split <;> omega
theorem nI_or (a b : Nat) : nI a ||| nI b = nI (a ||| b) := by
  apply Int32.toBitVec_inj.mp
  rw [Int32.toBitVec_or]
  show BitVec.ofNat 32 a ||| BitVec.ofNat 32 b = BitVec.ofNat 32 (a ||| b)
  apply BitVec.eq_of_toNat_eq
  rw [BitVec.toNat_or, BitVec.toNat_ofNat, BitVec.toNat_ofNat, BitVec.toNat_ofNat, Nat.or_mod_two_pow]
theorem or_dj {i a q : Nat} (h : a < 2 ^ i) : nI a ||| nI (2 ^ i * q) = nI (a + 2 ^ i * q) := by
  rw [nI_or, Nat.or_comm, ← Nat.two_pow_add_eq_or_of_lt h, Nat.add_comm]
theorem sm12 : ∀ j, j < 12 → ((nI j &&& (31 : Int32)).toBitVec.smod 32).toNat = j := by decide
theorem bitN {t j : Nat} (ht : t < 2 ^ 31) (hj : j < 12) : (nI t >>> (nI j &&& (31 : Int32))) &&& (1 : Int32) = nI (t / 2 ^ j % 2) := by
  rw [pk_shrN ht _ j (sm12 j hj)]
  have : t / 2 ^ j ≤ t := Nat.div_le_self _ _
  exact pk_andN (by omega) 1 (by decide)
section
variable {g : GH} {A : Nat → Nat} {V : Nat → Prop} {S : pq_S} {n : Nat}
theorem rv_I {T : pq_S} {st : Nat → Int32} (h : RV g A T st) {f a : Nat} {v : Int32} (hf : ∀ e ∈ rCM, e.1 ≠ f) (h9 : 901 ≠ f) : RV g A (sI T f a v) st := ⟨lay_I h.1 (fun c => pI_n h9), h.2.1, h.2.2.1, h.2.2.2.1.cg (fun q hq => pI_n (hf q hq)) (fun _ _ _ => rfl), h.2.2.2.2⟩
/-- one set, summed -/
theorem r_set {T : pq_S} {st : Nat → Int32} {p many t : Nat} {x3 x4 : Int32} {ws : List Nat} (hR : RV g A T st) (hl : ws.length = many) (hm : many ≤ 12) (hgd : goodL g ws) (ht : t < 2 ^ 12) (hu : ∀ j, j < many → pA T (A 85) j = nI (ws.getD j 0)) {k8 : Nat → Int32 → pq_S → Option pq_S} {k50 : Nat → Int32 → Int32 → Int32 → Int32 → Int32 → pq_S → Option pq_S} : ∀ (f j a b c : Nat), j ≤ many → many < j + f → b_X12_findSales_103 n k8 k50 f (A 60) (nI p) (nI many) x3 x4 (nI t) (nI a) (nI b) (nI c) (nI j) T = b_X12_findSales_198 n k8 k50 (A 60) (nI p) (nI many) x3 x4 (nI t) (nI (a + sAl g (ws.drop j) (t / 2 ^ j))) (nI (b + sLl g (ws.drop j) (t / 2 ^ j))) (nI (c + sWo g (ws.drop j) (t / 2 ^ j))) T := by
  have hb := hR.2.1.b
  intro f
  induction f with
  | zero => intro j a b c h1 h2; omega
  | succ f ih =>
    intro j a b c h1 h2
    rw [b_X12_findSales_103]
    by_cases c0 : many ≤ j
    · rw [if_pos (nI_le c0 (by omega)), List.drop_eq_nil_of_le (by omega)]
      rfl
    · have hj : j < ws.length := by omega
      have dr : ws.drop j = ws.getD j 0 :: ws.drop (j + 1) := by
        rw [List.drop_eq_getElem_cons hj]
        congr 1
        rw [List.getD_eq_getElem?_getD, List.getElem?_eq_getElem hj]
        rfl
      obtain ⟨i, hi⟩ : ∃ i, ws.getD j 0 = i := ⟨_, rfl⟩
      have ii : i < gW g := hgd i (by
        have : i ∈ ws.drop j := by rw [dr, hi]; exact List.mem_cons_self ..
        exact List.mem_of_mem_drop this)
      have w1 := hR.2.1.w1 ii
      have w2 := hR.2.1.w2 ii
      have dv : t / 2 ^ j / 2 = t / 2 ^ (j + 1) := by rw [Nat.div_div_eq_div_mul, Nat.pow_succ]
      rw [if_neg (nI_ge (by omega) (by omega)), bitN (by omega) (by omega), dr, hi]
      unfold sAl sLl sWo
      rw [dv]
      by_cases c1 : t / 2 ^ j % 2 = 1
      · have x1 : (4 : Int32) * nI i = nI (4 * i) := pk_mul 4 i
        have x2 : nI (4 * i) + (1 : Int32) = nI (4 * i + 1) := nI_1 _
        have x3' : nI (4 * i) + (2 : Int32) = nI (4 * i + 2) := nI_add _ 2
        have x4' : nI (4 * i) + (3 : Int32) = nI (4 * i + 3) := nI_add _ 3
        have y1 : (nI (4 * i + 1)).toNatClampNeg = 4 * i + 1 := nI_clamp (by omega)
        have y2 : (nI (4 * i + 2)).toNatClampNeg = 4 * i + 2 := nI_clamp (by omega)
        have y3 : (nI (4 * i + 3)).toNatClampNeg = 4 * i + 3 := nI_clamp (by omega)
        have z1 := hR.A.2.1 (4 * i + 1) (by omega)
        have z2 := hR.A.2.1 (4 * i + 2) (by omega)
        have z3 := hR.A.2.1 (4 * i + 3) (by omega)
        have F175 : ∀ (y : Nat) (x6 x7 x8 : Nat), b_X12_findSales_175 n k8 k50 (b_X12_findSales_103 n k8 k50 f) (A 60) (nI p) (nI many) x3 x4 (nI t) (nI x7) (nI x8) (nI j) (nI (4 * i)) (nI x6) (nI y) T = b_X12_findSales_103 n k8 k50 f (A 60) (nI p) (nI many) x3 x4 (nI t) (nI (x6 + y)) (nI x7) (nI (x8 + gwa g (4 * i + 3))) (nI (j + 1)) T := fun y x6 x7 x8 => by
          rw [b_X12_findSales_175, hR.1.r60_1215, ob_mk, hR.1.n68, x4', ck_pos (ixn (by omega) (by omega)), lt_mk, y3, z3, nI_add, nI_add, b_X12_findSales_192, nI_1]
        rw [c1, if_neg (show ¬ nI 1 = 0 by decide), hR.1.r60_1252, ob_mk, hR.1.n85, ck_pos (ixn (by omega) (by omega)), lt_mk, nI_clamp (by omega), hu j (by omega), hi, x1, hR.1.r60_1215, ob_mk, hR.1.n68, x2, x3', y1, y2, ck_pos (ixn (by omega) (by omega)), lt_mk, z1, nI_add, ob_mk, hR.1.n68, ck_pos (ixn (by omega) (by omega)), z2]
        simp only [if_true]
        by_cases c2 : gwa g (4 * i + 2) = 1
        · rw [if_pos (show nI (gwa g (4 * i + 2)) = 1 by rw [c2]; rfl), ob_mk, hR.1.n68, ck_pos (ixn (by omega) (by omega)), z1, F175, ih (j + 1) _ _ _ (by omega) (by omega), c2, Nat.mul_one, Nat.add_assoc, Nat.add_assoc, Nat.add_assoc]
        · have c3 : gwa g (4 * i + 2) = 0 := by omega
          rw [if_neg (show ¬ nI (gwa g (4 * i + 2)) = 1 by rw [c3]; decide), show (0 : Int32) = nI 0 from rfl, F175, ih (j + 1) _ _ _ (by omega) (by omega), c3, Nat.mul_zero, Nat.add_zero, Nat.zero_add, Nat.add_assoc, Nat.add_assoc]
      · have c2 : t / 2 ^ j % 2 = 0 := by omega
        rw [c2, if_pos (show nI 0 = 0 from rfl), b_X12_findSales_192, nI_1, ih (j + 1) _ _ _ (by omega) (by omega)]
        simp only [show ¬ (0 = 1) by decide, if_false, Nat.zero_add]
end
