theorem shl13 : ∀ P, P < 13 → (1 : Int32) <<< (nI P &&& (31 : Int32)) = nI (2 ^ P) := by decide
theorem shl0 : ∀ i, i < 12 → nI 0 <<< (nI i &&& (31 : Int32)) = nI 0 := by decide
theorem s_bd {g : GH} (hg : GB g) : ∀ (ws : List Nat) (t : Nat), goodL g ws → sAl g ws t ≤ 12 * ws.length ∧ sLl g ws t ≤ 12 * ws.length ∧ sWo g ws t ≤ 99 * ws.length := by
  intro ws
  induction ws with
  | nil => intro t _; exact ⟨Nat.le_refl _, Nat.le_refl _, Nat.le_refl _⟩
  | cons i ws ih =>
    intro t h
    have ii := h i (List.mem_cons_self ..)
    have w1 := hg.w1 ii
    have w2 := hg.w2 ii
    have w3 := hg.w3 ii
    have hm : gwa g (4 * i + 1) * gwa g (4 * i + 2) ≤ gwa g (4 * i + 1) * 1 := Nat.mul_le_mul (Nat.le_refl _) w2
    have := ih (t / 2) (fun j hj => h j (List.mem_cons_of_mem _ hj))
    unfold sAl sLl sWo
    rw [List.length_cons]
    split <;> omega
section
variable {g : GH} {A : Nat → Nat} {V : Nat → Prop} {S : pq_S} {n : Nat}
abbrev feasF (g : GH) (st : Nat → Int32) (p : Nat) (ws : List Nat) (t : Nat) : Prop := sAl g ws t ≤ nS st p ∧ sLl g ws t ≤ nS st p + nS st (6 + p)
abbrev kyF (g : GH) (ws : List Nat) (t : Nat) : Nat := keyF (sWo g ws t) (sBi ws t)
theorem r_sets {T : pq_S} {st : Nat → Int32} {p many : Nat} {ws : List Nat} (hn : 5000 ≤ n) (hR : RV g A T st) (hp : p < gP g) (hl : ws.length = many) (hm : many ≤ 12) (hgd : goodL g ws) (hup : upL 0 ws) (hu : ∀ j, j < many → pA T (A 85) j = nI (ws.getD j 0)) {k8 : Nat → Int32 → pq_S → Option pq_S} : ∀ (f t B : Nat), t ≤ 2 ^ many → 2 ^ many < t + f → B < t → feasF g st p ws B → (∀ t', t' < t → feasF g st p ws t' → kyF g ws t' ≤ kyF g ws B) → ∃ B', b_X12_findSales_83 n k8 f (A 60) (nI p) (nI many) (nI B) (nI (sWo g ws B)) (nI t) T = b_X12_findSales_257 n k8 (A 60) (nI p) (nI many) (nI B') (nI (sWo g ws B')) T ∧ B' < 2 ^ many ∧ feasF g st p ws B' ∧ ∀ t', t' < 2 ^ many → feasF g st p ws t' → kyF g ws t' ≤ kyF g ws B' := by
  have hb := hR.2.1.b
  have s0 := hR.2.2.1.h0 hp
  have s1 := hR.2.2.1.h1 hp
  have p12 : 2 ^ many ≤ 4096 := by have := Nat.pow_le_pow_right (n := 2) (by decide) hm; omega
  intro f
  induction f with
  | zero => intro t B h1 h2; omega
  | succ f ih =>
    intro t B h1 h2 h3 h4 h5
    rw [b_X12_findSales_83, shl13 many (by omega)]
    by_cases c : 2 ^ many ≤ t
    · rw [if_pos (nI_le c (by omega))]
      have e : t = 2 ^ many := by omega
      exact ⟨B, rfl, by omega, h4, fun t' ht hf => h5 t' (by omega) hf⟩
    · have R := r_set (n := n) (k8 := k8) (k50 := b_X12_findSales_83 n k8 f) (x3 := nI B) (x4 := nI (sWo g ws B)) (p := p) (t := t) hR hl hm hgd (by omega) hu n 0 0 0 0 (by omega) (by omega)
      rw [List.drop_zero, Nat.pow_zero, Nat.div_one, Nat.zero_add, Nat.zero_add, Nat.zero_add, nI_0] at R
      have bd := s_bd hR.2.1 ws t hgd
      have bdB := s_bd hR.2.1 ws B hgd
      have z0 : (0 : Int32) + nI p = nI p := by rw [show (0 : Int32) = nI 0 from rfl, nI_add, Nat.zero_add]
      have cont : ∀ B2, b_X12_findSales_251 n k8 (b_X12_findSales_83 n k8 f) (A 60) (nI p) (nI many) (nI B2) (nI (sWo g ws B2)) (nI t) T = b_X12_findSales_83 n k8 f (A 60) (nI p) (nI many) (nI B2) (nI (sWo g ws B2)) (nI (t + 1)) T := fun B2 => by rw [b_X12_findSales_251, nI_1]
      rw [if_neg (nI_ge (by omega) (by omega)), R, b_X12_findSales_198, hR.1.r60_1247, ob_mk, hR.1.n81, z0, show (6 : Int32) + nI p = nI (6 + p) from nI_add 6 p, ck_pos (ixn (by omega) (by omega)), nI_clamp (show p < 2 ^ 31 by omega), nI_clamp (show 6 + p < 2 ^ 31 by omega), hR.2.2.2.2 p (by omega), s0.1]
      have keep : ¬ (feasF g st p ws t ∧ sWo g ws B < sWo g ws t) → ∃ B', b_X12_findSales_83 n k8 f (A 60) (nI p) (nI many) (nI B) (nI (sWo g ws B)) (nI (t + 1)) T = b_X12_findSales_257 n k8 (A 60) (nI p) (nI many) (nI B') (nI (sWo g ws B')) T ∧ B' < 2 ^ many ∧ feasF g st p ws B' ∧ ∀ t', t' < 2 ^ many → feasF g st p ws t' → kyF g ws t' ≤ kyF g ws B' := fun hk => ih (t + 1) B (by omega) (by omega) (by omega) h4 (fun t' ht hf => by
        by_cases e : t' = t
        · rw [e]
          have hw : sWo g ws t ≤ sWo g ws B := by
            by_cases q : sWo g ws B < sWo g ws t
            · exact absurd ⟨e ▸ hf, q⟩ hk
            · omega
          have hB := sB_lt ws 0 B t hup h3 (by rw [hl]; omega)
          have hB2 := sB_le ws 0 B hup (by omega)
          unfold kyF keyF
          omega
        · exact h5 t' (by omega) hf)
      by_cases c1 : nS st p < sAl g ws t
      · rw [if_pos (nI_lt c1 (by omega)), cont]
        exact keep (fun q => by have := q.1.1; omega)
      · rw [if_neg (nI_nlt (by omega) (by omega)), ob_mk, hR.1.n81, ck_pos (ixn (by omega) (by omega)), ob_mk, hR.1.n81, ck_pos (ixn (by omega) (by omega)), hR.2.2.2.2 p (by omega), hR.2.2.2.2 (6 + p) (by omega), s0.1, s1.1, nI_add]
        by_cases c2 : nS st p + nS st (6 + p) < sLl g ws t
        · rw [if_pos (nI_lt c2 (by omega)), cont]
          exact keep (fun q => by have := q.1.2; omega)
        · rw [if_neg (nI_nlt (by omega) (by omega))]
          by_cases c3 : sWo g ws B < sWo g ws t
          · rw [if_pos (nI_lt c3 (by omega)), cont]
            refine ih (t + 1) t (by omega) (by omega) (by omega) ⟨by omega, by omega⟩ (fun t' ht hf => ?_)
            by_cases e : t' = t
            · rw [e]; exact Nat.le_refl _
            · have h6 := h5 t' (by omega) hf
              have hB2 := sB_le ws 0 t hup (by omega)
              unfold kyF keyF at h6 ⊢
              omega
          · rw [if_neg (nI_nlt (by omega) (by omega)), cont]
            exact keep (fun q => by omega)
theorem r_bits {T : pq_S} {p many B : Nat} {ws : List Nat} (hL : LAY A T) (hp : p < 2 ^ 20) (hl : ws.length = many) (hm : many ≤ 12) (hB : B < 2 ^ 12) (hu : ∀ j, j < many → pA T (A 85) j = nI (ws.getD j 0)) {k8 : Nat → Int32 → pq_S → Option pq_S} : ∀ (f j lo : Nat) (v : Int32), j ≤ many → many < j + f → upL lo (ws.drop j) → b_X12_findSales_271 n k8 f (A 60) (nI p) (nI many) (nI B) (nI j) (sI T 1254 (A 60) v) = k8 (A 60) (nI (p + 1)) (sI T 1254 (A 60) (v ||| nI (sBi (ws.drop j) (B / 2 ^ j)))) := by
  intro f
  induction f with
  | zero => intro j lo v h1 h2; omega
  | succ f ih =>
    intro j lo v h1 h2 hup
    rw [b_X12_findSales_271]
    by_cases c0 : many ≤ j
    · rw [if_pos (nI_le c0 (by omega)), b_X12_findSales_306, nI_1, List.drop_eq_nil_of_le (by omega), sBi, nI_0, Int32.or_zero]
    · have hj : j < ws.length := by omega
      have dr : ws.drop j = ws.getD j 0 :: ws.drop (j + 1) := by
        rw [List.drop_eq_getElem_cons hj]
        congr 1
        rw [List.getD_eq_getElem?_getD, List.getElem?_eq_getElem hj]
        rfl
      obtain ⟨i, hi⟩ : ∃ i, ws.getD j 0 = i := ⟨_, rfl⟩
      rw [dr, hi] at hup ⊢
      have i12 := hup.2.1
      have dv : B / 2 ^ j / 2 = B / 2 ^ (j + 1) := by rw [Nat.div_div_eq_div_mul, Nat.pow_succ]
      obtain ⟨q, hq⟩ := sB_dvd (ws.drop (j + 1)) (i + 1) (B / 2 ^ (j + 1)) hup.2.2
      have R1 : pR (sI T 1254 (A 60) v) 1252 (A 60) = some (A 85) := hL.r60_1252
      have N1 : pN (sI T 1254 (A 60) v) (A 85) = 12 := hL.n85
      have eA : pA (sI T 1254 (A 60) v) (A 85) j = nI i := by rw [← hi]; exact hu j (by omega)
      have eb : nI (B / 2 ^ j % 2) <<< (nI i &&& (31 : Int32)) = nI (if B / 2 ^ j % 2 = 1 then 2 ^ i else 0) := by
        by_cases c1 : B / 2 ^ j % 2 = 1
        · rw [c1, if_pos rfl]; exact shl12 i i12
        · rw [show B / 2 ^ j % 2 = 0 by omega, if_neg (by decide)]; exact shl0 i i12
      have lt : (if B / 2 ^ j % 2 = 1 then 2 ^ i else 0) < 2 ^ (i + 1) := by
        have : 0 < 2 ^ i := Nat.pow_pos (by decide)
        rw [Nat.pow_succ]
        split <;> omega
      rw [if_neg (nI_ge (by omega) (by omega)), R1, ob_mk, N1, ck_pos (ixn (by omega) (by omega)), lt_mk, nI_clamp (by omega), eA, pI_e, sI_sI, bitN (by omega) (by omega), eb, nI_1, ih (j + 1) (i + 1) _ (by omega) (by omega) hup.2.2, Int32.or_assoc, sBi, dv, hq, or_dj lt]
theorem wl_ext {st : Nat → Int32} {p : Nat} {k8 : Nat → Int32 → pq_S → Option pq_S} {T : pq_S} (hR : RV g A T st) (hp : p < 2 ^ 20) : ∀ (f i k : Nat) (pre : List Nat) (u : Nat → Int32), i + k = gW g → k < f → pre.length ≤ i → (∀ j, j < pre.length → u j = nI (pre.getD j 0)) → ∃ u', b_X12_findSales_24 n k8 f (A 60) (nI p) (nI pre.length) (nI i) (sF T (A 85) u) = b_X12_findSales_75 n k8 (A 60) (nI p) (nI (pre ++ wlF g st p k i).length) (sF T (A 85) u') ∧ ∀ j, j < (pre ++ wlF g st p k i).length → u' j = nI ((pre ++ wlF g st p k i).getD j 0) := by
  have hb := hR.2.1.b
  intro f
  induction f with
  | zero => intro i k pre u h1 h2; omega
  | succ f ih =>
    intro i k pre u h1 h2 h3 h4
    have r2 : RV g A (sF T (A 85) u) st := rv_F hR (by decide) (by decide)
    rw [b_X12_findSales_24, r2.I.2.1]
    cases k with
    | zero =>
      rw [if_pos (nI_le (by omega) (by omega)), wlF, List.append_nil]
      exact ⟨u, rfl, h4⟩
    | succ k =>
      have hi : i < gW g := by omega
      have w0 := hR.2.1.w0 hi
      have x1 : (4 : Int32) * nI i = nI (4 * i) := pk_mul 4 i
      rw [if_neg (nI_ge (by omega) (by omega)), r2.1.r60_1247, ob_mk, r2.1.n81, show (18 : Int32) + nI i = nI (18 + i) from nI_add 18 i, ck_pos (ixn (by omega) (by omega)), nI_clamp (show 18 + i < 2 ^ 31 by omega), r2.2.2.2.2 _ (by omega), wlF]
      rcases hR.2.2.1.op hi with c0 | c0
      · rw [if_pos (show st (18 + i) = 0 from c0), b_X12_findSales_69, nI_1, if_neg (show ¬ (st (18 + i) = nI 1 ∧ gwa g (4 * i) = p) from fun q => by have := c0.symm.trans q.1; rw [nI_eq (by omega) (by omega)] at this; omega)]
        exact ih (i + 1) k pre u (by omega) (by omega) (by omega) h4
      · rw [if_neg (show ¬ st (18 + i) = 0 by rw [c0]; decide), r2.1.r60_1215, ob_mk, r2.1.n68, x1, ck_pos (ixn (by omega) (by omega)), nI_clamp (show 4 * i < 2 ^ 31 by omega), r2.A.2.1 _ (by omega)]
        by_cases c1 : gwa g (4 * i) = p
        · rw [if_pos (by rw [c1]), r2.1.r60_1252, ob_mk, r2.1.n85, ck_pos (ixn (by omega) (by omega)), nI_clamp (show pre.length < 2 ^ 31 by omega), sA_sF, b_X12_findSales_69, nI_1, nI_1, if_pos (show st (18 + i) = nI 1 ∧ gwa g (4 * i) = p from ⟨c0, c1⟩)]
          have ln : (pre ++ [i]).length = pre.length + 1 := by rw [List.length_append]; rfl
          obtain ⟨u', e1, e2⟩ := ih (i + 1) k (pre ++ [i]) (upd u pre.length (nI i)) (by omega) (by omega) (by omega) (fun j hj => by
            rw [ln] at hj
            by_cases e : j = pre.length
            · rw [e, upd_eq]
              rw [List.getD_eq_getElem?_getD, List.getElem?_append_right (Nat.le_refl _), Nat.sub_self]
              rfl
            · rw [upd_ne e, h4 j (by omega)]
              rw [List.getD_eq_getElem?_getD, List.getD_eq_getElem?_getD, List.getElem?_append_left (by omega)])
          rw [ln, List.append_assoc, List.singleton_append] at e1
          rw [List.append_assoc, List.singleton_append] at e2
          exact ⟨u', e1, e2⟩
        · rw [if_neg (fun q => c1 ((nI_eq (by omega) (by omega)).mp q)), b_X12_findSales_69, nI_1, if_neg (show ¬ (st (18 + i) = nI 1 ∧ gwa g (4 * i) = p) from fun q => c1 q.2)]
          exact ih (i + 1) k pre u (by omega) (by omega) (by omega) h4
/-- one place's sales -/
theorem r_place {st : Nat → Int32} {p : Nat} {k8 : Nat → Int32 → pq_S → Option pq_S} {T : pq_S} (hn : 5000 ≤ n) (hR : RV g A T st) (hp : p < gP g) : ∃ u, b_X12_findSales_24 n k8 n (A 60) (nI p) 0 0 T = k8 (A 60) (nI (p + 1)) (sI (sI (sF T (A 85) u) 1253 (A 60) (pI T 1253 (A 60) + nI (WK g st p (nS st p) / 4096))) 1254 (A 60) (pI T 1254 (A 60) ||| nI (4095 - WK g st p (nS st p) % 4096))) := by
  have hb := hR.2.1.b
  have s0 := hR.2.2.1.h0 hp
  obtain ⟨u, e1, e2⟩ := wl_ext (n := n) (k8 := k8) hR (show p < 2 ^ 20 by omega) n 0 (gW g) [] (pA T (A 85)) (by omega) (by omega) (Nat.le_refl _) (fun j hj => by cases hj)
  rw [sF_self, List.nil_append] at e1
  rw [List.nil_append] at e2
  obtain ⟨ws, hws⟩ : ∃ ws, wlF g st p (gW g) 0 = ws := ⟨_, rfl⟩
  have gd : goodL g ws := hws ▸ wl_gd
  have ln : ws.length ≤ 12 := by have := wl_len (g := g) (st := st) (p := p) (gW g) 0; rw [hws] at this; omega
  have up : upL 0 ws := hws ▸ wl_up (gW g) 0 (by omega)
  rw [hws] at e1 e2
  have r2 : RV g A (sF T (A 85) u) st := rv_F hR (by decide) (by decide)
  have hu : ∀ j, j < ws.length → pA (sF T (A 85) u) (A 85) j = nI (ws.getD j 0) := fun j hj => by rw [pA_sF, if_pos rfl]; exact e2 j hj
  have z1 : ∀ (ws : List Nat), sAl g ws 0 = 0 ∧ sLl g ws 0 = 0 ∧ sWo g ws 0 = 0 := by
    intro ws
    induction ws with
    | nil => exact ⟨rfl, rfl, rfl⟩
    | cons i ws ih =>
      unfold sAl sLl sWo
      rw [Nat.zero_div, ih.1, ih.2.1, ih.2.2]
      exact ⟨rfl, rfl, rfl⟩
  have p0 : 0 < 2 ^ ws.length := Nat.pow_pos (by decide)
  obtain ⟨B, f1, f2, f3, f4⟩ := r_sets (n := n) (k8 := k8) hn r2 hp rfl ln gd up hu n 1 0 (by omega) (by have := Nat.pow_le_pow_right (n := 2) (by decide) ln; omega) (by omega) (show sAl g ws 0 ≤ _ ∧ sLl g ws 0 ≤ _ by rw [(z1 ws).1, (z1 ws).2.1]; exact ⟨by omega, by omega⟩) (fun t' ht hf => by rw [show t' = 0 by omega]; exact Nat.le_refl _)
  rw [(z1 ws).2.2, nI_0] at f1
  have hB12 : B < 2 ^ 12 := by have := Nat.pow_le_pow_right (n := 2) (by decide) ln; omega
  have wk : WK g st p (nS st p) = kyF g ws B := by
    apply le_ext
    intro v
    unfold WK
    rw [hws, BK_all]
    simp only [Nat.zero_add]
    exact ⟨fun h => h B f2 f3, fun h t ht hf => Nat.le_trans (f4 t ht hf) h⟩
  have hbi := sB_le ws 0 B up (by omega)
  have d1 : WK g st p (nS st p) / 4096 = sWo g ws B := by rw [wk]; unfold kyF keyF; omega
  have d2 : 4095 - WK g st p (nS st p) % 4096 = sBi ws B := by rw [wk]; unfold kyF keyF; omega
  refine ⟨u, ?_⟩
  have e1 : b_X12_findSales_24 n k8 n (A 60) (nI p) 0 0 T = _ := e1
  rw [e1, b_X12_findSales_75]
  have f1 : b_X12_findSales_83 n k8 n (A 60) (nI p) (nI ws.length) 0 0 1 (sF T (A 85) u) = _ := f1
  rw [f1, b_X12_findSales_257, d1, d2]
  have bb := r_bits (n := n) (k8 := k8) (T := sI (sF T (A 85) u) 1253 (A 60) (pI T 1253 (A 60) + nI (sWo g ws B))) (p := p) (B := B) (lay_I r2.1 (fun a => pI_n (by decide))) (by omega) rfl ln hB12 hu n 0 0 (pI T 1254 (A 60)) (by omega) (by omega) up
  rw [List.drop_zero, Nat.pow_zero, Nat.div_one] at bb
  have self : sI (sI (sF T (A 85) u) 1253 (A 60) (pI T 1253 (A 60) + nI (sWo g ws B))) 1254 (A 60) (pI T 1254 (A 60)) = sI (sF T (A 85) u) 1253 (A 60) (pI T 1253 (A 60) + nI (sWo g ws B)) := by
    have h9 : pI (sI (sF T (A 85) u) 1253 (A 60) (pI T 1253 (A 60) + nI (sWo g ws B))) 1254 (A 60) = pI T 1254 (A 60) := by rw [pI_n (by decide)]; rfl
    rw [← h9, sI_self]
  rw [self] at bb
  exact bb
theorem r_fs {st : Nat → Int32} {T0 : pq_S} (hn : 5000 ≤ n) (hg : GB g) : ∀ (f p acc : Nat) (bi : Int32) (T : pq_S), p ≤ gP g → gP g < p + f → RV g A T st → pI T 1253 (A 60) = nI acc → pI T 1254 (A 60) = bi → (∀ S, KP A S T0 → KP A S T) → pI T 1200 (A 60) = pI T0 1200 (A 60) → (LW g T0 A → LW g T A) → ∃ T', b_X12_findSales_12 n f (A 60) (nI p) T = some T' ∧ RV g A T' st ∧ pI T' 1253 (A 60) = nI (swF g st (nS st) (gP g - p) p acc) ∧ pI T' 1254 (A 60) = sbF g st (nS st) (gP g - p) p bi ∧ (∀ S, KP A S T0 → KP A S T') ∧ pI T' 1200 (A 60) = pI T0 1200 (A 60) ∧ (LW g T0 A → LW g T' A) := by
  have hb := hg.b
  intro f
  induction f with
  | zero => intro p acc bi T h1 h2; omega
  | succ f ih =>
    intro p acc bi T h1 h2 hR e1 e2 hK ht hl
    rw [b_X12_findSales_12, hR.I.1]
    by_cases c : gP g ≤ p
    · rw [if_pos (nI_le c (by omega)), show gP g - p = 0 by omega, swF, sbF]
      exact ⟨T, rfl, hR, e1, e2, hK, ht, hl⟩
    · obtain ⟨u, q⟩ := r_place (n := n) (k8 := b_X12_findSales_12 n f) hn hR (show p < gP g by omega)
      rw [if_neg (nI_ge (by omega) (by omega)), q, show gP g - p = (gP g - (p + 1)) + 1 by omega, swF, sbF, e1, e2, nI_add]
      refine ih (p + 1) _ _ _ (by omega) (by omega) (rv_I (rv_I (rv_F hR (by decide) (by decide)) (by decide) (by decide)) (by decide) (by decide)) (by rw [pI_n (by decide), pI_e]) (by rw [pI_e]) (fun S k => KPL.wI (KPL.wI (KPL.wF (hK S k) (by decide)) (by decide)) (by decide)) (by rw [pI_n (by decide), pI_n (by decide)]; exact ht) (fun w => lw_I (lw_I (lw_F hR.1 (hl w) (by decide) (by decide)) (by decide)) (by decide))
theorem r_sales {st : Nat → Int32} {T : pq_S} (hn : 5000 ≤ n) (hR : RV g A T st) : ∃ T', m_X12_findSales n (A 60) T = some T' ∧ RV g A T' st ∧ pI T' 1253 (A 60) = nI (swF g st (nS st) (gP g) 0 0) ∧ pI T' 1254 (A 60) = sbF g st (nS st) (gP g) 0 0 ∧ (∀ S, KP A S T → KP A S T') ∧ pI T' 1200 (A 60) = pI T 1200 (A 60) ∧ (LW g T A → LW g T' A) := by
  have hb := hR.2.1.b
  have hR2 : RV g A (sI (sI T 1253 (A 60) 0) 1254 (A 60) 0) st := rv_I (rv_I hR (by decide) (by decide)) (by decide) (by decide)
  obtain ⟨T', a1, a2, a3, a4, a5, a6, a7⟩ := r_fs (n := n) (T0 := T) hn hR.2.1 n 0 0 0 _ (by omega) (by omega) hR2 (by rw [pI_n (by decide), pI_e, nI_0]) (by rw [pI_e]) (fun S k => KPL.wI (KPL.wI k (by decide)) (by decide)) (by rw [pI_n (by decide), pI_n (by decide)]) (fun w => lw_I (lw_I w (by decide)) (by decide))
  rw [Nat.sub_zero] at a3 a4
  exact ⟨T', a1, a2, a3, a4, a5, a6, a7⟩
end
