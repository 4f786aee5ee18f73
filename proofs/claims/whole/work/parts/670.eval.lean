theorem sI_sI (T : pq_S) (f a : Nat) (v w : Int32) : sI (sI T f a v) f a w = sI T f a w := by
  have : (fun f1 a1 => if f1 = f ∧ a1 = a then w else pI (sI T f a v) f1 a1) = (fun f1 a1 => if f1 = f ∧ a1 = a then w else pI T f1 a1) := by
    funext f1 a1
    by_cases c : f1 = f ∧ a1 = a
    · rw [if_pos c, if_pos c]
    · rw [if_neg c, if_neg c, pI_sI, if_neg c]
  unfold sI at this ⊢
  simp only [pL, pK, pI, pR, pN, pA, pQ] at this ⊢
  rw [this]
theorem sA_sI (T : pq_S) (f a b i : Nat) (v w : Int32) : sA (sI T f a v) b i w = sI (sA T b i w) f a v := rfl
theorem sF_sI (T : pq_S) (f a b : Nat) (v : Int32) (u : Nat → Int32) : sF (sI T f a v) b u = sI (sF T b u) f a v := rfl
theorem sI_self (T : pq_S) (f a : Nat) : sI T f a (pI T f a) = T := by
  have : (fun f1 a1 => if f1 = f ∧ a1 = a then pI T f a else pI T f1 a1) = pI T := by
    funext f1 a1
    by_cases c : f1 = f ∧ a1 = a
    · rw [if_pos c, c.1, c.2]
    · rw [if_neg c]
  unfold sI
  rw [this]
  rfl
def jnF (c : Nat) (x y : Int32) : Int32 := if c = 2000 then x + y else if c = 2001 then x - y else if c = 2002 then x * y else if c = 2003 then (if y = 0 then 0 else x / y) else if c = 2004 then (if y < x then y else x) else (if x < y then y else x)
theorem sp_joined {n c : Nat} {x y : Int32} {S : pq_S} (h1 : 2000 ≤ c) (h2 : c ≤ 2005) : m_X2_joined n (nI c) x y S = some (jnF c x y, S) := by
  have hc : c = 2000 ∨ c = 2001 ∨ c = 2002 ∨ c = 2003 ∨ c = 2004 ∨ c = 2005 := by omega
  unfold m_X2_joined
  rcases hc with rfl | rfl | rfl | rfl | rfl | rfl
  · rw [if_pos (by decide)]; rfl
  · rw [if_neg (by decide), if_pos (by decide)]; rfl
  · rw [if_neg (by decide), if_neg (by decide), if_pos (by decide)]; rfl
  · rw [if_neg (by decide), if_neg (by decide), if_neg (by decide), if_pos (by decide)]
    by_cases c : y = 0
    · rw [if_pos c]; unfold jnF; simp [c]
    · rw [if_neg c, ck_pos c]; unfold jnF; simp [c]
  · rw [if_neg (by decide), if_neg (by decide), if_neg (by decide), if_neg (by decide), if_pos (by decide)]; rfl
  · rw [if_neg (by decide), if_neg (by decide), if_neg (by decide), if_neg (by decide), if_neg (by decide)]; rfl
theorem sp_both {n c : Nat} {x y : Int32} {S : pq_S} (h1 : 2000 ≤ c) (h2 : c ≤ 2005) : m_X12_both n (nI (c - 1998)) x y S = some (jnF c x y, S) := by
  have hc : c = 2000 ∨ c = 2001 ∨ c = 2002 ∨ c = 2003 ∨ c = 2004 ∨ c = 2005 := by omega
  unfold m_X12_both
  rcases hc with rfl | rfl | rfl | rfl | rfl | rfl
  · rw [if_pos (by decide)]; rfl
  · rw [if_neg (by decide), if_pos (by decide)]; rfl
  · rw [if_neg (by decide), if_neg (by decide), if_pos (by decide)]; rfl
  · rw [if_neg (by decide), if_neg (by decide), if_neg (by decide), if_pos (by decide)]
    by_cases c : y = 0
    · rw [if_pos c]; unfold jnF; simp [c]
    · rw [if_neg c, ck_pos c]; unfold jnF; simp [c]
  · rw [if_neg (by decide), if_neg (by decide), if_neg (by decide), if_neg (by decide)]
    have e : jnF 2004 x y = if y < x then y else x := rfl
    rw [e]
    by_cases c : y ≤ x
    · rw [if_pos c, b_X12_both_54, if_pos (by decide), b_X12_both_65, if_neg (by decide)]
      by_cases c2 : y < x
      · rw [if_pos c2]
      · rw [if_neg c2, Int32.le_antisymm c (Int32.not_lt.mp c2)]
    · rw [if_neg c, b_X12_both_54, if_pos (by decide), b_X12_both_65, if_pos rfl, if_neg (fun q => c (Int32.le_of_lt q))]
  · rw [if_neg (by decide), if_neg (by decide), if_neg (by decide), if_neg (by decide)]
    have e : jnF 2005 x y = if x < y then y else x := rfl
    rw [e]
    by_cases c : y ≤ x
    · rw [if_pos c, b_X12_both_54, if_neg (by decide), b_X12_both_65, if_pos rfl, if_neg (Int32.not_lt.mpr c)]
    · rw [if_neg c, b_X12_both_54, if_neg (by decide), b_X12_both_65, if_neg (by decide), if_pos (Int32.not_le.mp c)]
/-- what k codes from the i-th on bring, h numbers being on the stack -/
def lvF (cd : Nat → Nat) (fc : Nat → Int32) : Nat → Nat → Nat → (Nat → Int32) → Int32
  | 0, _, _, st => st 0
  | k + 1, i, h, st => if cd i < 1000 then lvF cd fc k (i + 1) (h + 1) (upd st h (nI (cd i))) else if cd i < 2000 then lvF cd fc k (i + 1) (h + 1) (upd st h (fc (cd i - 1000))) else lvF cd fc k (i + 1) (h - 1) (upd st (h - 2) (jnF (cd i) (st (h - 2)) (st (h - 1))))
abbrev Xs (T : pq_S) (a sa : Nat) (s : Nat → Int32) (v : Int32) : pq_S := sI (sF T sa s) 204 a v
theorem xs_h (T : pq_S) (a sa : Nat) (s : Nat → Int32) (v : Int32) : pI (Xs T a sa s v) 204 a = v := by
  rw [pI_sI, if_pos ⟨rfl, rfl⟩]
theorem xs_push {n a sa h : Nat} {T : pq_S} {s : Nat → Int32} {v : Int32} (e1 : pR T 202 a = some sa) (e2 : pN T sa = 32) (hh : h < 32) : m_X2_push n a v (Xs T a sa s (nI h)) = some (Xs T a sa (upd s h v) (nI (h + 1))) := by
  unfold m_X2_push
  have e1' : pR (Xs T a sa s (nI h)) 202 a = some sa := e1
  have e2' : pN (Xs T a sa s (nI h)) sa = 32 := e2
  rw [xs_h, if_neg (nI_pos (by omega)), e1', ob_mk, e2', ofN, if_neg (nI_ge (by omega) (by omega)), ob_mk, e2', ck_pos (ixn (by omega) (by omega)), lt_mk, nI_clamp (by omega), pI_sA, xs_h, nI_1]
  show some (sI (sA (sI (sF T sa s) 204 a (nI h)) sa h v) 204 a (nI (h + 1))) = _
  rw [sA_sI, sI_sI, sA_sF]
theorem xs_pop {n a sa h : Nat} {T : pq_S} {s : Nat → Int32} (e1 : pR T 202 a = some sa) (e2 : pN T sa = 32) (hh : h < 32) : m_X2_pop n a (Xs T a sa s (nI (h + 1))) = some (s h, Xs T a sa s (nI h)) := by
  unfold m_X2_pop
  have e1' : pR (Xs T a sa s (nI (h + 1))) 202 a = some sa := e1
  have e2' : pN (Xs T a sa s (nI (h + 1))) sa = 32 := e2
  have e3 : ∀ v, pI (sI (Xs T a sa s (nI (h + 1))) 204 a v) 204 a = v := fun v => by rw [pI_sI, if_pos ⟨rfl, rfl⟩]
  rw [xs_h, if_neg (nI_nle (by omega) (by omega)), e1', ob_mk, e2', ofN, if_pos (nI_le (by omega) (by omega)), pR_sI, e1', ob_mk, e3, nI_pred, pN_sI, e2', ck_pos (ixn (by omega) (by omega)), nI_clamp (by omega)]
  show some (pA (sI (sI (sF T sa s) 204 a _) 204 a _) sa h, _) = _
  rw [pA_sI, pA_sI, pA_sF, if_pos rfl]
  show some (s h, sI (sI (sF T sa s) 204 a _) 204 a (nI h)) = _
  rw [sI_sI]
theorem xs_run {n a c ia sa L : Nat} {T : pq_S} {cd : Nat → Nat} {fc : Nat → Int32} (r0 : pR T 200 a = some c) (r1 : pR T 201 a = some ia) (r2 : pR T 202 a = some sa) (n0 : pN T c = 150) (n1 : pN T ia = 7) (n2 : pN T sa = 32) (hL : L ≤ 150) (i0 : pI T 203 a = nI L) (hc : ∀ k, k < L → pA T c k = nI (cd k) ∧ (cd k < 1007 ∨ (2000 ≤ cd k ∧ cd k ≤ 2005))) (hf : ∀ j, j < 7 → pA T ia j = fc j) (d1 : c ≠ sa) (d2 : ia ≠ sa) : ∀ (f i h : Nat) (st s : Nat → Int32), i ≤ L → L < i + f → h ≤ 24 → lwH cd (L - i) i h = some 1 → (∀ j, j < h → s j = st j) → ∃ s' v', b_X2_value_68 n f a (nI i) (Xs T a sa s (nI h)) = some (lvF cd fc (L - i) i h st, Xs T a sa s' v') := by
  intro f
  induction f with
  | zero => intro i h st s a1 a2; omega
  | succ f ih =>
    intro i h st s a1 a2 a3 hw hs
    have r0' : pR (Xs T a sa s (nI h)) 200 a = some c := r0
    have r1' : pR (Xs T a sa s (nI h)) 201 a = some ia := r1
    have n0' : pN (Xs T a sa s (nI h)) c = 150 := n0
    have n1' : pN (Xs T a sa s (nI h)) ia = 7 := n1
    have i0' : pI (Xs T a sa s (nI h)) 203 a = nI L := by rw [pI_sI, if_neg (by simp)]; exact i0
    rw [b_X2_value_68, i0']
    by_cases c0 : L ≤ i
    · rw [show L - i = 0 by omega] at hw ⊢
      rw [lwH] at hw
      cases hw
      rw [if_pos (nI_le c0 (by omega)), b_X2_value_184, show nI 1 = nI (0 + 1) from rfl, xs_pop r2 n2 (by decide), cb_mk, lvF, hs 0 (by decide)]
      exact ⟨_, _, rfl⟩
    · have hL2 : i < L := by omega
      have cA : pA (Xs T a sa s (nI h)) c i = nI (cd i) := by
        show pA (sF T sa s) c i = _
        rw [pA_sF, if_neg d1]
        exact (hc i hL2).1
      have ct := (hc i hL2).2
      rw [show L - i = (L - (i + 1)) + 1 by omega] at hw ⊢
      rw [lwH] at hw
      rw [if_neg (nI_ge (by omega) (by omega)), r0', ob_mk, n0', ofN, if_neg (nI_ge (by omega) (by omega)), ob_mk, n0', ck_pos (ixn (by omega) (by omega)), nI_clamp (by omega), cA, lvF]
      by_cases c1 : cd i < 1000
      · rw [if_pos (show cd i < 2000 by omega)] at hw
        by_cases c3 : h < 24
        · rw [if_pos c3] at hw
          rw [if_neg (show ¬ (1000 : Int32) ≤ nI (cd i) from nI_ge (b := 1000) c1 (by omega)), if_pos c1, xs_push r2 n2 (by omega), ob_mk, b_X2_value_178, nI_1]
          exact ih (i + 1) (h + 1) _ _ (by omega) (by omega) (by omega) hw (fun j hj => by
            unfold upd
            by_cases e : j = h
            · simp [e]
            · simp [e, hs j (by omega)])
        · rw [if_neg c3] at hw; cases hw
      · by_cases c2 : cd i < 2000
        · rw [if_pos c2] at hw
          by_cases c3 : h < 24
          · rw [if_pos c3] at hw
            have cf : pA (Xs T a sa s (nI h)) ia (cd i - 1000) = fc (cd i - 1000) := by
              show pA (sF T sa s) ia _ = _
              rw [pA_sF, if_neg d2]
              exact hf _ (by omega)
            rw [if_pos (show (1000 : Int32) ≤ nI (cd i) from nI_le (a := 1000) (by omega) (by omega)), if_neg (show ¬ (2000 : Int32) ≤ nI (cd i) from nI_ge (b := 2000) c2 (by omega)), r1', ob_mk, n1', ofN, show nI (cd i) - (1000 : Int32) = nI (cd i - 1000) from pk_sub (b := 1000) (by omega), if_neg (nI_ge (by omega) (by omega)), ob_mk, n1', ck_pos (ixn (by omega) (by omega)), nI_clamp (by omega), cf, b_X2_value_151, xs_push r2 n2 (by omega), ob_mk, b_X2_value_178, nI_1, if_neg c1, if_pos c2]
            exact ih (i + 1) (h + 1) _ _ (by omega) (by omega) (by omega) hw (fun j hj => by
              unfold upd
              by_cases e : j = h
              · simp [e]
              · simp [e, hs j (by omega)])
          · rw [if_neg c3] at hw; cases hw
        · rw [if_neg c2] at hw
          by_cases c3 : 2 ≤ h
          · rw [if_pos c3] at hw
            rw [if_pos (show (1000 : Int32) ≤ nI (cd i) from nI_le (a := 1000) (by omega) (by omega)), if_pos (show (2000 : Int32) ≤ nI (cd i) from nI_le (a := 2000) (by omega) (by omega)), show nI h = nI ((h - 1) + 1) from by rw [show h - 1 + 1 = h by omega], xs_pop r2 n2 (by omega), cb_mk, show nI (h - 1) = nI ((h - 2) + 1) from by rw [show h - 2 + 1 = h - 1 by omega], xs_pop r2 n2 (by omega), cb_mk, sp_joined (by omega) (by omega), cb_mk, xs_push r2 n2 (by omega), ob_mk, b_X2_value_178, nI_1, if_neg c1, if_neg c2, hs (h - 2) (by omega), hs (h - 1) (by omega), show h - 2 + 1 = h - 1 by omega]
            exact ih (i + 1) (h - 1) _ _ (by omega) (by omega) (by omega) hw (fun j hj => by
              unfold upd
              by_cases e : j = h - 2
              · simp [e]
              · simp [e, hs j (by omega)])
          · rw [if_neg c3] at hw; cases hw
