theorem sp_cloudX (n : Nat) (q d c : Int32) (S : pq_S) : m_X11_isCloudSpan n q d c S = some (if (0 ≤ q ∧ q ≤ 16) ∧ (0 ≤ d ∧ d ≤ 9999) ∧ 1 ≤ c ∧ c ≤ 60 then 1 else 0, S) := by
  unfold m_X11_isCloudSpan
  rw [sp_isWithin, cb_mk]
  by_cases h1 : 0 ≤ q ∧ q ≤ 16
  · rw [if_pos h1, if_neg (by decide), sp_isDayX, cb_mk]
    by_cases h2 : 0 ≤ d ∧ d ≤ 9999
    · rw [if_pos h2, if_neg (by decide), sp_isWithin, cb_mk]
      by_cases h3 : 1 ≤ c ∧ c ≤ 60
      · rw [if_pos h3, if_neg (by decide), if_pos ⟨h1, h2, h3⟩]
      · rw [if_neg h3, if_pos rfl, if_neg (fun k => h3 k.2.2)]
    · rw [if_neg h2, if_pos rfl, if_neg (fun k => h2 k.2.1)]
  · rw [if_neg h1, if_pos rfl, if_neg (fun k => h1 k.1)]
theorem sp_cloudM (n : Nat) (q d c : Int32) (S : pq_S) : m_X12_isCloudy n q d c S = some (if (0 ≤ q ∧ q ≤ 16) ∧ (0 ≤ d ∧ d ≤ 9999) ∧ 1 ≤ c ∧ c ≤ 60 then 1 else 0, S) := by
  unfold m_X12_isCloudy
  by_cases h1 : q < 0
  · rw [if_pos h1, if_neg (fun k => absurd k.1.1 (Int32.not_le.mpr h1))]
  · rw [if_neg h1]
    by_cases h2 : 16 < q
    · rw [if_pos h2, if_neg (fun k => absurd k.1.2 (Int32.not_le.mpr h2))]
    · rw [if_neg h2, sp_isDayM, cb_mk]
      by_cases h3 : 0 ≤ d ∧ d ≤ 9999
      · rw [if_pos h3, if_neg (by decide)]
        by_cases h4 : c < 1
        · rw [if_pos h4, if_neg (fun k => absurd k.2.2.1 (Int32.not_le.mpr h4))]
        · rw [if_neg h4]
          by_cases h5 : 60 < c
          · rw [if_pos h5, if_neg (fun k => absurd k.2.2.2 (Int32.not_le.mpr h5))]
          · rw [if_neg h5, if_pos ⟨⟨Int32.not_lt.mp h1, Int32.not_lt.mp h2⟩, h3, Int32.not_lt.mp h4, Int32.not_lt.mp h5⟩]
      · rw [if_neg h3, if_pos rfl, if_neg (fun k => h3 k.2.1)]
theorem shr16 (v : Int32) : (ushr_ v 16) &&& 32767 = (v >>> ((16 : Int32) &&& 31)) &&& 32767 := by
  apply Int32.toBitVec_inj.mp
  unfold ushr_
  rw [Int32.toBitVec_and, Int32.toBitVec_and]
  apply BitVec.eq_of_getLsbD_eq
  intro i hi
  rw [BitVec.getLsbD_and, BitVec.getLsbD_and]
  by_cases c : i < 15
  · congr 1
    have e1 : ((v.toUInt32 >>> ((16 : Int32).toUInt32 &&& Int32.toUInt32 31)).toInt32).toBitVec = v.toBitVec >>> 16 := rfl
    have e2 : (v >>> ((16 : Int32) &&& 31)).toBitVec = v.toBitVec.sshiftRight 16 := rfl
    rw [e1, e2, BitVec.getLsbD_ushiftRight, BitVec.getLsbD_sshiftRight, if_pos (by omega)]
    have : decide (32 ≤ i) = false := decide_eq_false (by omega)
    rw [this, Bool.not_false, Bool.true_and]
  · have : ((32767 : Int32).toBitVec).getLsbD i = false := by
      have e : (32767 : Int32).toBitVec = BitVec.ofNat 32 32767 := rfl
      rw [e, BitVec.getLsbD_ofNat]
      have : Nat.testBit 32767 i = false := by
        rw [Nat.testBit_lt_two_pow]
        exact Nat.lt_of_lt_of_le (by decide : 32767 < 2 ^ 15) (Nat.pow_le_pow_right (by decide) (by omega))
      simp [this]
    rw [this, Bool.and_false, Bool.and_false]
def lcg (s : Int32) : Int32 := s * 1103515245 + 12345
def drw (s : Int32) : Int32 := ((s >>> ((16 : Int32) &&& 31)) &&& 32767) - ((s >>> ((16 : Int32) &&& 31)) &&& 32767) / 16 * 16
/-- dark days, their longest row, needless clouds: of k days from the i-th on -/
def clF (L D : Int32 → Int32) (mo : Int32 → Int32) (q : Int32) (day : Nat) : Nat → Int32 → Nat → Nat → Nat → Nat → Nat → Nat × Nat × Nat
  | 0, _, _, d, _, l, e => (d, l, e)
  | k + 1, s, i, d, r, l, e =>
    if q ≤ D (L s) then
      (if mo (nI (day + i)) = 0 then clF L D mo q day k (L s) (i + 1) (d + 1) (r + 1) (if l < r + 1 then r + 1 else l) e else clF L D mo q day k (L s) (i + 1) d 0 l e)
    else clF L D mo q day k (L s) (i + 1) (d + 1) (r + 1) (if l < r + 1 then r + 1 else l) (if mo (nI (day + i)) = 0 then e + 1 else e)
theorem xv_cl {A : Nat → Nat} {S : pq_S} {n day c : Nat} {q w : Int32} {mo : Int32 → Int32} (hm : ∀ d, m_X1_moonsOn n (A 4) d S = some (mo d, S)) (hd : day ≤ 9999) (hc : c ≤ 60) : ∀ (f : Nat) (s : Int32) (i d r l e : Nat), i ≤ c → c < i + f → r ≤ i → l ≤ i → b_X1_clouded_18 n f (A 4) q (nI day) (nI c) w s (nI d) (nI r) (nI l) (nI e) (nI i) S = b_X1_clouded_147 n w (nI (clF lcg drw mo q day (c - i) s i d r l e).1) (nI (clF lcg drw mo q day (c - i) s i d r l e).2.1) (nI (clF lcg drw mo q day (c - i) s i d r l e).2.2) S := by
  intro f
  induction f with
  | zero => intro s i d r l e h1 h2; omega
  | succ f ih =>
    intro s i d r l e h1 h2 h3 h4
    rw [b_X1_clouded_18]
    by_cases c0 : c ≤ i
    · rw [if_pos (nI_le c0 (by omega)), show c - i = 0 by omega, clF]
    · rw [if_neg (nI_ge (by omega) (by omega)), lt_mk, shr16, show s * 1103515245 + 12345 = lcg s from rfl, show ((lcg s >>> ((16 : Int32) &&& 31)) &&& 32767) - ((lcg s >>> ((16 : Int32) &&& 31)) &&& 32767) / 16 * 16 = drw (lcg s) from rfl, show c - i = (c - (i + 1)) + 1 by omega, clF]
      have mE := hm (nI (day + i))
      have e0 : (0 : Int32) = nI 0 := rfl
      have e1 : (1 : Int32) = nI 1 := rfl
      have mx : ∀ a b : Nat, a ≤ 100 → b ≤ 100 → (if nI a < nI b then nI b else nI a) = nI (if a < b then b else a) := fun a b ha hb => by
        by_cases h : a < b
        · rw [if_pos (nI_lt h (by omega)), if_pos h]
        · rw [if_neg (nI_nlt (by omega) (by omega)), if_neg h]
      have hl : (if l < r + 1 then r + 1 else l) ≤ i + 1 := by split <;> omega
      by_cases c1 : q ≤ drw (lcg s)
      · rw [if_pos c1, if_pos c1, b_X1_clouded_57, nI_add, mE, cb_mk]
        by_cases c2 : mo (nI (day + i)) = 0
        · rw [if_pos c2, if_pos c2, b_X1_clouded_75, if_pos rfl, if_neg (by decide), b_X1_clouded_87, b_X1_clouded_95, nI_1, if_neg (nI_nle (by omega) (by omega)), b_X1_clouded_109, if_pos rfl, b_X1_clouded_137, b_X1_clouded_138, mx _ _ (by omega) (by omega), nI_1, nI_1, e0, nI_add, Nat.add_zero]
          exact ih (lcg s) (i + 1) (d + 1) (r + 1) _ e (by omega) (by omega) (by omega) hl
        · rw [if_neg c2, if_neg c2, b_X1_clouded_75, if_pos rfl, if_pos rfl, b_X1_clouded_95, if_pos (by decide), b_X1_clouded_109, if_pos rfl, b_X1_clouded_137, b_X1_clouded_138, e0, mx _ _ (by omega) (by omega), nI_add, nI_add, nI_1, Nat.add_zero, Nat.add_zero, if_neg (Nat.not_lt_zero _)]
          exact ih (lcg s) (i + 1) d 0 l e (by omega) (by omega) (by omega) (by omega)
      · rw [if_neg c1, if_neg c1, b_X1_clouded_57, nI_add, mE, cb_mk]
        by_cases c2 : mo (nI (day + i)) = 0
        · rw [if_pos c2, if_pos c2, b_X1_clouded_75, if_neg (by decide), b_X1_clouded_87, b_X1_clouded_95, nI_1, if_neg (nI_nle (by omega) (by omega)), b_X1_clouded_109, if_neg (by decide), if_neg (by decide), b_X1_clouded_138, mx _ _ (by omega) (by omega), nI_1, nI_1, nI_1]
          exact ih (lcg s) (i + 1) (d + 1) (r + 1) _ (e + 1) (by omega) (by omega) (by omega) hl
        · rw [if_neg c2, if_neg c2, b_X1_clouded_75, if_neg (by decide), b_X1_clouded_87, b_X1_clouded_95, nI_1, if_neg (nI_nle (by omega) (by omega)), b_X1_clouded_109, if_neg (by decide), if_pos rfl, b_X1_clouded_137, b_X1_clouded_138, mx _ _ (by omega) (by omega), nI_1, nI_1, e0, nI_add, Nat.add_zero]
          exact ih (lcg s) (i + 1) (d + 1) (r + 1) _ e (by omega) (by omega) (by omega) hl
theorem cl_step {n ma : Nat} {K : Nat → Int32 → Int32 → Int32 → Int32 → Int32 → pq_S → Option pq_S} {q dy cc x6 : Int32} {T : pq_S} {mo : Int32} {d r l e : Nat} {z : Bool} (hm : m_X12_moonsOn n ma x6 T = some (mo, T)) (hr : r ≤ 100) (hl : l ≤ 100) (t2 : pI T 1268 ma = nI d) (t3 : pI T 1269 ma = nI l) (t4 : pI T 1270 ma = nI e) : b_X12_findClouds_74 n K ma q dy cc (nI r) x6 (if z then 1 else 0) T = (if z = true ∨ mo = 0 then K ma q dy cc (nI (r + 1)) (x6 + 1) (sI (sI (sI T 1268 ma (nI (d + 1))) 1269 ma (nI (if l < r + 1 then r + 1 else l))) 1270 ma (nI (if z = true ∧ mo = 0 then e + 1 else e))) else K ma q dy cc (nI 0) (x6 + 1) (sI (sI (sI T 1268 ma (nI d)) 1269 ma (nI l)) 1270 ma (nI e))) := by
  have f2 : ∀ v, pI (sI T 1268 ma v) 1269 ma = nI l := fun v => by simp only [pI_sI, Nat.reduceEqDiff, false_and, and_true, true_and, eq_self, and_self, ite_true, ite_false, if_true, if_false, t3]
  have f3 : ∀ v w, pI (sI (sI T 1268 ma v) 1269 ma w) 1270 ma = nI e := fun v w => by simp only [pI_sI, Nat.reduceEqDiff, false_and, and_true, true_and, eq_self, and_self, ite_true, ite_false, if_true, if_false, t4]
  have z1 : nI d + (1 : Int32) = nI (d + 1) := nI_1 d
  have z2 : nI r + (1 : Int32) = nI (r + 1) := nI_1 r
  have z3 : nI e + (1 : Int32) = nI (e + 1) := nI_1 e
  have z4 : nI e + (0 : Int32) = nI e := by rw [show (0 : Int32) = nI 0 from rfl, nI_add, Nat.add_zero]
  have z5 : nI d + (0 : Int32) = nI d := by rw [show (0 : Int32) = nI 0 from rfl, nI_add, Nat.add_zero]
  have mx : ∀ {α : Type} (F : Int32 → α), (if nI (r + 1) ≤ nI l then F (nI l) else F (nI (r + 1))) = F (nI (if l < r + 1 then r + 1 else l)) := fun F => by
    by_cases c : l < r + 1
    · rw [if_neg (nI_ge c (by omega)), if_pos c]
    · rw [if_pos (nI_le (by omega) (by omega)), if_neg c]
  rw [b_X12_findClouds_74, hm, cb_mk]
  cases z with
  | true =>
    rw [if_pos (Or.inl rfl)]
    by_cases c2 : mo = 0
    · rw [if_pos c2, b_X12_findClouds_90, if_neg (by decide), b_X12_findClouds_107, b_X12_findClouds_112, if_neg (by decide), b_X12_findClouds_126, b_X12_findClouds_134, t2, z1, z2, f2]
      rw [mx (fun v => b_X12_findClouds_155 n K ma q dy cc (nI (r + 1)) x6 (if true = true then 1 else 0) 1 ma v (sI T 1268 ma (nI (d + 1))))]
      rw [b_X12_findClouds_155, if_neg (by decide), if_neg (by decide), b_X12_findClouds_178, f3, z3, if_pos (show true = true ∧ mo = 0 from ⟨rfl, c2⟩)]
    · rw [if_neg c2, b_X12_findClouds_90, if_pos rfl, if_neg (by decide), b_X12_findClouds_107, b_X12_findClouds_112, if_pos rfl, if_neg (by decide), b_X12_findClouds_126, b_X12_findClouds_134, t2, z1, z2, f2]
      rw [mx (fun v => b_X12_findClouds_155 n K ma q dy cc (nI (r + 1)) x6 (if true = true then 1 else 0) 0 ma v (sI T 1268 ma (nI (d + 1))))]
      rw [b_X12_findClouds_155, if_pos rfl, b_X12_findClouds_177, b_X12_findClouds_178, f3, z4, if_neg (show ¬ (true = true ∧ mo = 0) from fun k => c2 k.2)]
  | false =>
    by_cases c2 : mo = 0
    · rw [if_pos (Or.inr c2), if_pos c2, b_X12_findClouds_90, if_neg (by decide), b_X12_findClouds_107, b_X12_findClouds_112, if_neg (by decide), b_X12_findClouds_126, b_X12_findClouds_134, t2, z1, z2, f2]
      rw [mx (fun v => b_X12_findClouds_155 n K ma q dy cc (nI (r + 1)) x6 (if false = true then 1 else 0) 1 ma v (sI T 1268 ma (nI (d + 1))))]
      rw [b_X12_findClouds_155, if_neg (by decide), if_pos (show (if false = true then (1 : Int32) else 0) = 0 from rfl), b_X12_findClouds_177, b_X12_findClouds_178, f3, z4, if_neg (show ¬ (false = true ∧ mo = 0) from fun k => by cases k.1)]
    · rw [if_neg (show ¬ (false = true ∨ mo = 0) from fun k => k.elim (fun a => by cases a) c2), if_neg c2, b_X12_findClouds_90, if_pos rfl, if_pos (show (if false = true then (1 : Int32) else 0) = 0 from rfl), b_X12_findClouds_112, if_pos rfl, if_pos (show (if false = true then (1 : Int32) else 0) = 0 from rfl), b_X12_findClouds_134, t2, z5, f2, if_pos (show (0 : Int32) ≤ nI l from nI_pos' (by omega)), b_X12_findClouds_155, if_pos rfl, b_X12_findClouds_177, b_X12_findClouds_178, f3, z4]
      rfl
theorem cl_e1 {n ma day c i r f : Nat} {q s : Int32} {T : pq_S} (c0 : ¬ c ≤ i) (hd : day ≤ 9999) (hc : c ≤ 60) (t1 : pI T 1267 ma = s) : b_X12_findClouds_26 n (f + 1) ma q (nI day) (nI c) (nI r) (nI (day + i)) T = b_X12_findClouds_74 n (b_X12_findClouds_26 n f) ma q (nI day) (nI c) (nI r) (nI (day + i)) (if decide (¬ q ≤ drw (lcg s)) then 1 else 0) (sI T 1267 ma (lcg s)) := by
  rw [b_X12_findClouds_26, nI_add, if_neg (nI_ge (by omega) (by omega)), lt_mk, t1]
  have hT1 : pI (sI T 1267 ma (lcg s)) 1267 ma = lcg s := by simp only [pI_sI, Nat.reduceEqDiff, false_and, and_true, true_and, eq_self, and_self, ite_true, ite_false, if_true, if_false]
  rw [show s * 1103515245 + 12345 = lcg s from rfl, hT1, show ((lcg s >>> ((16 : Int32) &&& 31)) &&& 32767) - ((lcg s >>> ((16 : Int32) &&& 31)) &&& 32767) / 16 * 16 = drw (lcg s) from rfl]
  generalize drw (lcg s) = w
  by_cases c1 : q ≤ w
  · rw [if_pos c1, if_neg (by simp [c1])]
  · rw [if_neg c1, if_pos (by simp [c1])]
theorem jg_cl {A : Nat → Nat} {V : Nat → Prop} {g : GH} {L D : Int32 → Int32} {n day c : Nat} {q : Int32} (hE : ∀ (i r f : Nat) (s : Int32) (T : pq_S), ¬ c ≤ i → pI T 1267 (A 60) = s → b_X12_findClouds_26 n (f + 1) (A 60) q (nI day) (nI c) (nI r) (nI (day + i)) T = b_X12_findClouds_74 n (b_X12_findClouds_26 n f) (A 60) q (nI day) (nI c) (nI r) (nI (day + i)) (if decide (¬ q ≤ D (L s)) then 1 else 0) (sI T 1267 (A 60) (L s))) (hn : 4 ≤ n) (hd : day ≤ 9999) (hc : c ≤ 60) : ∀ (f : Nat) (s : Int32) (i d r l e : Nat) (T : pq_S), i ≤ c → c < i + f → r ≤ i → l ≤ i → JG A V g T → pI T 1200 (A 60) = 0 → pI T 1267 (A 60) = s → pI T 1268 (A 60) = nI d → pI T 1269 (A 60) = nI l → pI T 1270 (A 60) = nI e → ∃ T', b_X12_findClouds_26 n f (A 60) q (nI day) (nI c) (nI r) (nI (day + i)) T = some T' ∧ KP A T T' ∧ pI T' 1200 (A 60) = 0 ∧ pI T' 1268 (A 60) = nI (clF L D (moF g) q day (c - i) s i d r l e).1 ∧ pI T' 1269 (A 60) = nI (clF L D (moF g) q day (c - i) s i d r l e).2.1 ∧ pI T' 1270 (A 60) = nI (clF L D (moF g) q day (c - i) s i d r l e).2.2 := by
  intro f
  induction f with
  | zero => intro s i d r l e T h1 h2; omega
  | succ f ih =>
    intro s i d r l e T h1 h2 h3 h4 hJ t0 t1 t2 t3 t4
    by_cases c0 : c ≤ i
    · refine ⟨T, ?_, KPL.rf _ _ _ _ _, t0, ?_⟩
      · rw [b_X12_findClouds_26, nI_add, if_pos (nI_le (by omega) (by omega))]
      · rw [show c - i = 0 by omega, clF]
        exact ⟨t2, t3, t4⟩
    · have hl : (if l < r + 1 then r + 1 else l) ≤ i + 1 := by split <;> omega
      have k1 : KP A T (sI T 1267 (A 60) (L s)) := KPL.wI (KPL.rf _ _ _ _ _) (by decide)
      have hJ1 := hJ.kp k1
      have hst := cl_step (n := n) (ma := A 60) (K := b_X12_findClouds_26 n f) (q := q) (dy := nI day) (cc := nI c) (x6 := nI (day + i)) (T := sI T 1267 (A 60) (L s)) (d := d) (r := r) (l := l) (e := e) (z := decide (¬ q ≤ D (L s))) (sp_moM (n := n) hJ1.lay hJ1.gb hJ1.cm hn (nI (day + i))) (by omega) (by omega) (by simp only [pI_sI, Nat.reduceEqDiff, false_and, and_true, true_and, eq_self, and_self, ite_true, ite_false, if_true, if_false, t2]) (by simp only [pI_sI, Nat.reduceEqDiff, false_and, and_true, true_and, eq_self, and_self, ite_true, ite_false, if_true, if_false, t3]) (by simp only [pI_sI, Nat.reduceEqDiff, false_and, and_true, true_and, eq_self, and_self, ite_true, ite_false, if_true, if_false, t4])
      have e1 := hE i r f s T c0 t1
      have go : ∀ (d' r' l' e' : Nat), r' ≤ i + 1 → l' ≤ i + 1 → ∃ T', b_X12_findClouds_26 n f (A 60) q (nI day) (nI c) (nI r') (nI (day + i) + 1) (sI (sI (sI (sI T 1267 (A 60) (L s)) 1268 (A 60) (nI d')) 1269 (A 60) (nI l')) 1270 (A 60) (nI e')) = some T' ∧ KP A T T' ∧ pI T' 1200 (A 60) = 0 ∧ pI T' 1268 (A 60) = nI (clF L D (moF g) q day (c - (i + 1)) (L s) (i + 1) d' r' l' e').1 ∧ pI T' 1269 (A 60) = nI (clF L D (moF g) q day (c - (i + 1)) (L s) (i + 1) d' r' l' e').2.1 ∧ pI T' 1270 (A 60) = nI (clF L D (moF g) q day (c - (i + 1)) (L s) (i + 1) d' r' l' e').2.2 := by
        intro d' r' l' e' hr' hl'
        have k2 : KP A T (sI (sI (sI (sI T 1267 (A 60) (L s)) 1268 (A 60) (nI d')) 1269 (A 60) (nI l')) 1270 (A 60) (nI e')) := KPL.wI (KPL.wI (KPL.wI k1 (by decide)) (by decide)) (by decide)
        obtain ⟨T', a1, a2, a3, a4, a5, a6⟩ := ih (L s) (i + 1) d' r' l' e' _ (by omega) (by omega) hr' hl' (hJ.kp k2) (by simp only [pI_sI, Nat.reduceEqDiff, false_and, and_true, true_and, eq_self, and_self, ite_true, ite_false, if_true, if_false, t0]) (by simp only [pI_sI, Nat.reduceEqDiff, false_and, and_true, true_and, eq_self, and_self, ite_true, ite_false, if_true, if_false]) (by simp only [pI_sI, Nat.reduceEqDiff, false_and, and_true, true_and, eq_self, and_self, ite_true, ite_false, if_true, if_false]) (by simp only [pI_sI, Nat.reduceEqDiff, false_and, and_true, true_and, eq_self, and_self, ite_true, ite_false, if_true, if_false]) (by simp only [pI_sI, Nat.reduceEqDiff, false_and, and_true, true_and, eq_self, and_self, ite_true, ite_false, if_true, if_false])
        rw [nI_1 (day + i), Nat.add_assoc]
        exact ⟨T', a1, hJ.tr k2 a2, a3, a4, a5, a6⟩
      rw [e1, hst, show c - i = (c - (i + 1)) + 1 by omega]
      unfold clF
      by_cases c1 : q ≤ D (L s)
      · by_cases c2 : moF g (nI (day + i)) = 0
        · simp only [c1, c2, not_true_eq_false, decide_false, Bool.false_eq_true, false_or, false_and, if_true, if_false, or_true]
          exact go (d + 1) (r + 1) _ e (by omega) hl
        · simp only [c1, c2, not_true_eq_false, decide_false, Bool.false_eq_true, false_or, false_and, if_true, if_false, or_false]
          exact go d 0 l e (by omega) (by omega)
      · by_cases c2 : moF g (nI (day + i)) = 0
        · simp only [c1, c2, not_false_eq_true, decide_true, true_or, and_self, if_true, if_false]
          exact go (d + 1) (r + 1) _ (e + 1) (by omega) hl
        · simp only [c1, c2, not_false_eq_true, decide_true, true_or, and_false, if_true, if_false]
          exact go (d + 1) (r + 1) _ e (by omega) hl
theorem jg_clouds {A : Nat → Nat} {V : Nat → Prop} {g : GH} {n day c : Nat} {q s : Int32} {T : pq_S} (hn : 200 ≤ n) (hd : day ≤ 9999) (hc : c ≤ 60) (hJ : JG A V g T) (t0 : pI T 1200 (A 60) = 0) : ∃ T', m_X12_findClouds n (A 60) s q (nI day) (nI c) T = some T' ∧ KP A T T' ∧ pI T' 1200 (A 60) = 0 ∧ pI T' 1268 (A 60) = nI (clF lcg drw (moF g) q day c s 0 0 0 0 0).1 ∧ pI T' 1269 (A 60) = nI (clF lcg drw (moF g) q day c s 0 0 0 0 0).2.1 ∧ pI T' 1270 (A 60) = nI (clF lcg drw (moF g) q day c s 0 0 0 0 0).2.2 := by
  unfold m_X12_findClouds
  have k : KP A T (sI (sI (sI (sI T 1267 (A 60) s) 1268 (A 60) 0) 1269 (A 60) 0) 1270 (A 60) 0) := KPL.wI (KPL.wI (KPL.wI (KPL.wI (KPL.rf _ _ _ _ _) (by decide)) (by decide)) (by decide)) (by decide)
  obtain ⟨T', a1, a2, a3, a4, a5, a6⟩ := jg_cl (A := A) (V := V) (g := g) (n := n) (q := q) (L := lcg) (D := drw) (fun i r f s T c0 t1 => cl_e1 c0 hd hc t1) (by omega) hd hc n s 0 0 0 0 0 _ (by omega) (by omega) (by omega) (by omega) (hJ.kp k) (by simp only [pI_sI, Nat.reduceEqDiff, false_and, and_true, true_and, eq_self, and_self, ite_true, ite_false, if_true, if_false, t0]) (by simp only [pI_sI, Nat.reduceEqDiff, false_and, and_true, true_and, eq_self, and_self, ite_true, ite_false, if_true, if_false]) (by simp only [pI_sI, Nat.reduceEqDiff, false_and, and_true, true_and, eq_self, and_self, ite_true, ite_false, if_true, if_false]; rfl) (by simp only [pI_sI, Nat.reduceEqDiff, false_and, and_true, true_and, eq_self, and_self, ite_true, ite_false, if_true, if_false]; rfl) (by simp only [pI_sI, Nat.reduceEqDiff, false_and, and_true, true_and, eq_self, and_self, ite_true, ite_false, if_true, if_false]; rfl)
  exact ⟨T', a1, hJ.tr k a2, a3, a4, a5, a6⟩
theorem jg_clX {A : Nat → Nat} {V : Nat → Prop} {g : GH} {n day c : Nat} {q s w : Int32} {S : pq_S} (hn : 200 ≤ n) (hd : day ≤ 9999) (hc : c ≤ 60) (h : JG A V g S) : m_X1_clouded n (A 4) s q (nI day) (nI c) w S = b_X1_clouded_147 n w (nI (clF lcg drw (moF g) q day c s 0 0 0 0 0).1) (nI (clF lcg drw (moF g) q day c s 0 0 0 0 0).2.1) (nI (clF lcg drw (moF g) q day c s 0 0 0 0 0).2.2) S := xv_cl (fun d => sp_moX h.lay h.gb h.cx (by omega) d) hd hc n s 0 0 0 0 0 (by omega) (by omega) (by omega) (by omega)
theorem w3 (y : Int32) : y = 0 ∨ y = 1 ∨ y = 2 ∨ ¬ (0 ≤ y ∧ y ≤ 2) := by
  rcases i32_wi y 0 2 (by decide) (by decide) with ⟨k, _, k2, e⟩ | q
  · have : k = 0 ∨ k = 1 ∨ k = 2 := by omega
    rcases this with rfl | rfl | rfl
    · exact Or.inl e
    · exact Or.inr (Or.inl e)
    · exact Or.inr (Or.inr (Or.inl e))
  · exact Or.inr (Or.inr (Or.inr q))
theorem ob_34 (n xa ma : Nat) (hn : 20000 ≤ n) : OB_34 n xa ma (JJ xa ma) := by
  rintro S f ⟨A, V, g, rfl, rfl, h⟩ sd q dy cn w
  have h : JG A V g S := h
  refine ⟨200, 8000, by decide, by decide, _, _, sp_cloudX _ _ _ _ _, ?_⟩
  by_cases c1 : (0 ≤ q ∧ q ≤ 16) ∧ (0 ≤ dy ∧ dy ≤ 9999) ∧ 1 ≤ cn ∧ cn ≤ 60
  · rw [if_pos c1, if_neg (by decide)]
    refine ⟨_, _, sp_isWithin _ _ _ _ _, ?_⟩
    by_cases c2 : 0 ≤ w ∧ w ≤ 2
    · rw [if_pos c2, if_neg (by decide)]
      refine ⟨1, 6, by decide, by decide, wr_need1 ⟨_, h.lay.r0_1101, _, h.lay.r3_700, ?_⟩⟩
      rcases i32_wi dy 0 9999 (by decide) (by decide) with ⟨day, _, hd, rfl⟩ | r
      · rcases i32_wi cn 1 60 (by decide) (by decide) with ⟨c, _, hc, rfl⟩ | r
        · obtain ⟨T', a1, a2, a3, a4, a5, a6⟩ := jg_clouds (n := n) (s := sd) (q := q) (by omega) hd hc h.st0 (st0_th S (A 60))
          have hk : KP A S T' := h.tr (KPL.st0 (KPL.rf _ _ _ _ _)) a2
          rw [jg_clX (by omega) hd hc h, b_X1_clouded_147]
          have M : ∀ r, (if w = 0 then some (pI T' 1268 (A 60), T') else if w = 1 then some (pI T' 1269 (A 60), T') else some (pI T' 1270 (A 60), T')) = some (r, T') → KI (JJ (A 0) (A 60)) (A 60) (m_X12_clouds n (A 60) sd q (nI day) (nI c) w) 0 (vp_updL f 0 (Int32.toInt64 r)) S := fun r e => ki_ok h (by
            unfold m_X12_clouds b_X12_clouds_31
            rw [sp_cloudM, if_pos c1, cb_mk, if_neg (by decide), sp_within, if_pos c2, cb_mk, if_neg (by decide), sp_mayS1, cb_mk, if_neg (by decide), a1, ob_mk]
            exact e) hk a3
          rcases w3 w with rfl | rfl | rfl | r
          · rw [if_pos rfl]
            exact ⟨_, _, rfl, M _ (by rw [if_pos rfl, a4])⟩
          · rw [if_neg (by decide), if_pos rfl]
            exact ⟨_, _, rfl, M _ (by rw [if_neg (by decide), if_pos rfl, a5])⟩
          · rw [if_neg (by decide), if_neg (by decide)]
            exact ⟨_, _, rfl, M _ (by rw [if_neg (by decide), if_neg (by decide), a6])⟩
          · exact absurd c2 r
        · exact absurd c1.2.2 r
      · exact absurd c1.2.1 r
    · rw [if_neg c2, if_pos rfl]
      refine ⟨1, 6, by decide, by decide, wr_need0 (by decide) (by decide) ⟨rfl, ki_bad h (b := 0) (by decide) ?_⟩⟩
      unfold m_X12_clouds b_X12_clouds_30 b_X12_clouds_31
      rw [sp_cloudM, if_pos c1, cb_mk, if_neg (by decide), sp_within, if_neg c2, cb_mk, if_pos rfl, jg_bad h (by decide), cb_mk, if_pos rfl]
  · rw [if_neg c1, if_pos rfl]
    refine ⟨1, 6, by decide, by decide, wr_need0 (by decide) (by decide) ⟨rfl, ki_bad h (b := 0) (by decide) ?_⟩⟩
    unfold m_X12_clouds b_X12_clouds_30 b_X12_clouds_31
    rw [sp_cloudM, if_neg c1, cb_mk, if_pos rfl, jg_bad h (by decide), cb_mk, if_pos rfl]
