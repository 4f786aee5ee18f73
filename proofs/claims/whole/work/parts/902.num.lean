theorem if10 {α : Type} (a b : α) : (if (1 : Int32) = 0 then a else b) = b := if_neg (by decide)
theorem if00 {α : Type} (a b : α) : (if (0 : Int32) = 0 then a else b) = a := if_pos rfl
theorem ifz {α : Type} {c : Prop} [Decidable c] (a b : α) : (if (if c then (1 : Int32) else 0) = 0 then a else b) = if c then b else a := by
  by_cases h : c
  · rw [if_pos h, if10, if_pos h]
  · rw [if_neg h, if00, if_neg h]
section
variable {A b : Nat → Nat} {z n : Nat} {S T : pq_S}
theorem BX.b8 (h : BX A b z S) {q : Nat} (hq : q < z) : b q ≤ 255 := (h.2.2.2.2 q hq).1
/-- both stand, or both are at fault, alike -/
def EE (A b : Nat → Nat) (z : Nat) (S T : pq_S) : Prop := ∃ k q, XE A b z S k q ∧ ME A b z T k q
theorem j_sign {p c : Nat} (hx : XF A b z S p) (hm : MF A b z T p) (hc : 1 ≤ c ∧ c ≤ 255) (hn : 20000 ≤ n) : ∃ S' T', m_X10_takeSign n (A 1) (nI c) S = some S' ∧ m_X12_sign n (A 60) (nI c) T = some T' ∧ TT 1003 1006 S S' ∧ TT 1204 1206 T T' ∧ ((sk b z p < z ∧ b (sk b z p) = c ∧ XF A b z S' (sk b z p + 1) ∧ MF A b z T' (sk b z p + 1)) ∨ EE A b z S' T') := by
  obtain ⟨S1, a1, a2, a3⟩ := x_next hx hn
  obtain ⟨T1, c1, c2, c3⟩ := r_here hm hn
  have hb : sk b z p < z → b (sk b z p) ≤ 255 := fun h => hx.1.b8 h
  have hz := hx.1.2.2.2.1
  unfold m_X10_takeSign m_X12_sign
  rw [a1, cb_mk, r_fine hm, cb_mk, if10, c1, cb_mk]
  by_cases e : sk b z p < z ∧ b (sk b z p) = c
  · rw [if_pos ((xv8_eq hb hc.2).mpr e), if_pos ((mv8_eq hb hc).mpr e), b_X12_sign_24, r_fine c3, cb_mk, if10, a3.2.2.1, c3.2.2.1, nI_1]
    exact ⟨_, _, rfl, rfl, a2.wI (by decide) (by decide), c2.wI (by decide) (by decide), Or.inl ⟨e.1, e.2, a3.mv e.1, c3.mv e.1⟩⟩
  · have l := sk_le b hx.2.1
    obtain ⟨S2, d1, d2, d3⟩ := x_ref (n := n) (k := 1) (q := sk b z p) a3 (by decide) (by omega)
    obtain ⟨T2, e1, e2, e3⟩ := r_wr (n := n) (k := 1) (q := sk b z p) c3 (by decide) (by omega)
    rw [if_neg (fun q => e ((xv8_eq hb hc.2).mp q)), if_neg (fun q => e ((mv8_eq hb hc).mp q)), a3.2.2.1, c3.2.2.1]
    refine ⟨S2, T2, ?_, ?_, a2.tr d2, c2.tr e2, Or.inr ⟨_, _, d3, e3⟩⟩
    · rw [show (1 : Int32) = nI 1 from rfl, d1, ob_mk]
    · rw [show (1 : Int32) = nI 1 from rfl, e1, ob_mk, b_X12_sign_24, r_fineE e3, cb_mk, if_pos rfl]
theorem x_signE {k q c : Nat} (h : XE A b z S k q) (hc : c ≤ 255) (hn : 20000 ≤ n) : ∃ S', m_X10_takeSign n (A 1) (nI c) S = some S' ∧ TT 1003 1006 S S' ∧ XE A b z S' k q := by
  obtain ⟨S1, a1, a2, a3⟩ := x_nextE h hn
  unfold m_X10_takeSign
  rw [a1, cb_mk, if_neg (fun q => absurd q.symm (nI_nm1 (by omega))), x_refE a3, ob_mk]
  exact ⟨S1, rfl, a2, a3⟩
theorem r_signE {k q : Nat} (h : ME A b z S k q) (c : Int32) : m_X12_sign n (A 60) c S = some S := by
  unfold m_X12_sign
  rw [r_fineE h, cb_mk, if_pos rfl, b_X12_sign_24, r_fineE h, cb_mk, if_pos rfl]
/-- the class's byte at a spot -/
theorem x_byte {p : Nat} (h : BX A b z S) (hp : p < 2 ^ 31) : m_X10_byteAt n (A 1) (nI p) S = some (xv8 b z p, S) := by
  obtain ⟨h1, h2, h3, h4, h5⟩ := h
  unfold m_X10_byteAt xv8
  rw [if_neg (nI_pos hp), h3]
  by_cases hz : p < z
  · rw [if_neg (nI_ge hz (by omega)), h1, ob_mk, h2, ofN, if_neg (nI_ge (by omega) (by omega)), ob_mk, h2, ck_pos (ix_nI (by omega) (by decide)), nI_clamp hp, (h5 p hz).2, if_pos hz]
    exact congrArg (fun v => some (v, S)) (sg8_and' (h5 p hz).1)
  · rw [if_pos (nI_le (by omega) hp), if_neg hz]
theorem xv8_in {q lo hi : Nat} (hb : q < z → b q ≤ 255) (h1 : lo ≤ 255) (h2 : hi ≤ 255) : (nI lo ≤ xv8 b z q ∧ xv8 b z q ≤ nI hi) ↔ (q < z ∧ lo ≤ b q ∧ b q ≤ hi) := by
  unfold xv8
  by_cases h : q < z
  · have := hb h
    rw [if_pos h, nI_leI (by omega) (by omega), nI_leI (by omega) (by omega)]
    exact ⟨fun e => ⟨h, e⟩, fun e => e.2⟩
  · rw [if_neg h]
    refine ⟨fun e => absurd e.1 ?_, fun e => absurd e.1 h⟩
    rw [Int32.le_iff_toInt_le, nI_toInt (by omega)]
    show ¬ ((lo : Int) ≤ -1)
    omega
theorem r_dig {c : Nat} (hc : c ≤ 255) : m_X12_isDigit n (nI c) S = some (if 48 ≤ c ∧ c ≤ 57 then 1 else 0, S) := by
  unfold m_X12_isDigit
  rw [show (48 : Int32) = nI 48 from rfl, show (57 : Int32) = nI 57 from rfl]
  by_cases h1 : c < 48
  · rw [if_pos (nI_lt h1 (by omega)), if_neg (by omega)]
  · rw [if_neg (nI_nlt (by omega) (by omega))]
    by_cases h2 : 57 < c
    · rw [if_pos (nI_lt h2 (by omega)), if_neg (by omega)]
    · rw [if_neg (nI_nlt (by omega) (by omega)), if_pos (by omega)]
theorem r_sml {c : Nat} (hc : c ≤ 255) : m_X12_isSmall n (nI c) S = some (if 97 ≤ c ∧ c ≤ 122 then 1 else 0, S) := by
  unfold m_X12_isSmall
  rw [show (97 : Int32) = nI 97 from rfl, show (122 : Int32) = nI 122 from rfl]
  by_cases h1 : c < 97
  · rw [if_pos (nI_lt h1 (by omega)), if_neg (by omega)]
  · rw [if_neg (nI_nlt (by omega) (by omega))]
    by_cases h2 : 122 < c
    · rw [if_pos (nI_lt h2 (by omega)), if_neg (by omega)]
    · rw [if_neg (nI_nlt (by omega) (by omega)), if_pos (by omega)]
/-- the two values of a number -/
def NR (c r : Nat) : Prop := (c = r ∨ (10000 ≤ c ∧ 10000 ≤ r)) ∧ c ≤ 100000 ∧ r ≤ 99999
theorem nI_sub' {a b : Nat} (h : b ≤ a) : nI a - nI b = nI (a - b) := by
  obtain ⟨c, rfl⟩ : ∃ c, a = b + c := ⟨a - b, by omega⟩
  rw [← nI_add, show b + c - b = c by omega, Int32.add_comm, Int32.add_sub_cancel]
theorem j_nloop {lo hi fr fm : Int32} : ∀ (m p f f' : Nat) (S T : pq_S) (cv rv : Nat), z - p ≤ m → m < f → m < f' → XF A b z S p → MF A b z T p → NR cv rv → ∃ S' T' e cv' rv', b_X10_takeNumber_33 n f (A 1) lo hi fr (nI cv) S = b_X10_takeNumber_99 n (A 1) lo hi fr (nI cv') S' ∧ b_X12_readNumber_41 n f' (A 60) lo hi fm (nI rv) T = b_X12_readNumber_114 n (A 60) lo hi fm (nI rv') T' ∧ NR cv' rv' ∧ p ≤ e ∧ (p < z → 48 ≤ b p → b p ≤ 57 → p < e) ∧ XF A b z S' e ∧ MF A b z T' e ∧ TT 1003 1006 S S' ∧ TT 1204 1206 T T' := by
  intro m
  induction m with
  | zero =>
    intro p f f' S T cv rv h1 h2 h3 hx hm hr
    obtain ⟨f, rfl⟩ : ∃ g, f = g + 1 := ⟨f - 1, by omega⟩
    obtain ⟨f', rfl⟩ : ∃ g, f' = g + 1 := ⟨f' - 1, by omega⟩
    have hp : p = z := by have := hx.2.1; omega
    subst hp
    refine ⟨S, T, p, cv, rv, ?_, ?_, hr, Nat.le_refl _, fun q => by omega, hx, hm, TT.rf _ _ _, TT.rf _ _ _⟩
    · rw [b_X10_takeNumber_33, hx.1.2.2.1, hx.2.2.1, if_pos (Int32.le_refl _)]
    · rw [b_X12_readNumber_41, hm.1.2.2.1, hm.2.2.1, if_pos (Int32.le_refl _)]
  | succ m ih =>
    intro p f f' S T cv rv h1 h2 h3 hx hm hr
    obtain ⟨f, rfl⟩ : ∃ g, f = g + 1 := ⟨f - 1, by omega⟩
    obtain ⟨f', rfl⟩ : ∃ g, f' = g + 1 := ⟨f' - 1, by omega⟩
    have hz := hx.1.2.2.2.1
    rw [b_X10_takeNumber_33, hx.1.2.2.1, hx.2.2.1, b_X12_readNumber_41, hm.1.2.2.1, hm.2.2.1]
    by_cases hp : p = z
    · subst hp
      rw [if_pos (Int32.le_refl _), if_pos (Int32.le_refl _)]
      exact ⟨S, T, p, cv, rv, rfl, rfl, hr, Nat.le_refl _, fun q => by omega, hx, hm, TT.rf _ _ _, TT.rf _ _ _⟩
    · have hpz : p < z := by have := hx.2.1; omega
      have hb := hx.1.b8 hpz
      have hbm := hm.1.2.2.2.2 p hpz
      rw [if_neg (nI_ge hpz (by omega)), if_neg (nI_ge hpz (by omega)), x_byte hx.1 (by omega), cb_mk, sp_isWithin, cb_mk, hm.1.1, ob_mk, hm.1.2.1, ck_pos (ix_nI (by omega) (by decide)), nI_clamp (by omega), hbm.2, r_dig hb, cb_mk]
      have e1 : ((48 : Int32) ≤ xv8 b z p ∧ xv8 b z p ≤ (57 : Int32)) ↔ (p < z ∧ 48 ≤ b p ∧ b p ≤ 57) := xv8_in (lo := 48) (hi := 57) (fun _ => hb) (by decide) (by decide)
      by_cases hd : 48 ≤ b p ∧ b p ≤ 57
      · rw [if_pos (e1.mpr ⟨hpz, hd⟩), if_neg (by decide), if_pos hd, if_neg (by decide), hx.2.2.1, x_byte hx.1 (by omega), cb_mk, hm.2.2.1]
        have ex : xv8 b z p = nI (b p) := if_pos hpz
        have ec : (nI cv * (10 : Int32) + xv8 b z p - (48 : Int32)) = nI (cv * 10 + (b p - 48)) := by
          rw [ex, show (10 : Int32) = nI 10 from rfl, nI_mulp, nI_add, show (48 : Int32) = nI 48 from rfl, nI_sub' (by omega), show cv * 10 + b p - 48 = cv * 10 + (b p - 48) by omega]
        have hx2 := hx.mv (q := p + 1) (by omega)
        have hm2 := hm.mv (q := p + 1) (by omega)
        have er : ∃ rv2, (if nI rv ≤ (9999 : Int32) then Option.bind (pR T 1209 (A 60)) fun q30 => ck (ix (nI p) (pN T q30)) (dix _ _) (b_X12_readNumber_99 n (b_X12_readNumber_41 n f') (A 60) lo hi fm ((((10 : Int32) * nI rv) + (pA T q30 (Int32.toNatClampNeg (nI p)))) - (48 : Int32)) T) else b_X12_readNumber_99 n (b_X12_readNumber_41 n f') (A 60) lo hi fm 10000 T) = b_X12_readNumber_41 n f' (A 60) lo hi fm (nI rv2) (sI T 1204 (A 60) (nI (p + 1))) ∧ NR (if 100000 < cv * 10 + (b p - 48) then 100000 else cv * 10 + (b p - 48)) rv2 := by
          obtain ⟨hr1, hr2, hr3⟩ := hr
          by_cases h9 : rv ≤ 9999
          · refine ⟨10 * rv + (b p - 48), ?_, ?_⟩
            · rw [if_pos (show nI rv ≤ (9999 : Int32) from nI_le (b := 9999) h9 (by decide)), hm.1.1, ob_mk, hm.1.2.1, ck_pos (ix_nI (by omega) (by decide)), nI_clamp (by omega), hbm.2, b_X12_readNumber_99, hm.2.2.1, nI_1, show (10 : Int32) = nI 10 from rfl, nI_mulp, nI_add, show (48 : Int32) = nI 48 from rfl, nI_sub' (by omega), show 10 * rv + b p - 48 = 10 * rv + (b p - 48) by omega]
            · unfold NR
              by_cases q : 100000 < cv * 10 + (b p - 48)
              · rw [if_pos q]; omega
              · rw [if_neg q]; omega
          · refine ⟨10000, ?_, ?_⟩
            · rw [if_neg (show ¬ nI rv ≤ (9999 : Int32) from nI_ge (a := 9999) (by omega) (by omega)), b_X12_readNumber_99, hm.2.2.1, nI_1]
              rfl
            · unfold NR
              by_cases q : 100000 < cv * 10 + (b p - 48)
              · rw [if_pos q]; omega
              · rw [if_neg q]; omega
        obtain ⟨rv2, er1, er2⟩ := er
        obtain ⟨S', T', e, cv', rv', t1, t2, t3, t4, t5, t6, t7, t8, t9⟩ := ih (p + 1) f f' _ _ _ _ (by omega) (by omega) (by omega) hx2 hm2 er2
        refine ⟨S', T', e, cv', rv', ?_, ?_, t3, by omega, fun _ _ _ => by omega, t6, t7, ((TT.rf _ _ _).wI (by decide) (by decide)).tr t8, ((TT.rf _ _ _).wI (by decide) (by decide)).tr t9⟩
        · rw [ec, lt_mk, hx.2.2.1, nI_1, ← t1]
          congr 1
          rw [show (100000 : Int32) = nI 100000 from rfl]
          by_cases q : 100000 < cv * 10 + (b p - 48)
          · rw [if_pos q, if_pos (nI_lt q (by have := hr.2.1; omega))]
          · rw [if_neg q, if_neg (nI_nlt (by omega) (by omega))]
        · rw [er1, t2]
      · rw [if_neg (fun q => hd (e1.mp q).2), if_pos rfl, if_neg hd, if_pos rfl]
        exact ⟨S, T, p, cv, rv, rfl, rfl, hr, Nat.le_refl _, fun _ q1 q2 => absurd ⟨q1, q2⟩ hd, hx, hm, TT.rf _ _ _, TT.rf _ _ _⟩
theorem mv8_dig {q : Nat} (hb : q < z → b q ≤ 255) : m_X12_isDigit n (mv8 b z q) S = some (if q < z ∧ 48 ≤ b q ∧ b q ≤ 57 then 1 else 0, S) := by
  unfold mv8
  by_cases h : q < z
  · rw [if_pos h, r_dig (hb h)]
    by_cases c : 48 ≤ b q ∧ b q ≤ 57
    · rw [if_pos c, if_pos ⟨h, c⟩]
    · rw [if_neg c, if_neg (fun q => c q.2)]
  · rw [if_neg h, if_neg (fun q => h q.1), show (0 : Int32) = nI 0 from rfl, r_dig (by decide), if_neg (by decide)]
    rfl
theorem j_num {p : Nat} {lo hi : Int32} (hx : XF A b z S p) (hm : MF A b z T p) (hh : hi ≤ 9999) (hn : 20000 ≤ n) : ∃ v w S' T', m_X10_takeNumber n (A 1) lo hi S = some (v, S') ∧ m_X12_readNumber n (A 60) lo hi T = some (w, T') ∧ TT 1003 1006 S S' ∧ TT 1204 1206 T T' ∧ ((∃ k e, v = nI k ∧ w = nI k ∧ k ≤ 9999 ∧ lo ≤ nI k ∧ nI k ≤ hi ∧ p < e ∧ XF A b z S' e ∧ MF A b z T' e) ∨ EE A b z S' T') := by
  obtain ⟨S1, a1, a2, a3⟩ := x_next hx hn
  obtain ⟨T1, c1, c2, c3⟩ := r_here hm hn
  have hb : sk b z p < z → b (sk b z p) ≤ 255 := fun h => hx.1.b8 h
  have hz := hx.1.2.2.2.1
  have l := sk_le b hx.2.1
  have g := sk_ge b z p
  unfold m_X10_takeNumber m_X12_readNumber
  rw [a1, cb_mk, sp_isWithin, cb_mk, ifz, r_fine hm, cb_mk, if10, c1, cb_mk, mv8_dig hb, cb_mk, ifz]
  have e1 : ((48 : Int32) ≤ xv8 b z (sk b z p) ∧ xv8 b z (sk b z p) ≤ (57 : Int32)) ↔ (sk b z p < z ∧ 48 ≤ b (sk b z p) ∧ b (sk b z p) ≤ 57) := xv8_in (lo := 48) (hi := 57) hb (by decide) (by decide)
  by_cases hd : sk b z p < z ∧ 48 ≤ b (sk b z p) ∧ b (sk b z p) ≤ 57
  · rw [if_pos (e1.mpr hd), if_pos hd, a3.2.2.1, c3.2.2.1]
    obtain ⟨S', T', e, cv, rv, t1, t2, t3, t4, t5, t6, t7, t8, t9⟩ := j_nloop (n := n) (lo := lo) (hi := hi) (fr := nI (sk b z p)) (fm := nI (sk b z p)) z (sk b z p) n n S1 T1 0 0 (by omega) (by omega) (by omega) a3 c3 ⟨Or.inl rfl, by decide, by decide⟩
    rw [nI_0] at t1 t2
    rw [t1, t2]
    unfold b_X10_takeNumber_99 b_X12_readNumber_114
    rw [sp_isWithin, cb_mk, ifz]
    by_cases hw : cv = rv ∧ lo ≤ nI cv ∧ nI cv ≤ hi
    · obtain ⟨rfl, w1, w2⟩ := hw
      rw [if_pos (show lo ≤ nI cv ∧ nI cv ≤ hi from ⟨w1, w2⟩), if_neg (Int32.not_lt.mpr w1), if_pos w2]
      refine ⟨_, _, S', T', rfl, rfl, a2.tr t8, c2.tr t9, Or.inl ⟨cv, e, rfl, rfl, ?_, w1, w2, by have := t5 hd.1 hd.2.1 hd.2.2; omega, t6, t7⟩⟩
      have := Int32.le_trans w2 hh
      rw [show (9999 : Int32) = nI 9999 from rfl, nI_leI (by have := t3.2.1; omega) (by decide)] at this
      exact this
    · obtain ⟨S2, d1, d2, d3⟩ := x_ref (n := n) (k := 2) (q := sk b z p) t6 (by decide) (by omega)
      obtain ⟨T2, e1, e2, e3⟩ := r_wr (n := n) (k := 2) (q := sk b z p) t7 (by decide) (by omega)
      have k1 : ¬ (lo ≤ nI cv ∧ nI cv ≤ hi) := fun q => by
        rcases t3.1 with e | ⟨e, _⟩
        · exact hw ⟨e, q⟩
        · have := Int32.le_trans q.2 hh
          rw [show (9999 : Int32) = nI 9999 from rfl, nI_leI (by have := t3.2.1; omega) (by decide)] at this
          omega
      have k2 : ¬ (lo ≤ nI rv ∧ nI rv ≤ hi) := fun q => by
        rcases t3.1 with e | ⟨_, e⟩
        · exact hw ⟨e, by rw [e]; exact q⟩
        · have := Int32.le_trans q.2 hh
          rw [show (9999 : Int32) = nI 9999 from rfl, nI_leI (by have := t3.2.2; omega) (by decide)] at this
          omega
      have k3 : b_X12_readNumber_126 n (A 60) (nI (sk b z p)) T' = some (0, T2) := by
        unfold b_X12_readNumber_126
        rw [show (2 : Int32) = nI 2 from rfl, e1, ob_mk]
      refine ⟨nI cv, 0, S2, T2, ?_, ?_, (a2.tr t8).tr d2, (c2.tr t9).tr e2, Or.inr ⟨_, _, d3, e3⟩⟩
      · rw [if_neg k1, show (2 : Int32) = nI 2 from rfl, d1, ob_mk]
      · by_cases q1 : nI rv < lo
        · rw [if_pos q1, k3]
        · rw [if_neg q1, if_neg (fun q2 => k2 ⟨Int32.not_lt.mp q1, q2⟩), k3]
  · obtain ⟨S2, d1, d2, d3⟩ := x_ref (n := n) (k := 1) (q := sk b z p) a3 (by decide) (by omega)
    obtain ⟨T2, e1', e2, e3⟩ := r_wr (n := n) (k := 1) (q := sk b z p) c3 (by decide) (by omega)
    rw [if_neg (fun q => hd (e1.mp q)), if_neg hd, a3.2.2.1, c3.2.2.1]
    refine ⟨0, 0, S2, T2, ?_, ?_, a2.tr d2, c2.tr e2, Or.inr ⟨_, _, d3, e3⟩⟩
    · rw [show (1 : Int32) = nI 1 from rfl, d1, ob_mk]
    · rw [show (1 : Int32) = nI 1 from rfl, e1', ob_mk]
theorem x_numE {k q : Nat} (h : XE A b z S k q) (lo hi : Int32) (hn : 20000 ≤ n) : ∃ S', m_X10_takeNumber n (A 1) lo hi S = some (0, S') ∧ TT 1003 1006 S S' ∧ XE A b z S' k q := by
  obtain ⟨S1, a1, a2, a3⟩ := x_nextE h hn
  unfold m_X10_takeNumber
  rw [a1, cb_mk, sp_isWithin, cb_mk, ifz, if_neg (by decide), x_refE a3, ob_mk]
  exact ⟨S1, rfl, a2, a3⟩
theorem r_numE {k q : Nat} (h : ME A b z S k q) (lo hi : Int32) : m_X12_readNumber n (A 60) lo hi S = some (0, S) := by
  unfold m_X12_readNumber
  rw [r_fineE h, cb_mk, if_pos rfl]
end
