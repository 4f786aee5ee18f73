/-! laws: what is read so far -/
theorem lwH_app (cd : Nat → Nat) : ∀ (k m i h : Nat), lwH cd (k + m) i h = (lwH cd k i h).bind (lwH cd m (i + k)) := by
  intro k
  induction k with
  | zero => intro m i h; rw [Nat.zero_add]; rfl
  | succ k ih =>
    intro m i h
    rw [show k + 1 + m = k + m + 1 by omega, lwH, lwH]
    by_cases c : cd i < 2000
    · rw [if_pos c, if_pos c]
      by_cases c2 : h < 24
      · rw [if_pos c2, if_pos c2, ih, show i + 1 + k = i + (k + 1) by omega]
      · rw [if_neg c2, if_neg c2]; rfl
    · rw [if_neg c, if_neg c]
      by_cases c2 : 2 ≤ h
      · rw [if_pos c2, if_pos c2, ih, show i + 1 + k = i + (k + 1) by omega]
      · rw [if_neg c2, if_neg c2]; rfl
theorem lwH_cg {cd ce : Nat → Nat} : ∀ (k i h : Nat), (∀ j, i ≤ j → j < i + k → cd j = ce j) → lwH cd k i h = lwH ce k i h := by
  intro k
  induction k with
  | zero => intro i h _; rfl
  | succ k ih =>
    intro i h e
    rw [lwH, lwH, e i (by omega) (by omega), ih (i + 1) (h + 1) (fun j h1 h2 => e j (by omega) (by omega)), ih (i + 1) (h - 1) (fun j h1 h2 => e j (by omega) (by omega))]
def LCI (A : Nat → Nat) (S T : pq_S) (L h : Nat) (cd : Nat → Nat) : Prop := pI S 203 (A 48) = nI L ∧ pI T 1236 (A 60) = nI L ∧ (∀ k, k < L → (cd k < 1007 ∨ (2000 ≤ cd k ∧ cd k ≤ 2005)) ∧ pA S (A 49) k = nI (cd k) ∧ pA T (A 71) k = nI (lwWhat (cd k)) ∧ pA T (A 72) k = nI (lwOf (cd k))) ∧ lwH cd L 0 0 = some h
def PK (A b : Nat → Nat) (z o s : Nat) (S T : pq_S) (p L h : Nat) (cd : Nat → Nat) : Prop := XF A b z S p ∧ MF A b z T p ∧ LCI A S T L h cd ∧ L + s ≤ p ∧ pI T 1207 (A 60) = nI o ∧ LAY A S ∧ LAY A T
def XLw (A b : Nat → Nat) (z : Nat) (S : pq_S) (k q : Nat) : Prop := XE A b z S k q ∧ LAY A S ∧ ∃ L, L ≤ 150 ∧ pI S 203 (A 48) = nI L
def OUT (A b : Nat → Nat) (z o s : Nat) (S T : pq_S) (p h : Nat) : Prop := (∃ p' L' cd', PK A b z o s S T p' L' h cd' ∧ p < p') ∨ ∃ k q, XLw A b z S k q ∧ ME A b z T k q
theorem LAY.tt {A : Nat → Nat} {S T : pq_S} {lo hi : Nat} (h : LAY A S) (t : TT lo hi S T) (q : ¬ (lo ≤ 901 ∧ 901 ≤ hi)) : LAY A T := h.eqv t.1.1 t.1.2.1 t.1.2.2.1 t.1.2.2.2.1 fun a => t.2 901 a q
section
variable {A b : Nat → Nat} {z n o s : Nat} {S T : pq_S}
theorem LCI.tt {L h : Nat} {cd : Nat → Nat} {S' T' : pq_S} (hl : LCI A S T L h cd) (k1 : TT 1003 1006 S S') (k2 : TT 1204 1206 T T') : LCI A S' T' L h cd := by
  unfold LCI
  rw [k1.2 203 _ (by decide), k1.1.2.2.2.2.2, k2.2 1236 _ (by decide), k2.1.2.2.2.2.2]
  exact hl
theorem PK.tt {p p' L h s' : Nat} {cd : Nat → Nat} {S' T' : pq_S} (hk : PK A b z o s S T p L h cd) (k1 : TT 1003 1006 S S') (k2 : TT 1204 1206 T T') (hx : XF A b z S' p') (hm : MF A b z T' p') (hs : L + s' ≤ p') : PK A b z o s' S' T' p' L h cd := ⟨hx, hm, hk.2.2.1.tt k1 k2, hs, by rw [k2.2 _ _ (by decide)]; exact hk.2.2.2.2.1, hk.2.2.2.2.2.1.tt k1 (by decide), hk.2.2.2.2.2.2.tt k2 (by decide)⟩
/-- an error that came while a law was read -/
theorem PK.er {p L h k q : Nat} {cd : Nat → Nat} {S' : pq_S} (hk : PK A b z o s S T p L h cd) (hz : z ≤ 150) (k1 : TT 1003 1006 S S') (hx : XE A b z S' k q) : XLw A b z S' k q := ⟨hx, hk.2.2.2.2.2.1.tt k1 (by decide), L, by have := hk.1.2.1; have := hk.2.2.2.1; omega, by rw [k1.2 _ _ (by decide)]; exact hk.2.2.1.1⟩
theorem XLw.tt {k q : Nat} {S' : pq_S} (h : XLw A b z S k q) (k1 : TT 1003 1006 S S') (hx : XE A b z S' k q) : XLw A b z S' k q := ⟨hx, h.2.1.tt k1 (by decide), by
  obtain ⟨L, l1, l2⟩ := h.2.2
  exact ⟨L, l1, by rw [k1.2 _ _ (by decide)]; exact l2⟩⟩
theorem XE.fx {F : List Nat} {P : List (Nat × Nat)} {AA : List Nat} {k q : Nat} {U : pq_S} (h : XE A b z S k q) (kk : FX F P AA A S U) (hl : LAY A S) (h1 : 1002 ∉ F ∧ 1003 ∉ F ∧ 1005 ∉ F ∧ 1006 ∉ F) (h2 : ∀ e ∈ P, e.1 ≠ 1002 ∧ e.1 ≠ 1003 ∧ e.1 ≠ 1005 ∧ e.1 ≠ 1006) (h3 : ∀ j ∈ AA, j < 92 ∧ 2 ≠ j) : XE A b z U k q := by
  obtain ⟨⟨x1, x2, x3, x4, x5⟩, ⟨p, x6, x7⟩, x8, x9, x10⟩ := h
  refine ⟨⟨by rw [kk.1.2.2.1]; exact x1, by rw [kk.1.2.2.2.1]; exact x2, ?_, x4, fun i hi => by rw [kk.W hl (by decide) h3]; exact x5 i hi⟩, ⟨p, x6, ?_⟩, ?_, ?_, x10⟩
  · rw [kk.2.1 _ _ h1.1 (fun e he q => absurd q.symm (h2 e he).1)]; exact x3
  · rw [kk.2.1 _ _ h1.2.1 (fun e he q => absurd q.symm (h2 e he).2.1)]; exact x7
  · rw [kk.2.1 _ _ h1.2.2.1 (fun e he q => absurd q.symm (h2 e he).2.2.1)]; exact x8
  · rw [kk.2.1 _ _ h1.2.2.2 (fun e he q => absurd q.symm (h2 e he).2.2.2)]; exact x9
/-- the class takes one code more -/
theorem x_app2 {L : Nat} {c : Int32} (hl : LAY A S) (e : pI S 203 (A 48) = nI L) (hL : L < 150) : m_X2_append n (A 48) c S = some (sI (sA S (A 49) L c) 203 (A 48) (nI (L + 1))) := by
  unfold m_X2_append
  rw [hl.r48_200, ob_mk, hl.n49, e, ofN, if_neg (nI_ge (by omega) (by omega)), ob_mk, hl.n49, ck_pos (ix_nI (by omega) (by decide)), lt_mk, nI_clamp (by omega), pI_sA, e, nI_1]
theorem xl_app {k q : Nat} {c : Int32} (h : XLw A b z S k q) : ∃ S', m_X2_append n (A 48) c S = some S' ∧ FXx A S S' ∧ XLw A b z S' k q := by
  obtain ⟨hx, hl, L, l1, l2⟩ := h
  by_cases h1 : L = 150
  · refine ⟨S, ?_, FX.rf _ _ _ _ _, hx, hl, L, l1, l2⟩
    unfold m_X2_append
    rw [hl.r48_200, ob_mk, hl.n49, l2, ofN, if_pos (nI_le (by omega) (by omega))]
  · have kk : FX [] [(203, 48)] [49] A S (sI (sA S (A 49) L c) 203 (A 48) (nI (L + 1))) := ((FX.rf _ _ _ _ _).wA (by decide)).wP (by decide)
    exact ⟨_, x_app2 hl l2 (by omega), kk.mono (by decide) (by decide) (by decide), hx.fx kk hl (by decide) (by decide) (by decide), kk.lay hl (by decide) (by decide), L + 1, by omega, pI_e ..⟩
theorem r_emitE {k q : Nat} {x y : Int32} (h : ME A b z T k q) : m_X12_emit n (A 60) x y T = some T := by
  unfold m_X12_emit
  rw [r_fineE h, cb_mk, if00]
theorem j_emit {p L h h' c : Nat} {cd : Nat → Nat} (hz : z ≤ 150) (hk : PK A b z o s S T p L h cd) (hs : L + 1 ≤ p) (hc : c < 1007 ∨ (2000 ≤ c ∧ c ≤ 2005)) (hh : (if c < 2000 then (if h < 24 then some (h + 1) else none) else (if 2 ≤ h then some (h - 1) else none)) = some h') (hs' : L + 1 + s ≤ p) : ∃ S' T', m_X2_append n (A 48) (nI c) S = some S' ∧ m_X12_emit n (A 60) (nI (lwWhat c)) (nI (lwOf c)) T = some T' ∧ FXx A S S' ∧ FXm A T T' ∧ PK A b z o s S' T' p (L + 1) h' (updN cd L c) := by
  obtain ⟨hx, hm, hc1, _, ho, lS, lT⟩ := hk
  have hp := hx.2.1
  have k1 : FX [] [(203, 48)] [49] A S (sI (sA S (A 49) L (nI c)) 203 (A 48) (nI (L + 1))) := ((FX.rf _ _ _ _ _).wA (by decide)).wP (by decide)
  have k2 : FX [1236] [] [71, 72] A T (sI (sA (sA T (A 71) L (nI (lwWhat c))) (A 72) L (nI (lwOf c))) 1236 (A 60) (nI (L + 1))) := (((FX.rf _ _ _ _ _).wA (by decide)).wA (by decide)).wI (by decide)
  have n1 : A 71 ≠ A 72 := lT.ne (by decide) (by decide) (by decide)
  refine ⟨_, _, x_app2 lS hc1.1 (by omega), ?_, k1.mono (by decide) (by decide) (by decide), k2.mono (by decide) (by decide) (by decide), ⟨hx.fx k1 lS (by decide) (by decide) (by decide), hm.fx k2 lT (by decide) (by decide) (by decide), ⟨pI_e .., pI_e .., fun k hk => ?_, ?_⟩, hs', by rw [k2.I lT (by decide) (by decide) (by decide)]; exact ho, k1.lay lS (by decide) (by decide), k2.lay lT (by decide) (by decide)⟩⟩
  · unfold m_X12_emit
    rw [r_fine hm, cb_mk, if10, lT.r60_1230, ob_mk, lT.n71, hc1.2.1, ck_pos (ix_nI (by omega) (by decide)), nI_clamp (by omega), pR_sA, lT.r60_1231, ob_mk, pI_sA, hc1.2.1, pN_sA, lT.n72, ck_pos (ix_nI (by omega) (by decide)), lt_mk, nI_clamp (by omega), pI_sA, pI_sA, hc1.2.1, nI_1]
  · by_cases e : k = L
    · subst e
      rw [updN_e]
      refine ⟨hc, ?_, ?_, ?_⟩
      · rw [pA_sI, pA_sA, if_pos ⟨rfl, rfl⟩]
      · rw [pA_sI, pA_sA, if_neg (fun q => n1 q.1), pA_sA, if_pos ⟨rfl, rfl⟩]
      · rw [pA_sI, pA_sA, if_pos ⟨rfl, rfl⟩]
    · obtain ⟨y1, y2, y3, y4⟩ := hc1.2.2.1 k (by omega)
      rw [updN_n _ _ e]
      refine ⟨y1, ?_, ?_, ?_⟩
      · rw [pA_sI, pA_sA, if_neg (fun q => e q.2)]; exact y2
      · rw [pA_sI, pA_sA, if_neg (fun q => e q.2), pA_sA, if_neg (fun q => e q.2)]; exact y3
      · rw [pA_sI, pA_sA, if_neg (fun q => e q.2), pA_sA, if_neg (fun q => e q.2)]; exact y4
  · rw [lwH_app, lwH_cg L 0 0 (fun j _ hj => updN_n cd c (show j ≠ L by omega)), hc1.2.2.2]
    show lwH (updN cd L c) 1 (0 + L) h = some h'
    rw [Nat.zero_add, lwH, updN_e]
    by_cases e : c < 2000
    · rw [if_pos e] at hh ⊢
      by_cases e2 : h < 24
      · rw [if_pos e2] at hh ⊢; exact hh
      · rw [if_neg e2] at hh; cases hh
    · rw [if_neg e] at hh ⊢
      by_cases e2 : 2 ≤ h
      · rw [if_pos e2] at hh ⊢; exact hh
      · rw [if_neg e2] at hh; cases hh
/-! a fault keeps the class's methods going, and the reference's -/
theorem xl_sign {k q c : Nat} (h : XLw A b z S k q) (hc : c ≤ 255) (hn : 20000 ≤ n) : ∃ S', m_X10_takeSign n (A 1) (nI c) S = some S' ∧ FXx A S S' ∧ XLw A b z S' k q := by
  obtain ⟨S', a1, a2, a3⟩ := x_signE (n := n) (c := c) h.1 hc hn
  exact ⟨S', a1, a2.x, h.tt a2 a3⟩
theorem xl_unit {k q d : Nat} {o : Int32} (h : XLw A b z S k q) (hn : 20000 ≤ n) : ∃ S', (m_lawP_d n (d + 1)).2.2.1 (A 48) (A 1) o S = some S' ∧ FXx A S S' ∧ XLw A b z S' k q := by
  obtain ⟨S', a1, a2, a3⟩ := x_nextE (n := n) h.1 hn
  refine ⟨S', ?_, a2.x, h.tt a2 a3⟩
  show g_X2_readUnit n (m_lawP_d n d) (A 48) (A 1) o S = _
  unfold g_X2_readUnit
  rw [a1, cb_mk, sp_isWithin, cb_mk, ifz, if_neg (by decide), sp_isWithin, cb_mk, ifz, if_neg (by decide), if_neg (by decide), x_refE a3, ob_mk]
theorem xl_prod {k q d : Nat} {o : Int32} (h : XLw A b z S k q) (hn : 20000 ≤ n) : ∃ S', (m_lawP_d n (d + 2)).2.1 (A 48) (A 1) o S = some S' ∧ FXx A S S' ∧ XLw A b z S' k q := by
  obtain ⟨S1, a1, a2, a3⟩ := xl_unit (n := n) (d := d) (o := o) h hn
  obtain ⟨S2, c1, c2, c3⟩ := x_nextE (n := n) a3.1 hn
  obtain ⟨S3, e1, e2, e3⟩ := x_nextE (n := n) c3 hn
  obtain ⟨n', rfl⟩ : ∃ n', n = n' + 1 := ⟨n - 1, by omega⟩
  refine ⟨S3, ?_, (a2.tr c2.x).tr e2.x, (a3.tt c2 c3).tt e2 e3⟩
  show g_X2_readProduct (n' + 1) (m_lawP_d (n' + 1) (d + 1)) (A 48) (A 1) o S = _
  unfold g_X2_readProduct
  rw [a1, ob_mk, b_X2_readProduct_8, if_neg (by decide), c1, cb_mk, if_neg (by decide), e1, cb_mk, if_neg (by decide)]
theorem xl_ploop {k q f i : Nat} {r : (Nat → Nat → Int32 → pq_S → Option pq_S) × (Nat → Nat → Int32 → pq_S → Option pq_S) × (Nat → Nat → Int32 → pq_S → Option pq_S) × (Nat → Nat → Int32 → pq_S → Option pq_S) × (Nat → Nat → Int32 → pq_S → Option pq_S) × (Nat → Nat → Int32 → Int32 → pq_S → Option pq_S)} {o x : Int32} (h : XLw A b z S k q) (hn : 20000 ≤ n) : ∃ S', b_X2_readProduct_8 n r (f + 1) (A 48) (A 1) o x S = some S' ∧ FXx A S S' ∧ XLw A b z S' k q := by
  rw [b_X2_readProduct_8]
  by_cases hx : (150 : Int32) ≤ x
  · rw [if_pos hx]; exact ⟨S, rfl, FX.rf _ _ _ _ _, h⟩
  · obtain ⟨S2, c1, c2, c3⟩ := x_nextE (n := n) h.1 hn
    obtain ⟨S3, e1, e2, e3⟩ := x_nextE (n := n) c3 hn
    rw [if_neg hx, c1, cb_mk, if_neg (by decide), e1, cb_mk, if_neg (by decide)]
    exact ⟨S3, rfl, c2.x.tr e2.x, (h.tt c2 c3).tt e2 e3⟩
theorem xl_sloop {k q f i : Nat} {r : (Nat → Nat → Int32 → pq_S → Option pq_S) × (Nat → Nat → Int32 → pq_S → Option pq_S) × (Nat → Nat → Int32 → pq_S → Option pq_S) × (Nat → Nat → Int32 → pq_S → Option pq_S) × (Nat → Nat → Int32 → pq_S → Option pq_S) × (Nat → Nat → Int32 → Int32 → pq_S → Option pq_S)} {o x : Int32} (h : XLw A b z S k q) (hn : 20000 ≤ n) : ∃ S', b_X2_readSum_8 n r (f + 1) (A 48) (A 1) o x S = some S' ∧ FXx A S S' ∧ XLw A b z S' k q := by
  rw [b_X2_readSum_8]
  by_cases hx : (150 : Int32) ≤ x
  · rw [if_pos hx]; exact ⟨S, rfl, FX.rf _ _ _ _ _, h⟩
  · obtain ⟨S2, c1, c2, c3⟩ := x_nextE (n := n) h.1 hn
    obtain ⟨S3, e1, e2, e3⟩ := x_nextE (n := n) c3 hn
    rw [if_neg hx, c1, cb_mk, if_neg (by decide), e1, cb_mk, if_neg (by decide)]
    exact ⟨S3, rfl, c2.x.tr e2.x, (h.tt c2 c3).tt e2 e3⟩
theorem xl_sum {k q d : Nat} {o : Int32} (h : XLw A b z S k q) (hd : 3 ≤ d) (hn : 20000 ≤ n) : ∃ S', (m_lawP_d n d).1 (A 48) (A 1) o S = some S' ∧ FXx A S S' ∧ XLw A b z S' k q := by
  obtain ⟨d, rfl⟩ : ∃ e, d = e + 3 := ⟨d - 3, by omega⟩
  obtain ⟨S1, a1, a2, a3⟩ := xl_prod (n := n) (d := d) (o := o) h hn
  obtain ⟨n', rfl⟩ : ∃ n', n = n' + 1 := ⟨n - 1, by omega⟩
  obtain ⟨S2, c1, c2, c3⟩ := xl_sloop (n := n' + 1) (f := n') (i := 0) (r := m_lawP_d (n' + 1) (d + 2)) (o := o) (x := 0) a3 hn
  refine ⟨S2, ?_, a2.tr c2, c3⟩
  show g_X2_readSum (n' + 1) (m_lawP_d (n' + 1) (d + 2)) (A 48) (A 1) o S = _
  unfold g_X2_readSum
  rw [a1, ob_mk]
  exact c1
theorem rl_unit {k q d : Nat} (h : ME A b z T k q) : (m_modP_d n (d + 1)).2.2.2 (A 60) T = some T := by
  show g_X12_readUnit n (m_modP_d n d) (A 60) T = _
  unfold g_X12_readUnit
  rw [r_fineE h, cb_mk, if00]
theorem rl_ploop {k q f : Nat} {r : (Nat → pq_S → Option pq_S) × (Nat → pq_S → Option pq_S) × (Nat → Int32 → Int32 → pq_S → Option pq_S) × (Nat → pq_S → Option pq_S)} (h : ME A b z T k q) : b_X12_readProduct_4 n r (f + 1) (A 60) T = some T := by
  rw [b_X12_readProduct_4, r_fineE h, cb_mk, if00]
theorem rl_sloop {k q f : Nat} {r : (Nat → pq_S → Option pq_S) × (Nat → pq_S → Option pq_S) × (Nat → Int32 → Int32 → pq_S → Option pq_S) × (Nat → pq_S → Option pq_S)} (h : ME A b z T k q) : b_X12_readSum_4 n r (f + 1) (A 60) T = some T := by
  rw [b_X12_readSum_4, r_fineE h, cb_mk, if00]
theorem rl_prod {k q d : Nat} (h : ME A b z T k q) (hn : 20000 ≤ n) : (m_modP_d n (d + 2)).2.1 (A 60) T = some T := by
  obtain ⟨n', rfl⟩ : ∃ n', n = n' + 1 := ⟨n - 1, by omega⟩
  show g_X12_readProduct (n' + 1) (m_modP_d (n' + 1) (d + 1)) (A 60) T = _
  unfold g_X12_readProduct
  rw [rl_unit h, ob_mk, rl_ploop h]
theorem rl_sum {k q d : Nat} (h : ME A b z T k q) (hd : 3 ≤ d) (hn : 20000 ≤ n) : (m_modP_d n d).1 (A 60) T = some T := by
  obtain ⟨d, rfl⟩ : ∃ e, d = e + 3 := ⟨d - 3, by omega⟩
  have h1 := rl_prod (n := n) (d := d) h hn
  obtain ⟨n', rfl⟩ : ∃ n', n = n' + 1 := ⟨n - 1, by omega⟩
  show g_X12_readSum (n' + 1) (m_modP_d (n' + 1) (d + 2)) (A 60) T = _
  unfold g_X12_readSum
  rw [h1, ob_mk, rl_sloop h]
theorem ME.op {k q : Nat} {v : Int32} (h : ME A b z T k q) : ME A b z (sI T 1207 (A 60) v) k q := by
  obtain ⟨h1, ⟨p, h2, h3⟩, h4, h5, h6⟩ := h
  exact ⟨⟨h1.1, h1.2.1, by rw [pI_n (by decide)]; exact h1.2.2.1, h1.2.2.2⟩, ⟨p, h2, by rw [pI_n (by decide)]; exact h3⟩, by rw [pI_n (by decide)]; exact h4, by rw [pI_n (by decide)]; exact h5, h6⟩
theorem MF.op {p : Nat} {v : Int32} (h : MF A b z T p) : MF A b z (sI T 1207 (A 60) v) p := by
  obtain ⟨h1, h2, h3, h4⟩ := h
  exact ⟨⟨h1.1, h1.2.1, by rw [pI_n (by decide)]; exact h1.2.2.1, h1.2.2.2⟩, h2, by rw [pI_n (by decide)]; exact h3, by rw [pI_n (by decide)]; exact h4⟩
/-- the class goes over a sign that stands there -/
theorem x_sg1 {p c : Nat} (hx : XF A b z S p) (hq : sk b z p < z) (hc : b (sk b z p) = c) (hn : 20000 ≤ n) : ∃ S', m_X10_takeSign n (A 1) (nI c) S = some S' ∧ TT 1003 1006 S S' ∧ XF A b z S' (sk b z p + 1) := by
  obtain ⟨S1, a1, a2, a3⟩ := x_next (n := n) hx hn
  unfold m_X10_takeSign
  rw [a1, cb_mk, if_pos (show xv8 b z (sk b z p) = nI c by unfold xv8; rw [if_pos hq, hc]), a3.2.2.1, nI_1]
  exact ⟨_, rfl, a2.wI (by decide) (by decide), a3.mv hq⟩
end
