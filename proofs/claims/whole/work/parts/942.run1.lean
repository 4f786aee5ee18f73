/-! work: steps are done -/
def rxF : List Nat := [204]
def rxP : List (Nat × Nat) := [(803, 13), (804, 13)]
def rxA : List Nat := [15, 17, 19, 22, 23, 26, 27]
def rmF : List Nat := []
def rmA : List Nat := [76, 77, 81]
abbrev FXr : (Nat → Nat) → pq_S → pq_S → Prop := FX rxF rxP rxA
abbrev FXs : (Nat → Nat) → pq_S → pq_S → Prop := FX rmF [] rmA
def rxG : List Nat := [204, 601, 602, 603]
def rmG : List Nat := [1243, 1244, 1245]
abbrev FXR : (Nat → Nat) → pq_S → pq_S → Prop := FX rxG rxP rxA
abbrev FXS : (Nat → Nat) → pq_S → pq_S → Prop := FX rmG [] rmA
section
variable {A : Nat → Nat} {n : Nat} {S T : pq_S} {g : GH} {st : Nat → Int32}
theorem LX.fx {T' : pq_S} (h : LX A T T') : FXr A T T' := by
  rcases h with rfl | ⟨w, F, s, v, hw, rfl⟩
  · exact FX.rf _ _ _ _ _
  · have : w = 0 ∨ w = 1 := by omega
    rcases this with rfl | rfl
    · exact (((FX.rf _ _ _ _ _).wF (j := 22) (by decide)).wF (j := 23) (by decide)).wI (by decide)
    · exact (((FX.rf _ _ _ _ _).wF (j := 26) (by decide)).wF (j := 27) (by decide)).wI (by decide)
theorem LM.fx {T' : pq_S} (h : LM A T T') : FXs A T T' := by
  rcases h with rfl | ⟨u, s, rfl⟩
  · exact FX.rf _ _ _ _ _
  · exact ((FX.rf _ _ _ _ _).wF (by decide)).wF (by decide)
theorem SB.u (h : SB g st) (hg : GB g) {k : Nat} {v : Int32} (h1 : k < 12 → ∃ m, m ≤ 999 ∧ v = nI m) (h2 : 18 ≤ k → k < 30 → v = 0 ∨ v = 1) (h3 : 42 ≤ k → k < 45 → ∃ m, m ≤ 400 ∧ v = nI m) : SB g (stu st k v) := by
  have hb := hg.b
  refine ⟨fun p hp => ?_, fun p hp => ?_, fun i hi => ?_, fun m hm => ?_⟩
  · by_cases e : p = k
    · subst e; rw [stu_eq]; exact h1 (by omega)
    · rw [stu_ne e]; exact h.1 p hp
  · by_cases e : 6 + p = k
    · subst e; rw [stu_eq]; exact h1 (by omega)
    · rw [stu_ne e]; exact h.2.1 p hp
  · by_cases e : 18 + i = k
    · subst e; rw [stu_eq]; exact h2 (by omega) (by omega)
    · rw [stu_ne e]; exact h.2.2.1 i hi
  · by_cases e : 42 + m = k
    · subst e; rw [stu_eq]; exact h3 (by omega) (by omega)
    · rw [stu_ne e]; exact h.2.2.2 m hm
theorem RV.w (h : RV g A T st) {k : Nat} {v : Int32} (hs : SB g (stu st k v)) : RV g A (sA T (A 81) k v) (stu st k v) := by
  have kk : FX [] [] [81] A T (sA T (A 81) k v) := (FX.rf _ _ _ _ _).wA (by decide)
  refine ⟨kk.lay h.1 (by decide) (by decide), h.2.1, hs, h.2.2.2.1.cg (fun e he => rfl) (fun c hc i => ?_), fun i hi => ?_⟩
  · have : c < 92 ∧ ∀ j ∈ [81], j < 92 ∧ c ≠ j := by revert c; decide
    exact kk.W h.1 this.1 this.2 i
  · rw [pA_sA]
    by_cases e : i = k
    · subst e; rw [if_pos ⟨rfl, rfl⟩, stu_eq]
    · rw [if_neg (fun q => e q.2), stu_ne e]; exact h.2.2.2.2 i hi
theorem XV.wh (h : XV g A S st) {p c : Nat} {v : Int32} (hp : p < gP g) (hc : c < 3) (hs : SB g (stu st (6 * c + p) v)) : XV g A (sA S (A 15) (3 * p + c) v) (stu st (6 * c + p) v) := by
  have hb := h.2.1.b
  have kk : FX [] [] [15] A S (sA S (A 15) (3 * p + c) v) := (FX.rf _ _ _ _ _).wA (by decide)
  obtain ⟨lS, hg, _, cx, sx⟩ := h
  refine ⟨kk.lay lS (by decide) (by decide), hg, hs, cx.cg (fun e he => rfl) (fun c hc i => ?_), ⟨sx.1.1, sx.1.2.1, sx.1.2.2.1, ?_, ?_⟩, fun p' hp' => ⟨?_, ?_, ?_⟩, fun i hi => ⟨?_, ?_⟩, fun m hm => ⟨?_, ?_⟩⟩
  · have : c < 92 ∧ ∀ j ∈ [15], j < 92 ∧ c ≠ j := by revert c; decide
    exact kk.W lS this.1 this.2 i
  · rw [stu_ne (by omega)]; exact sx.1.2.2.2.1
  · rw [stu_ne (by omega)]; exact sx.1.2.2.2.2
  · rw [pA_sA]
    by_cases e : p' = p ∧ c = 0
    · rw [if_pos ⟨rfl, by omega⟩, show p' = 6 * c + p by omega, stu_eq]
    · rw [if_neg (fun q => e (by omega)), stu_ne (by omega)]; exact (sx.2.1 p' hp').1
  · rw [pA_sA]
    by_cases e : p' = p ∧ c = 1
    · rw [if_pos ⟨rfl, by omega⟩, show 6 + p' = 6 * c + p by omega, stu_eq]
    · rw [if_neg (fun q => e (by omega)), stu_ne (by omega)]; exact (sx.2.1 p' hp').2.1
  · rw [pA_sA]
    by_cases e : p' = p ∧ c = 2
    · rw [if_pos ⟨rfl, by omega⟩, show 12 + p' = 6 * c + p by omega, stu_eq]
    · rw [if_neg (fun q => e (by omega)), stu_ne (by omega)]; exact (sx.2.1 p' hp').2.2
  · rw [kk.W lS (by decide) (by decide), stu_ne (by omega)]; exact (sx.2.2.1 i hi).1
  · rw [kk.W lS (by decide) (by decide), stu_ne (by omega)]; exact (sx.2.2.1 i hi).2
  · rw [kk.W lS (by decide) (by decide), stu_ne (by omega)]; exact (sx.2.2.2 m hm).1
  · rw [kk.W lS (by decide) (by decide), stu_ne (by omega)]; exact (sx.2.2.2 m hm).2
theorem XV.ww (h : XV g A S st) {p c : Nat} {v : Int32} (hp : p < gW g) (hc : c < 2) (hs : SB g (stu st (18 + 12 * c + p) v)) : XV g A (sA S (A 17) (2 * p + c) v) (stu st (18 + 12 * c + p) v) := by
  have hb := h.2.1.b
  have kk : FX [] [] [17] A S (sA S (A 17) (2 * p + c) v) := (FX.rf _ _ _ _ _).wA (by decide)
  obtain ⟨lS, hg, _, cx, sx⟩ := h
  refine ⟨kk.lay lS (by decide) (by decide), hg, hs, cx.cg (fun e he => rfl) (fun c hc i => ?_), ⟨sx.1.1, sx.1.2.1, sx.1.2.2.1, ?_, ?_⟩, fun p' hp' => ⟨?_, ?_, ?_⟩, fun i hi => ⟨?_, ?_⟩, fun m hm => ⟨?_, ?_⟩⟩
  · have : c < 92 ∧ ∀ j ∈ [17], j < 92 ∧ c ≠ j := by revert c; decide
    exact kk.W lS this.1 this.2 i
  · rw [stu_ne (by omega)]; exact sx.1.2.2.2.1
  · rw [stu_ne (by omega)]; exact sx.1.2.2.2.2
  · rw [kk.W lS (by decide) (by decide), stu_ne (by omega)]; exact (sx.2.1 p' hp').1
  · rw [kk.W lS (by decide) (by decide), stu_ne (by omega)]; exact (sx.2.1 p' hp').2.1
  · rw [kk.W lS (by decide) (by decide), stu_ne (by omega)]; exact (sx.2.1 p' hp').2.2
  · rw [pA_sA]
    by_cases e : i = p ∧ c = 0
    · rw [if_pos ⟨rfl, by omega⟩, show 18 + i = 18 + 12 * c + p by omega, stu_eq]
    · rw [if_neg (fun q => e (by omega)), stu_ne (by omega)]; exact (sx.2.2.1 i hi).1
  · rw [pA_sA]
    by_cases e : i = p ∧ c = 1
    · rw [if_pos ⟨rfl, by omega⟩, show 30 + i = 18 + 12 * c + p by omega, stu_eq]
    · rw [if_neg (fun q => e (by omega)), stu_ne (by omega)]; exact (sx.2.2.1 i hi).2
  · rw [kk.W lS (by decide) (by decide), stu_ne (by omega)]; exact (sx.2.2.2 m hm).1
  · rw [kk.W lS (by decide) (by decide), stu_ne (by omega)]; exact (sx.2.2.2 m hm).2
theorem XV.ws (h : XV g A S st) {p c : Nat} {v : Int32} (hp : p < gM g) (hc : c < 2) (hs : SB g (stu st (42 + 3 * c + p) v)) : XV g A (sA S (A 19) (2 * p + c) v) (stu st (42 + 3 * c + p) v) := by
  have hb := h.2.1.b
  have kk : FX [] [] [19] A S (sA S (A 19) (2 * p + c) v) := (FX.rf _ _ _ _ _).wA (by decide)
  obtain ⟨lS, hg, _, cx, sx⟩ := h
  refine ⟨kk.lay lS (by decide) (by decide), hg, hs, cx.cg (fun e he => rfl) (fun c hc i => ?_), ⟨sx.1.1, sx.1.2.1, sx.1.2.2.1, ?_, ?_⟩, fun p' hp' => ⟨?_, ?_, ?_⟩, fun i hi => ⟨?_, ?_⟩, fun m hm => ⟨?_, ?_⟩⟩
  · have : c < 92 ∧ ∀ j ∈ [19], j < 92 ∧ c ≠ j := by revert c; decide
    exact kk.W lS this.1 this.2 i
  · rw [stu_ne (by omega)]; exact sx.1.2.2.2.1
  · rw [stu_ne (by omega)]; exact sx.1.2.2.2.2
  · rw [kk.W lS (by decide) (by decide), stu_ne (by omega)]; exact (sx.2.1 p' hp').1
  · rw [kk.W lS (by decide) (by decide), stu_ne (by omega)]; exact (sx.2.1 p' hp').2.1
  · rw [kk.W lS (by decide) (by decide), stu_ne (by omega)]; exact (sx.2.1 p' hp').2.2
  · rw [kk.W lS (by decide) (by decide), stu_ne (by omega)]; exact (sx.2.2.1 i hi).1
  · rw [kk.W lS (by decide) (by decide), stu_ne (by omega)]; exact (sx.2.2.1 i hi).2
  · rw [pA_sA]
    by_cases e : m = p ∧ c = 0
    · rw [if_pos ⟨rfl, by omega⟩, show 42 + m = 42 + 3 * c + p by omega, stu_eq]
    · rw [if_neg (fun q => e (by omega)), stu_ne (by omega)]; exact (sx.2.2.2 m hm).1
  · rw [pA_sA]
    by_cases e : m = p ∧ c = 1
    · rw [if_pos ⟨rfl, by omega⟩, show 45 + m = 42 + 3 * c + p by omega, stu_eq]
    · rw [if_neg (fun q => e (by omega)), stu_ne (by omega)]; exact (sx.2.2.2 m hm).2
theorem XV.wm (h : XV g A S st) {f k : Nat} {v : Int32} (hf : (f = 803 ∧ k = 48) ∨ (f = 804 ∧ k = 49)) (hs : SB g (stu st k v)) : XV g A (sI S f (A 13) v) (stu st k v) := by
  have hb := h.2.1.b
  obtain ⟨lS, hg, _, cx, sx⟩ := h
  have hne : ∀ f', f' ≠ 803 → f' ≠ 804 → ∀ a, pI (sI S f (A 13) v) f' a = pI S f' a := fun f' h1 h2 a => by rcases hf with ⟨rfl, _⟩ | ⟨rfl, _⟩ <;> exact pI_n (by assumption)
  have hk : 48 ≤ k := by omega
  refine ⟨lS.eqv rfl rfl rfl rfl (fun a => hne _ (by decide) (by decide) a), hg, hs, cx.cg (fun e he => ?_) (fun c hc i => rfl), ⟨?_, ?_, ?_, ?_, ?_⟩, fun p' hp' => ⟨?_, ?_, ?_⟩, fun i hi => ⟨?_, ?_⟩, fun m hm => ⟨?_, ?_⟩⟩
  · have : e.1 ≠ 803 ∧ e.1 ≠ 804 := by revert e; decide
    exact hne _ this.1 this.2 _
  · rw [hne _ (by decide) (by decide)]; exact sx.1.1
  · rw [hne _ (by decide) (by decide)]; exact sx.1.2.1
  · rw [hne _ (by decide) (by decide)]; exact sx.1.2.2.1
  · rcases hf with ⟨rfl, rfl⟩ | ⟨rfl, rfl⟩
    · rw [pI_e, stu_eq]
    · rw [pI_n (by decide), stu_ne (by decide)]; exact sx.1.2.2.2.1
  · rcases hf with ⟨rfl, rfl⟩ | ⟨rfl, rfl⟩
    · rw [pI_n (by decide), stu_ne (by decide)]; exact sx.1.2.2.2.2
    · rw [pI_e, stu_eq]
  · rw [stu_ne (by omega)]; exact (sx.2.1 p' hp').1
  · rw [stu_ne (by omega)]; exact (sx.2.1 p' hp').2.1
  · rw [stu_ne (by omega)]; exact (sx.2.1 p' hp').2.2
  · rw [stu_ne (by omega)]; exact (sx.2.2.1 i hi).1
  · rw [stu_ne (by omega)]; exact (sx.2.2.1 i hi).2
  · rw [stu_ne (by omega)]; exact (sx.2.2.2 m hm).1
  · rw [stu_ne (by omega)]; exact (sx.2.2.2 m hm).2
/-! the tables' adds, as the state sees them -/
theorem x_addh (h : XV g A S st) {p c : Nat} {d : Int32} (hp : p < gP g) (hc : c < 3) : m_X9_add n (A 14) (nI p) (nI c) d S = some (sA S (A 15) (3 * p + c) (st (6 * c + p) + d)) := by
  have hb := h.2.1.b
  unfold m_X9_add
  rw [h.ho hp hc, cb_mk, x_putN (w := 3) h.1.r14_900 h.1.n15 h.1.w14 (by omega) (by decide), ob_mk]
theorem x_addw (h : XV g A S st) {p c : Nat} {d : Int32} (hp : p < gW g) (hc : c < 2) : m_X9_add n (A 16) (nI p) (nI c) d S = some (sA S (A 17) (2 * p + c) (st (18 + 12 * c + p) + d)) := by
  have hb := h.2.1.b
  unfold m_X9_add
  rw [h.wo hp hc, cb_mk, x_putN (w := 2) h.1.r16_900 h.1.n17 h.1.w16 (by omega) (by decide), ob_mk]
theorem x_adds (h : XV g A S st) {p c : Nat} {d : Int32} (hp : p < gM g) (hc : c < 2) : m_X9_add n (A 18) (nI p) (nI c) d S = some (sA S (A 19) (2 * p + c) (st (42 + 3 * c + p) + d)) := by
  have hb := h.2.1.b
  unfold m_X9_add
  rw [h.so hp hc, cb_mk, x_putN (w := 2) h.1.r18_900 h.1.n19 h.1.w18 (by omega) (by decide), ob_mk]
def mn9 (a : Nat) : Nat := if a ≤ 999 then a else 999
theorem mn9_le (a : Nat) : mn9 a ≤ 999 := by unfold mn9; split <;> omega
theorem nI_negadd {a k : Nat} (h : k ≤ a) : nI a + -nI k = nI (a - k) := by rw [← Int32.sub_eq_add_neg, nI_sub' h]
theorem x_bring (h : XV g A S st) {p c k a : Nat} (hp : p < gP g) (hc : c < 2) (e : st (6 * c + p) = nI a) (ha : a ≤ 999) (hk : k ≤ 100000) : m_X8_bring n (A 13) (nI p) (nI c) (nI k) S = some (sA S (A 15) (3 * p + c) (nI (mn9 (a + k)))) := by
  have hb := h.2.1.b
  unfold m_X8_bring
  rw [h.1.r13_800, ob_mk, ob_mk, h.ho hp (by omega), cb_mk, e, nI_add, show (999 : Int32) = nI 999 from rfl, x_putN (w := 3) h.1.r14_900 h.1.n15 h.1.w14 (by omega) (by decide), ob_mk]
  unfold mn9
  by_cases q : a + k ≤ 999
  · rw [if_pos q, if_neg (nI_nlt (by omega) (by omega))]
  · rw [if_neg q, if_pos (nI_lt (by omega) (by omega))]
theorem r_addk (h : RV g A T st) {k a d : Nat} (hk : k < 50) (e : st k = nI a) (ha : a ≤ 999) (hd : d ≤ 100000) : m_X12_adds n (A 60) (nI k) (nI d) T = some (sA T (A 81) k (nI (mn9 (a + d)))) := by
  unfold m_X12_adds
  rw [h.1.r60_1247, ob_mk, ob_mk, h.1.n81, ck_pos (ix_nI (by omega) (by decide)), nI_clamp (by omega), h.2.2.2.2 k hk, e, nI_add, show (999 : Int32) = nI 999 from rfl, ob_mk, h.1.n81, ck_pos (ix_nI (by omega) (by decide)), ck_pos (ix_nI (by omega) (by decide)), lt_mk, ck_pos (ix_nI (by omega) (by decide)), h.2.2.2.2 k hk, e, nI_add]
  unfold mn9
  by_cases q : a + d ≤ 999
  · rw [if_pos (nI_le (by omega) (by omega)), if_pos q]
  · rw [if_neg (nI_ge (by omega) (by omega)), if_neg q]
end
