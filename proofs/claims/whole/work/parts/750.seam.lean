def iZ (z : Int) : Int32 := Int32.ofInt z
theorem iZ_n (k : Nat) : iZ (k : Int) = nI k := Int32.ofInt_eq_ofNat
theorem iZ_add (a b : Int) : iZ a + iZ b = iZ (a + b) := (Int32.ofInt_add a b).symm
theorem iZ_sub (a b : Int) : iZ a - iZ b = iZ (a - b) := (Int32.ofInt_sub a b).symm
theorem iZ_t {z : Int} (h1 : -2000000000 ≤ z) (h2 : z ≤ 2000000000) : (iZ z).toInt = z := Int32.toInt_ofInt_of_le (by omega) (by omega)
theorem iZ_lt {a b : Int} (h1 : -2000000000 ≤ a) (h2 : a ≤ 2000000000) (h3 : -2000000000 ≤ b) (h4 : b ≤ 2000000000) : iZ a < iZ b ↔ a < b := by
  rw [Int32.lt_iff_toInt_lt, iZ_t h1 h2, iZ_t h3 h4]
theorem iZ_le {a b : Int} (h1 : -2000000000 ≤ a) (h2 : a ≤ 2000000000) (h3 : -2000000000 ≤ b) (h4 : b ≤ 2000000000) : iZ a ≤ iZ b ↔ a ≤ b := by
  rw [Int32.le_iff_toInt_le, iZ_t h1 h2, iZ_t h3 h4]
abbrev BS : Type := Int × Int32
def foF (step : Nat → BS → BS) : Nat → Nat → BS → BS
  | 0, _, b => b
  | c + 1, i, b => foF step c (i + 1) (step i b)
theorem fo_id {step : Nat → BS → BS} {b : BS} : ∀ c i, (∀ j, i ≤ j → step j b = b) → foF step c i b = b := by
  intro c
  induction c with
  | zero => intro i _; rfl
  | succ c ih => intro i h; rw [foF, h i (Nat.le_refl _)]; exact ih (i + 1) (fun j hj => h j (by omega))
/-- shafts by months: the best from here on, b so far -/
def seR (D : Int32 → Nat → Nat → Nat) (O : Int32 → Bool) (k : Nat) : Nat → Int32 → Nat → Int → Nat → BS → BS
  | 0, _, _, sum, dg, b => if b.1 < sum then (sum, nI dg) else b
  | n + 1, mo, left, sum, dg, b => foF (fun sh b => seR D O k n (mo + 1) (left - D mo sh left) (sum + (D mo sh left : Int) - (sh : Int)) (10 * dg + sh) b) ((if O mo then k else 0) + 1) 0 b
theorem se_prune {D : Int32 → Nat → Nat → Nat} {O : Int32 → Bool} {k : Nat} (hD : ∀ mo sh l, D mo sh l ≤ l) : ∀ (n : Nat) (mo : Int32) (left : Nat) (sum : Int) (dg : Nat) (b : BS), sum + (left : Int) ≤ b.1 → seR D O k n mo left sum dg b = b := by
  intro n
  induction n with
  | zero => intro mo left sum dg b h; rw [seR, if_neg (by omega)]
  | succ n ih =>
    intro mo left sum dg b h
    rw [seR]
    refine fo_id _ _ (fun j _ => ih _ _ _ _ _ ?_)
    have := hD mo j left
    omega
theorem se_first {D : Int32 → Nat → Nat → Nat} {O : Int32 → Bool} {k : Nat} (h0 : ∀ mo l, D mo 0 l = 0) : ∀ (n : Nat) (mo : Int32) (left : Nat) (sum : Int) (dg : Nat) (b c : BS), b.1 < sum → c.1 < sum → seR D O k n mo left sum dg b = seR D O k n mo left sum dg c := by
  intro n
  induction n with
  | zero => intro mo left sum dg b c h1 h2; rw [seR, seR, if_pos h1, if_pos h2]
  | succ n ih =>
    intro mo left sum dg b c h1 h2
    rw [seR, seR, foF, foF]
    have e : ((D mo 0 left : Nat) : Int) = 0 := by rw [h0]; rfl
    rw [ih _ _ _ _ b c (by omega) (by omega)]
theorem se_rng {D : Int32 → Nat → Nat → Nat} {O : Int32 → Bool} {k : Nat} (hk : k ≤ 9) (hD : ∀ mo sh l, D mo sh l ≤ l) : ∀ (n : Nat) (mo : Int32) (left : Nat) (sum : Int) (dg : Nat) (b : BS), 9 * (n : Int) - 100 ≤ sum → sum + (left : Int) ≤ 1000 → -2000000 ≤ b.1 → b.1 ≤ 2000000 → -2000000 ≤ (seR D O k n mo left sum dg b).1 ∧ (seR D O k n mo left sum dg b).1 ≤ 2000000 := by
  intro n
  induction n with
  | zero =>
    intro mo left sum dg b h1 h2 h3 h4
    rw [seR]
    split
    · exact ⟨by show -2000000 ≤ sum; omega, by show sum ≤ 2000000; omega⟩
    · exact ⟨h3, h4⟩
  | succ n ih =>
    intro mo left sum dg b h1 h2 h3 h4
    rw [seR]
    have key : ∀ c i (b : BS), i + c ≤ 10 → -2000000 ≤ b.1 → b.1 ≤ 2000000 → -2000000 ≤ (foF (fun sh b => seR D O k n (mo + 1) (left - D mo sh left) (sum + (D mo sh left : Int) - (sh : Int)) (10 * dg + sh) b) c i b).1 ∧ (foF (fun sh b => seR D O k n (mo + 1) (left - D mo sh left) (sum + (D mo sh left : Int) - (sh : Int)) (10 * dg + sh) b) c i b).1 ≤ 2000000 := by
      intro c
      induction c with
      | zero => intro i b _ q1 q2; exact ⟨q1, q2⟩
      | succ c ic =>
        intro i b hi q1 q2
        rw [foF]
        have hd := hD mo i left
        have := ih (mo + 1) (left - D mo i left) (sum + (D mo i left : Int) - (i : Int)) (10 * dg + i) b (by omega) (by omega) q1 q2
        exact ic (i + 1) _ (by omega) this.1 this.2
    exact key _ 0 b (by split <;> omega) h3 h4
section
variable {g : GH} {A : Nat → Nat} {V : Nat → Prop} {n : Nat}
def opM (g : GH) (m : Nat) (mo : Int32) : Bool := decide (¬ mo - mo / 12 * 12 < nI (gmi g (3 * m + 2)))
theorem pk10 (dg sh : Nat) : nI dg * (10 : Int32) + nI sh = nI (10 * dg + sh) := by
  rw [show (10 : Int32) = nI 10 from rfl, pk_mul, nI_add, Nat.mul_comm]
theorem pk10' (dg sh : Nat) : (10 : Int32) * nI dg + nI sh = nI (10 * dg + sh) := by
  rw [show (10 : Int32) = nI 10 from rfl, pk_mul, nI_add]
theorem cp_le' (m : Nat) (z : Int32) : cpF m z ≤ m := by
  by_cases hm : m < 2 ^ 31
  · exact cp_le hm
  · unfold cpF
    by_cases h : 0 ≤ z
    · rw [if_pos h]
      by_cases h2 : z ≤ nI m
      · rw [if_pos h2]
        have := (nn_of h).2
        omega
      · rw [if_neg h2]
        exact Nat.le_refl _
    · rw [if_neg h]
      omega
theorem dg_le' (mo : Int32) (sh l : Nat) : dgF g mo sh l ≤ l := by
  unfold dgF
  by_cases c : sh = 0
  · rw [if_pos c]; omega
  · rw [if_neg c]; exact cp_le' _ _
theorem x_try {m k : Nat} (hn : 200 ≤ n) (hm : m < gM g) (hk : k ≤ 9) : ∀ (c d j left : Nat) (sum : Int) (dg : Nat) (b : BS) (T : pq_S), c < d → c ≤ 4 → c + j ≤ 10 → left ≤ 400 → 9 * (c : Int) - 100 ≤ sum → sum + (left : Int) ≤ 1000 → -2000000 ≤ b.1 → b.1 ≤ 2000000 → JG A V g T → pI T 704 (A 3) = iZ b.1 → pI T 705 (A 3) = b.2 → ∃ T', m_tryS_d n d (A 3) (nI m) (nI c) (nI k) (nI j) (nI left) (iZ sum) (nI dg) T = some T' ∧ KP A T T' ∧ pI T' 704 (A 3) = iZ (seR (dgF g) (opM g m) k c (gst g 48 + nI j) left sum dg b).1 ∧ pI T' 705 (A 3) = (seR (dgF g) (opM g m) k c (gst g 48 + nI j) left sum dg b).2 := by
  have hD : ∀ mo sh l, dgF g mo sh l ≤ l := fun mo sh l => dg_le' mo sh l
  intro c
  induction c with
  | zero =>
    intro d j left sum dg b T h1 h2 h3 h4 h5 h6 h7 h8 hJ e1 e2
    obtain ⟨d, rfl⟩ : ∃ e, d = e + 1 := ⟨d - 1, by omega⟩
    rw [m_tryS_d, g_X7_tryShafts, e1, ← iZ_n left, iZ_add]
    by_cases c1 : b.1 < sum + (left : Int)
    · rw [if_pos ((iZ_lt (by omega) (by omega) (by omega) (by omega)).mpr c1), if_neg (by decide), seR]
      by_cases c2 : b.1 < sum
      · rw [if_neg (fun q => absurd ((iZ_le (by omega) (by omega) (by omega) (by omega)).mp q) (by omega)), if_pos c2]
        exact ⟨_, rfl, KPL.wI (KPL.wI (KPL.rf _ _ _ _ _) (by decide)) (by decide), by rw [pI_n (by decide), pI_e], by rw [pI_e]⟩
      · rw [if_pos ((iZ_le (by omega) (by omega) (by omega) (by omega)).mpr (by omega)), if_neg c2]
        exact ⟨T, rfl, KPL.rf _ _ _ _ _, e1, e2⟩
    · rw [if_neg (fun q => c1 ((iZ_lt (by omega) (by omega) (by omega) (by omega)).mp q)), se_prune hD 0 _ left sum dg b (by omega)]
      exact ⟨T, rfl, KPL.rf _ _ _ _ _, e1, e2⟩
  | succ c ih =>
    intro d j left sum dg b T h1 h2 h3 h4 h5 h6 h7 h8 hJ e1 e2
    obtain ⟨d, rfl⟩ : ∃ e, d = e + 1 := ⟨d - 1, by omega⟩
    rw [m_tryS_d, g_X7_tryShafts, e1]
    by_cases c1 : b.1 < sum + (left : Int)
    · have hlt : iZ b.1 < iZ sum + nI left := by rw [← iZ_n left, iZ_add]; exact (iZ_lt (by omega) (by omega) (by omega) (by omega)).mpr c1
      have key : ∀ (f i K : Nat) (b : BS) (T1 : pq_S), K ≤ 9 → i ≤ K + 1 → K + 1 < i + f → -2000000 ≤ b.1 → b.1 ≤ 2000000 → KP A T T1 → pI T1 704 (A 3) = iZ b.1 → pI T1 705 (A 3) = b.2 → ∃ T', b_X7_tryShafts_71 n (m_tryS_d n d) f (A 3) (nI m) (nI (c + 1)) (nI k) (nI j) (nI left) (iZ sum) (nI dg) (gst g 48 + nI j) (nI K) (nI i) T1 = some T' ∧ KP A T T' ∧ pI T' 704 (A 3) = iZ (foF (fun sh b => seR (dgF g) (opM g m) k c (gst g 48 + nI j + 1) (left - dgF g (gst g 48 + nI j) sh left) (sum + (dgF g (gst g 48 + nI j) sh left : Int) - (sh : Int)) (10 * dg + sh) b) (K + 1 - i) i b).1 ∧ pI T' 705 (A 3) = (foF (fun sh b => seR (dgF g) (opM g m) k c (gst g 48 + nI j + 1) (left - dgF g (gst g 48 + nI j) sh left) (sum + (dgF g (gst g 48 + nI j) sh left : Int) - (sh : Int)) (10 * dg + sh) b) (K + 1 - i) i b).2 := by
        intro f
        induction f with
        | zero => intro i K b T1 q1 q2 q3; omega
        | succ f ihf =>
          intro i K b T1 q1 q2 q3 q4 q5 k1 f1 f2
          rw [b_X7_tryShafts_71]
          by_cases ci : K < i
          · rw [if_pos (nI_lt ci (by omega)), show K + 1 - i = 0 by omega, foF]
            exact ⟨T1, rfl, k1, f1, f2⟩
          · have hJ1 := hJ.kp k1
            obtain ⟨T2, a1, a2⟩ := xv_dig (n := n) (k := i) (left := left) (mo := gst g 48 + nI j) hJ1.lay hJ1.2.1 (by omega) (by omega) (by omega)
            have k2 : KP A T1 T2 := a2.kp (by decide) (by decide) (KPL.rf _ _ _ _ _)
            have hdd := hD (gst g 48 + nI j) i left
            have F : ∀ q, q ≠ 204 → pI T2 q (A 3) = pI T1 q (A 3) := fun q hq => by
              rcases a2 with rfl | ⟨w, F, s, v, hw, rfl⟩
              · rfl
              · rw [pI_n hq]; rfl
            rw [if_neg (nI_nlt (by omega) (by omega)), a1, cb_mk, nI_pred, nI_1 j, pk_sub hdd, show iZ sum + nI (dgF g (gst g 48 + nI j) i left) - nI i = iZ (sum + (dgF g (gst g 48 + nI j) i left : Int) - (i : Int)) from by rw [← iZ_n (dgF g (gst g 48 + nI j) i left), ← iZ_n i, iZ_add, iZ_sub], pk10]
            obtain ⟨T3, b1, b2, b3, b4⟩ := ih d (j + 1) (left - dgF g (gst g 48 + nI j) i left) (sum + (dgF g (gst g 48 + nI j) i left : Int) - (i : Int)) (10 * dg + i) b T2 (by omega) (by omega) (by omega) (by omega) (by omega) (by omega) q4 q5 (hJ1.kp k2) ((F 704 (by decide)).trans f1) ((F 705 (by decide)).trans f2)
            have hmo : gst g 48 + nI (j + 1) = gst g 48 + nI j + 1 := by rw [nI_succ, Int32.add_assoc]
            rw [hmo] at b3 b4
            have hr := se_rng (O := opM g m) hk hD c (gst g 48 + nI j + 1) (left - dgF g (gst g 48 + nI j) i left) (sum + (dgF g (gst g 48 + nI j) i left : Int) - (i : Int)) (10 * dg + i) b (by omega) (by omega) q4 q5
            rw [b1, ob_mk, nI_1 i, show K + 1 - i = (K + 1 - (i + 1)) + 1 by omega, foF]
            exact ihf (i + 1) K _ T3 q1 (by omega) (by omega) hr.1 hr.2 (hJ.tr k1 (hJ1.tr k2 b2)) b3 b4
      have hop := xv_isMineOpen (n := n) (mo := gst g 48 + nI j) hJ.xv hm
      rw [if_pos hlt, if_pos (nI_lt0 (by omega) (by omega)), hJ.lay.r3_701, ob_mk, hJ.xv.I.2.2.2.2.2.2.2.2.2.1, hop, cb_mk, seR]
      by_cases co : gst g 48 + nI j - (gst g 48 + nI j) / 12 * 12 < nI (gmi g (3 * m + 2))
      · have eo : opM g m (gst g 48 + nI j) = false := by unfold opM; simp [co]
        rw [if_pos co, if_pos rfl, b_X7_tryShafts_66, eo]
        exact key n 0 0 b T (by omega) (by omega) (by omega) h7 h8 (KPL.rf _ _ _ _ _) e1 e2
      · have eo : opM g m (gst g 48 + nI j) = true := by unfold opM; simp [co]
        rw [if_neg co, if_neg (by decide), b_X7_tryShafts_66, eo]
        exact key n 0 k b T (by omega) (by omega) (by omega) h7 h8 (KPL.rf _ _ _ _ _) e1 e2
    · have hge : ¬ iZ b.1 < iZ sum + nI left := by rw [← iZ_n left, iZ_add]; exact fun q => c1 ((iZ_lt (by omega) (by omega) (by omega) (by omega)).mp q)
      rw [if_neg hge, se_prune hD (c + 1) _ left sum dg b (by omega)]
      exact ⟨T, rfl, KPL.rf _ _ _ _ _, e1, e2⟩
/-- the reference's search, over its own row -/
theorem stu_eq {st : Nat → Int32} {k : Nat} {v : Int32} : stu st k v k = v := if_pos rfl
theorem stu_ne {st : Nat → Int32} {k i : Nat} {v : Int32} (h : i ≠ k) : stu st k v i = st i := if_neg h
theorem sb_seam {st : Nat → Int32} (h : SB g st) (hg : GB g) {m l : Nat} (hm : m < gM g) (hl : l ≤ 400) : SB g (stu st (42 + m) (nI l)) := by
  have hb := hg.b
  refine ⟨fun q hq => ?_, fun q hq => ?_, fun i hi => ?_, fun i hi => ?_⟩
  · rw [stu_ne (by omega)]; exact h.1 q hq
  · rw [stu_ne (by omega)]; exact h.2.1 q hq
  · rw [stu_ne (by omega)]; exact h.2.2.1 i hi
  · by_cases e : i = m
    · exact ⟨l, hl, by rw [e, stu_eq]⟩
    · rw [stu_ne (by omega)]; exact h.2.2.2 i hi
theorem sb_month {st : Nat → Int32} (h : SB g st) (hg : GB g) {v : Int32} : SB g (stu st 48 v) := by
  have hb := hg.b
  refine ⟨fun q hq => ?_, fun q hq => ?_, fun i hi => ?_, fun i hi => ?_⟩
  · rw [stu_ne (by omega)]; exact h.1 q hq
  · rw [stu_ne (by omega)]; exact h.2.1 q hq
  · rw [stu_ne (by omega)]; exact h.2.2.1 i hi
  · rw [stu_ne (by omega)]; exact h.2.2.2 i hi
theorem rv_stu {T : pq_S} {st : Nat → Int32} (h : RV g A T st) {k : Nat} {v : Int32} (hs : SB g (stu st k v)) : RV g A (sA T (A 81) k v) (stu st k v) := rv_sA h hs (fun _ _ => rfl)
theorem rv_cg {T : pq_S} {st st' : Nat → Int32} (h : RV g A T st) (e : ∀ i, i < 50 → st i = st' i) (hs : SB g st') : RV g A T st' := ⟨h.1, h.2.1, hs, h.2.2.2.1, fun i hi => (h.2.2.2.2 i hi).trans (e i hi)⟩
theorem lw_81 {T : pq_S} (hL : LAY A T) (h : LW g T A) {k : Nat} {v : Int32} : LW g (sA T (A 81) k v) A := by
  rw [sA_as]
  exact lw_F hL h (by decide) (by decide)
theorem lay_I {S T : pq_S} (h : LAY A S) (e : ∀ a, pI (T) 901 a = pI S 901 a) (r : pR T = pR S := by rfl) (n1 : pN T = pN S := by rfl) (l1 : pL T = pL S := by rfl) (k1 : pK T = pK S := by rfl) : LAY A T := ⟨fun q hq => by rw [r]; exact h.1 q hq, fun q hq => ⟨by rw [l1]; exact (h.2.1 q hq).1, by rw [k1]; exact (h.2.1 q hq).2⟩, fun q hq => by rw [n1]; exact h.2.2.1 q hq, fun q hq => (e _).trans (h.2.2.2.1 q hq), h.2.2.2.2⟩
theorem r_sea {m k : Nat} (hn : 200 ≤ n) (hm : m < gM g) (hk : k ≤ 9) : ∀ (c d left : Nat) (sum : Int) (dg : Nat) (b : BS) (T : pq_S) (st : Nat → Int32), c < d → c ≤ 4 → left ≤ 400 → 9 * (c : Int) - 100 ≤ sum → sum + (left : Int) ≤ 1000 → -2000000 ≤ b.1 → b.1 ≤ 2000000 → RV g A T st → LW g T A → st (42 + m) = nI left → pI T 1265 (A 60) = iZ b.1 → pI T 1266 (A 60) = b.2 → ∃ T', m_seaM_d n d (A 60) (nI m) (nI c) (nI k) (iZ sum) (nI dg) T = some T' ∧ RV g A T' st ∧ LW g T' A ∧ (∀ S, KP A S T → KP A S T') ∧ pI T' 1200 (A 60) = pI T 1200 (A 60) ∧ pI T' 1265 (A 60) = iZ (seR (dgF g) (opM g m) k c (st 48) left sum dg b).1 ∧ pI T' 1266 (A 60) = (seR (dgF g) (opM g m) k c (st 48) left sum dg b).2 := by
  have hD : ∀ mo sh l, dgF g mo sh l ≤ l := fun mo sh l => dg_le' mo sh l
  intro c
  induction c with
  | zero =>
    intro d left sum dg b T st h1 h2 h4 h5 h6 h7 h8 hR hl es e1 e2
    obtain ⟨d, rfl⟩ : ∃ e, d = e + 1 := ⟨d - 1, by omega⟩
    rw [m_seaM_d, g_X12_seams, if_pos (show nI 0 = 0 from rfl), e1, seR]
    by_cases c2 : b.1 < sum
    · rw [if_pos ((iZ_lt (by omega) (by omega) (by omega) (by omega)).mpr c2), if_pos c2]
      refine ⟨_, rfl, ⟨lay_I hR.1 ?_, hR.2.1, hR.2.2.1, hR.2.2.2.1.cg ?_ (fun _ _ _ => rfl), hR.2.2.2.2⟩, lw_I (lw_I hl (by decide)) (by decide), fun S q => KPL.wI (KPL.wI q (by decide)) (by decide), by rw [pI_n (by decide), pI_n (by decide)], by rw [pI_n (by decide), pI_e], by rw [pI_e]⟩
      · intro q; rw [pI_n (by decide), pI_n (by decide)]
      · intro q hq
        have : q.1 ≠ 1265 ∧ q.1 ≠ 1266 := by revert q; decide
        rw [pI_n this.2, pI_n this.1]
    · rw [if_neg (fun q => c2 ((iZ_lt (by omega) (by omega) (by omega) (by omega)).mp q)), if_neg c2]
      exact ⟨T, rfl, hR, hl, fun S q => q, rfl, e1, e2⟩
  | succ c ih =>
    intro d left sum dg b T st h1 h2 h4 h5 h6 h7 h8 hR hl es e1 e2
    obtain ⟨d, rfl⟩ : ∃ e, d = e + 1 := ⟨d - 1, by omega⟩
    have hb := hR.2.1.b
    have x42 : (42 : Int32) + nI m = nI (42 + m) := nI_add 42 m
    have k42 : (nI (42 + m)).toNatClampNeg = 42 + m := nI_clamp (by omega)
    rw [m_seaM_d, g_X12_seams, if_neg (nI_ne0 (by omega) (by omega)), hR.1.r60_1247, ob_mk, hR.1.n81, x42, ck_pos (ixn (by omega) (by omega)), lt_mk, k42, hR.2.2.2.2 _ (by omega), es, seR]
    have key : ∀ (f i : Nat) (b : BS) (T1 : pq_S), i ≤ k + 1 → k + 1 < i + f → -2000000 ≤ b.1 → b.1 ≤ 2000000 → RV g A T1 st → LW g T1 A → (∀ S, KP A S T → KP A S T1) → pI T1 1200 (A 60) = pI T 1200 (A 60) → pI T1 1265 (A 60) = iZ b.1 → pI T1 1266 (A 60) = b.2 → ∃ T', b_X12_seams_41 n (m_seaM_d n d) f (A 60) (nI m) (nI (c + 1)) (nI k) (iZ sum) (nI dg) (nI left) (nI i) T1 = some T' ∧ RV g A T' st ∧ LW g T' A ∧ (∀ S, KP A S T → KP A S T') ∧ pI T' 1200 (A 60) = pI T 1200 (A 60) ∧ pI T' 1265 (A 60) = iZ (foF (fun sh b => seR (dgF g) (opM g m) k c (st 48 + 1) (left - dgF g (st 48) sh left) (sum + (dgF g (st 48) sh left : Int) - (sh : Int)) (10 * dg + sh) b) ((if opM g m (st 48) then k else 0) + 1 - i) i b).1 ∧ pI T' 1266 (A 60) = (foF (fun sh b => seR (dgF g) (opM g m) k c (st 48 + 1) (left - dgF g (st 48) sh left) (sum + (dgF g (st 48) sh left : Int) - (sh : Int)) (10 * dg + sh) b) ((if opM g m (st 48) then k else 0) + 1 - i) i b).2 := by
      intro f
      induction f with
      | zero => intro i b T1 q2 q3; omega
      | succ f ihf =>
        intro i b T1 q2 q3 q4 q5 r1 l1 k1 t1 f1 f2
        rw [b_X12_seams_41]
        by_cases ci : k < i
        · rw [if_pos (nI_lt ci (by omega)), show (if opM g m (st 48) then k else 0) + 1 - i = 0 by split <;> omega, foF]
          exact ⟨T1, rfl, r1, l1, k1, t1, f1, f2⟩
        · rw [if_neg (nI_nlt (by omega) (by omega))]
          -- one number of shafts that may be
          have go : i ≤ (if opM g m (st 48) then k else 0) → ∃ T', b_X12_seams_63 n (m_seaM_d n d) (b_X12_seams_41 n (m_seaM_d n d) f) (A 60) (nI m) (nI (c + 1)) (nI k) (iZ sum) (nI dg) (nI left) (nI i) T1 = some T' ∧ RV g A T' st ∧ LW g T' A ∧ (∀ S, KP A S T → KP A S T') ∧ pI T' 1200 (A 60) = pI T 1200 (A 60) ∧ pI T' 1265 (A 60) = iZ (foF (fun sh b => seR (dgF g) (opM g m) k c (st 48 + 1) (left - dgF g (st 48) sh left) (sum + (dgF g (st 48) sh left : Int) - (sh : Int)) (10 * dg + sh) b) ((if opM g m (st 48) then k else 0) + 1 - i) i b).1 ∧ pI T' 1266 (A 60) = (foF (fun sh b => seR (dgF g) (opM g m) k c (st 48 + 1) (left - dgF g (st 48) sh left) (sum + (dgF g (st 48) sh left : Int) - (sh : Int)) (10 * dg + sh) b) ((if opM g m (st 48) then k else 0) + 1 - i) i b).2 := by
            intro hi
            obtain ⟨T2, a1, a2⟩ := rv_dig (n := n) (k := i) r1 l1 (by omega) hm (by omega) (show left < 2 ^ 31 by omega) es
            have r2 := a2.rv r1
            have l2 := a2.lw r1.1 l1
            have hdd := hD (st 48) i left
            have e63 : b_X12_seams_63 n (m_seaM_d n d) (b_X12_seams_41 n (m_seaM_d n d) f) (A 60) (nI m) (nI (c + 1)) (nI k) (iZ sum) (nI dg) (nI left) (nI i) T1 = b_X12_seams_79 n (m_seaM_d n d) (b_X12_seams_41 n (m_seaM_d n d) f) (A 60) (nI m) (nI (c + 1)) (nI k) (iZ sum) (nI dg) (nI left) (nI i) (nI (dgF g (st 48) i left)) T2 := by
              rw [b_X12_seams_63]
              by_cases z : i = 0
              · subst z
                have : T2 = T1 := by
                  have e : m_X12_digOf n (A 60) (nI m) (nI 0) T1 = some (0, T1) := by unfold m_X12_digOf; rw [if_pos (show nI 0 = 0 from rfl)]
                  rw [e] at a1
                  cases a1; rfl
                rw [if_pos (show nI 0 = 0 from rfl), this]
                rfl
              · rw [if_neg (nI_ne0 (by omega) (by omega)), a1, cb_mk]
            have es2 : stu st (42 + m) (nI (left - dgF g (st 48) i left)) (42 + m) = nI (left - dgF g (st 48) i left) := stu_eq
            have sb2 := sb_seam hR.2.2.1 hR.2.1 hm (show left - dgF g (st 48) i left ≤ 400 by omega)
            have r3 := rv_stu r2 sb2
            have sb3 := sb_month (v := st 48 + 1) sb2 hR.2.1
            have r4 := rv_stu r3 sb3
            have l4 : LW g (sA (sA T2 (A 81) (42 + m) (nI (left - dgF g (st 48) i left))) (A 81) 48 (st 48 + 1)) A := lw_81 r3.1 (lw_81 r2.1 l2)
            obtain ⟨T3, b1, b2, b3, b4, b5, b6, b7⟩ := ih d (left - dgF g (st 48) i left) (sum + (dgF g (st 48) i left : Int) - (i : Int)) (10 * dg + i) b _ _ (by omega) (by omega) (by omega) (by omega) (by omega) q4 q5 r4 l4 (by rw [stu_ne (by omega), stu_eq]) (((a2.th _ _)).trans f1) (((a2.th _ _)).trans f2)
            rw [stu_eq] at b6 b7
            have hr := se_rng (O := opM g m) hk hD c (st 48 + 1) (left - dgF g (st 48) i left) (sum + (dgF g (st 48) i left : Int) - (i : Int)) (10 * dg + i) b (by omega) (by omega) q4 q5
            have x48 : (48 : Int32) = nI 48 := rfl
            have k48 : (nI 48).toNatClampNeg = 48 := nI_clamp (by omega)
            have p1 : pA T2 (A 81) (42 + m) = nI left := by rw [r2.2.2.2.2 _ (by omega), es]
            have p2 : pA (sA T2 (A 81) (42 + m) (nI (left - dgF g (st 48) i left))) (A 81) 48 = st 48 := by rw [r3.2.2.2.2 48 (by decide), stu_ne (by omega)]
            have p3 : pA T3 (A 81) 48 = st 48 + 1 := by rw [b2.2.2.2.2 48 (by decide), stu_eq]
            have back : (st 48 + 1 : Int32) - 1 = st 48 := by rw [Int32.add_sub_cancel]
            have r5 : RV g A (sA (sA T3 (A 81) 48 (st 48)) (A 81) (42 + m) (nI left)) st := by
              have z1 := rv_stu (k := 48) (v := st 48) b2 (sb_month b2.2.2.1 hR.2.1)
              have z2 := rv_stu (k := 42 + m) (v := nI left) z1 (sb_seam z1.2.2.1 hR.2.1 hm h4)
              refine rv_cg z2 (fun q hq => ?_) hR.2.2.1
              by_cases y1 : q = 42 + m
              · subst y1; rw [stu_eq, es]
              · rw [stu_ne y1]
                by_cases y2 : q = 48
                · subst y2; rw [stu_eq]
                · rw [stu_ne y2, stu_ne y2, stu_ne y1]
            have l5 : LW g (sA (sA T3 (A 81) 48 (st 48)) (A 81) (42 + m) (nI left)) A := lw_81 (T := sA T3 (A 81) 48 (st 48)) b2.1 (lw_81 b2.1 b3)
            obtain ⟨T5, hT5⟩ : ∃ T5, T5 = sA (sA T3 (A 81) 48 (st 48)) (A 81) (42 + m) (nI left) := ⟨_, rfl⟩
            have e79 : b_X12_seams_79 n (m_seaM_d n d) (b_X12_seams_41 n (m_seaM_d n d) f) (A 60) (nI m) (nI (c + 1)) (nI k) (iZ sum) (nI dg) (nI left) (nI i) (nI (dgF g (st 48) i left)) T2 = b_X12_seams_41 n (m_seaM_d n d) f (A 60) (nI m) (nI (c + 1)) (nI k) (iZ sum) (nI dg) (nI left) (nI (i + 1)) T5 := by
              rw [b_X12_seams_79, r2.1.r60_1247, ob_mk, r2.1.n81, x42, x48, k42, k48, ck_pos (ixn (by omega) (by omega)), ck_pos (ixn (by omega) (by omega)), lt_mk, p1, pk_sub hdd, pR_sA, r2.1.r60_1247, ob_mk, pN_sA, r2.1.n81, ck_pos (ixn (by omega) (by omega)), ck_pos (ixn (by omega) (by omega)), lt_mk, p2, nI_pred, show iZ sum + nI (dgF g (st 48) i left) - nI i = iZ (sum + (dgF g (st 48) i left : Int) - (i : Int)) from by rw [← iZ_n (dgF g (st 48) i left), ← iZ_n i, iZ_add, iZ_sub], pk10', b1, ob_mk, b2.1.r60_1247, ob_mk, b2.1.n81, ck_pos (ixn (by omega) (by omega)), ck_pos (ixn (by omega) (by omega)), lt_mk, p3, back, pR_sA, b2.1.r60_1247, ob_mk, pN_sA, b2.1.n81, ck_pos (ixn (by omega) (by omega)), nI_1, hT5]
            rw [e63, e79, show (if opM g m (st 48) then k else 0) + 1 - i = ((if opM g m (st 48) then k else 0) + 1 - (i + 1)) + 1 by omega, foF]
            refine ihf (i + 1) _ T5 (by omega) (by omega) hr.1 hr.2 (by rw [hT5]; exact r5) (by rw [hT5]; exact l5) (fun S q => ?_) ?_ ?_ ?_
            · rw [hT5]
              exact KPL.wA (KPL.wA (b4 S (KPL.wA (KPL.wA (a2.kp (k1 S q)) (by decide)) (by decide))) (by decide)) (by decide)
            · rw [hT5, pI_sA, pI_sA, b5, pI_sA, pI_sA, a2.th, t1]
            · rw [hT5, pI_sA, pI_sA, b6]
            · rw [hT5, pI_sA, pI_sA, b7]
          by_cases z : i = 0
          · subst z
            rw [if_pos (show nI 0 ≤ 0 from by decide)]
            exact go (Nat.zero_le _)
          · rw [if_neg (nI_nle (by omega) (by omega)), rv_isOpenMine r1 hm, cb_mk]
            by_cases co : st 48 - st 48 / 12 * 12 < nI (gmi g (3 * m + 2))
            · have eo : opM g m (st 48) = false := by unfold opM; simp [co]
              rw [if_pos co, if_pos rfl, b_X12_seams_60, eo, if_neg (by decide), show 0 + 1 - i = 0 by omega, foF]
              exact ⟨T1, rfl, r1, l1, k1, t1, f1, f2⟩
            · have eo : opM g m (st 48) = true := by unfold opM; simp [co]
              rw [if_neg co, if_neg (by decide)]
              exact go (by rw [eo, if_pos rfl]; omega)
    exact key n 0 b T (by omega) (by omega) h7 h8 hR hl (fun S q => q) rfl e1 e2
end
theorem ob_27 (n xa ma : Nat) (hn : 20000 ≤ n) : OB_27 n xa ma (JJ xa ma) := by
  rintro S f ⟨A, V, g, rfl, rfl, h⟩ y z k w
  have h : JG A V g S := h
  have hb := h.gb.b
  refine ⟨200, 8000, by decide, by decide, 1, 6, by decide, by decide, wrM h (fun i hi e => ⟨_, _, sp_isWithin _ _ _ _ _, ?_⟩) (fun q => Or.inl ⟨rfl, ki_miss h (b := 0) (by decide) ?_⟩)⟩
  · subst e
    have B : ∀ (hm : m_X12_seam n (A 60) (nI i) z k w (badS A S) = some (0, badM A 2 (st0 (badS A S) (A 60)))), pb_X11_seam_39 n (A 0) (nI i) z k w (A 0) S (200 - 1) (8000 - 6) (fun (k1 : Nat) (S1 : pq_S) => (k1 = 2 ∧ (KI (JJ (A 0) (A 60)) (A 60) (m_X12_seam n (A 60) (nI i) z k w)) 1 f S1) ∨ (k1 = 1 ∧ (KI (JJ (A 0) (A 60)) (A 60) (m_X12_seam n (A 60) (nI i) z k w)) 2 f S1)) (fun r (S1 : pq_S) => (KI (JJ (A 0) (A 60)) (A 60) (m_X12_seam n (A 60) (nI i) z k w)) 0 (vp_updL f 0 (Int32.toInt64 r)) S1) := fun hm => ⟨1, 6, by decide, by decide, wr_need0 (by decide) (by decide) (Or.inr ⟨rfl, ki_bad h (b := 0) (by decide) hm⟩)⟩
    by_cases c1 : 1 ≤ z ∧ z ≤ 4
    · rw [if_pos c1, if_neg (by decide)]
      refine ⟨_, _, sp_isWithin _ _ _ _ _, ?_⟩
      by_cases c2 : 0 ≤ k ∧ k ≤ 9
      · rw [if_pos c2, if_neg (by decide)]
        refine ⟨_, _, sp_isWithin _ _ _ _ _, ?_⟩
        by_cases c3 : 0 ≤ w ∧ w ≤ 1
        · rw [if_pos c3, if_neg (by decide)]
          refine ⟨1, 6, by decide, by decide, wr_need1 ?_⟩
          rcases i32_wi z 1 4 (by decide) (by decide) with ⟨N, hN1, hN, rfl⟩ | q
          · rcases i32_wi k 0 9 (by decide) (by decide) with ⟨K, _, hK, rfl⟩ | q
            · have s0 := h.sb.se hi
              obtain ⟨L, hL⟩ : ∃ L, nS (gst g) (42 + i) = L := ⟨_, rfl⟩
              rw [hL] at s0
              have k0 : KP A S (sI (sI S 704 (A 3) (-1)) 705 (A 3) 0) := KPL.wI (KPL.wI (KPL.rf _ _ _ _ _) (by decide)) (by decide)
              have h0 := h.kp k0
              have hat : m_X9_at n (A 18) (nI i) 0 (sI (sI S 704 (A 3) (-1)) 705 (A 3) 0) = some (nI L, sI (sI S 704 (A 3) (-1)) 705 (A 3) 0) := by
                have := h0.xv.so (n := n) (p := i) (c := 0) hi (by decide)
                rw [Nat.mul_zero, Nat.add_zero, s0.1] at this
                exact this
              obtain ⟨T1, a1, a2, a3, a4⟩ := x_try (n := n) (m := i) (k := K) (by omega) hi hK N 64 0 L 0 0 (-1, 0) _ (by omega) hN (by omega) s0.2 (by omega) (by have := s0.2; omega) (by decide) (by decide) h0 (by rw [pI_n (by decide), pI_e]; rfl) (by rw [pI_e])
              have h1 := h0.kp a2
              have k1 : KP A S T1 := h.tr k0 a2
              have kT : KP A T1 (sI (tk A T1) 1265 (A 60) (-1000000)) := KPL.wI h1.tkk (by decide)
              have rvT : RV g A (sI (tk A T1) 1265 (A 60) (-1000000)) (gst g) := ⟨lay_I h1.rv.1 (fun a => by rw [pI_n (by decide)]), h.gb, h.sb, h1.rv.2.2.2.1.cg (fun q hq => by
                have : q.1 ≠ 1265 := by revert q; decide
                rw [pI_n this]) (fun _ _ _ => rfl), h1.rv.2.2.2.2⟩
              obtain ⟨T2, b1, b2, b3, b4, b5, b6, b7⟩ := r_sea (n := n) (m := i) (k := K) (by omega) hi hK N 64 L 0 0 (-1000000, pI (tk A T1) 1266 (A 60)) _ (gst g) (by omega) hN s0.2 (by omega) (by have := s0.2; omega) (show (-2000000 : Int) ≤ -1000000 by decide) (show (-1000000 : Int) ≤ 2000000 by decide) rvT (lw_I (h1.kp h1.tkk).2.1 (by decide)) s0.1 (by rw [pI_e]; rfl) (by rw [pI_n (by decide)])
              have se := se_first (D := dgF g) (O := opM g i) (k := K) (fun mo l => by unfold dgF; rw [if_pos rfl]) N (gst g 48) L 0 0 (-1000000, pI (tk A T1) 1266 (A 60)) (-1, 0) (show (-1000000 : Int) < 0 by decide) (by decide)
              rw [se] at b6 b7
              have e0 : gst g 48 + nI 0 = gst g 48 := by rw [nI_0, Int32.add_zero]
              rw [e0] at a3 a4
              have th : pI T2 1200 (A 60) = 0 := by rw [b5, pI_n (by decide)]; exact tk_th A T1
              have M : ∀ r, (if w = 0 then some (pI T2 1265 (A 60), T2) else some (pI T2 1266 (A 60), T2)) = some (r, T2) → KI (JJ (A 0) (A 60)) (A 60) (m_X12_seam n (A 60) (nI i) (nI N) (nI K) w) 0 (vp_updL f 0 (Int32.toInt64 r)) T1 := fun r e => ki_ok h1 (by
                unfold m_X12_seam b_X12_seam_49
                rw [jg_M1 h1 hi, cb_mk, if_neg (by decide), sp_within, if_pos c1, cb_mk, if_neg (by decide), sp_within, if_pos c2, cb_mk, if_neg (by decide), sp_within, if_pos c3, cb_mk, if_neg (by decide), sp_mayS1, cb_mk, if_neg (by decide), jg_take h1 (by omega), ob_mk]
                rw [show m_X12_seams n (A 60) (nI i) (nI N) (nI K) 0 0 (sI (tk A T1) 1265 (A 60) (-1000000)) = some T2 from b1, ob_mk]
                exact e) (b4 T1 kT) th
              refine ⟨_, h.lay.r0_1101, T1, ?_, ?_⟩
              · unfold m_X7_findShafts
                rw [pR_sI, pR_sI, h.lay.r3_701, ob_mk, h.lay.r13_802, ob_mk, hat, cb_mk]
                rw [show m_X7_tryShafts n (A 3) (nI i) (nI N) (nI K) 0 (nI L) 0 0 (sI (sI S 704 (A 3) (-1)) 705 (A 3) 0) = some T1 from a1, ob_mk]
              · rcases w2 w with rfl | rfl | q
                · rw [if_pos rfl]
                  exact ⟨_, h1.lay.r0_1101, M _ (by rw [if_pos rfl, b6, a3])⟩
                · rw [if_neg (by decide)]
                  exact ⟨_, h1.lay.r0_1101, M _ (by rw [if_neg (by decide), b7, a4])⟩
                · exact absurd c3 q
            · exact absurd c2 q
          · exact absurd c1 q
        · rw [if_neg c3, if_pos rfl]
          refine B ?_
          unfold m_X12_seam b_X12_seam_48 b_X12_seam_49
          rw [jg_M1b h hi, cb_mk, if_neg (by decide), sp_within, if_pos c1, cb_mk, if_neg (by decide), sp_within, if_pos c2, cb_mk, if_neg (by decide), sp_within, if_neg c3, cb_mk, if_pos rfl, jg_bad h (by decide), cb_mk, if_pos rfl]
      · rw [if_neg c2, if_pos rfl]
        refine B ?_
        unfold m_X12_seam b_X12_seam_48 b_X12_seam_49
        rw [jg_M1b h hi, cb_mk, if_neg (by decide), sp_within, if_pos c1, cb_mk, if_neg (by decide), sp_within, if_neg c2, cb_mk, if_pos rfl, jg_bad h (by decide), cb_mk, if_pos rfl]
    · rw [if_neg c1, if_pos rfl]
      refine B ?_
      unfold m_X12_seam b_X12_seam_48 b_X12_seam_49
      rw [jg_M1b h hi, cb_mk, if_neg (by decide), sp_within, if_neg c1, cb_mk, if_pos rfl, jg_bad h (by decide), cb_mk, if_pos rfl]
  · unfold m_X12_seam
    rw [jg_M0 h q, cb_mk, if_pos rfl]
