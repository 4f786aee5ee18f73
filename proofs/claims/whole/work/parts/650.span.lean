/-- how many of k days from d on are dark -/
def dkF (mo : Int32 → Int32) : Nat → Nat → Nat → Nat
  | 0, _, acc => acc
  | k + 1, d, acc => dkF mo k (d + 1) (if mo (nI d) = 0 then acc + 1 else acc)
theorem dk_X {A : Nat → Nat} {S : pq_S} {n b bc bs : Nat} {mo : Int32 → Int32} {E : Nat → pq_S → Prop} {Q : Int32 → pq_S → Prop} (hL : LAY A S) (hm : ∀ d, m_X1_moonsOn n (A 4) d S = some (mo d, S)) (hb : b ≤ 9999) : ∀ (f d acc : Nat), d ≤ b + 1 → b + 1 < d + f → Q (nI (dkF mo (b + 1 - d) d acc)) S → pb_X11_darks_33 n f (A 0) (nI b) (nI acc) (nI d) S bc bs E Q := by
  intro f
  induction f with
  | zero => intro d acc h1 h2; omega
  | succ f ih =>
    intro d acc h1 h2 hQ
    rw [pb_X11_darks_33]
    by_cases c : b < d
    · rw [if_pos (nI_lt c (by omega))]
      rw [show b + 1 - d = 0 by omega, dkF] at hQ
      exact hQ
    · rw [if_neg (nI_nlt (by omega) (by omega))]
      rw [show b + 1 - d = (b + 1 - (d + 1)) + 1 by omega, dkF] at hQ
      refine ⟨_, hL.r0_1101, _, hL.r3_700, _, _, hm _, ?_⟩
      by_cases c2 : mo (nI d) = 0
      · rw [if_pos c2] at hQ ⊢
        rw [pb_X11_darks_57, nI_1, nI_1]
        exact ih (d + 1) (acc + 1) (by omega) (by omega) hQ
      · rw [if_neg c2] at hQ ⊢
        rw [pb_X11_darks_57, nI_1]
        exact ih (d + 1) acc (by omega) (by omega) hQ
theorem dk_M {A : Nat → Nat} {S : pq_S} {n b : Nat} {mo : Int32 → Int32} (hm : ∀ d, m_X12_moonsOn n (A 60) d S = some (mo d, S)) (hb : b ≤ 9999) : ∀ (f d acc : Nat), d ≤ b + 1 → b + 1 < d + f → b_X12_darks_45 n f (A 60) (nI b) (nI acc) (nI d) S = some (nI (dkF mo (b + 1 - d) d acc), S) := by
  intro f
  induction f with
  | zero => intro d acc h1 h2; omega
  | succ f ih =>
    intro d acc h1 h2
    rw [b_X12_darks_45]
    by_cases c : b < d
    · rw [if_pos (nI_lt c (by omega)), show b + 1 - d = 0 by omega, dkF]
    · rw [if_neg (nI_nlt (by omega) (by omega)), hm, cb_mk, show b + 1 - d = (b + 1 - (d + 1)) + 1 by omega, dkF]
      by_cases c2 : mo (nI d) = 0
      · rw [if_pos c2, if_pos c2, b_X12_darks_66, nI_1, nI_1]
        exact ih (d + 1) (acc + 1) (by omega) (by omega)
      · rw [if_neg c2, if_neg c2, b_X12_darks_66, show nI acc + (0 : Int32) = nI acc from nI_add acc 0, nI_1]
        exact ih (d + 1) acc (by omega) (by omega)
theorem ob_33 (n xa ma : Nat) (hn : 20000 ≤ n) : OB_33 n xa ma (JJ xa ma) := by
  rintro S f ⟨A, V, g, rfl, rfl, h⟩ y z
  have h : JG A V g S := h
  refine ⟨200, 8000, by decide, by decide, _, _, sp_isDayX _ _ _, ?_⟩
  have B : ∀ (Z : Prop), m_X12_darks n (A 60) y z (badS A S) = some (0, badM A 1 (st0 (badS A S) (A 60))) → pb_X11_darks_24 n (A 0) y z (A 0) S 200 8000 (fun (k : Nat) (S1 : pq_S) => (k = 1 ∧ (KI (JJ (A 0) (A 60)) (A 60) (m_X12_darks n (A 60) y z)) 1 f S1)) (fun r (S1 : pq_S) => (KI (JJ (A 0) (A 60)) (A 60) (m_X12_darks n (A 60) y z)) 0 (vp_updL f 0 (Int32.toInt64 r)) S1) := fun _ hm => ⟨1, 6, by decide, by decide, wr_need0 (by decide) (by decide) ⟨rfl, ki_bad h (b := 0) (by decide) hm⟩⟩
  by_cases c1 : 0 ≤ y ∧ y ≤ 9999
  · rw [if_pos c1, if_neg (by decide)]
    refine ⟨_, _, sp_isDayX _ _ _, ?_⟩
    by_cases c2 : 0 ≤ z ∧ z ≤ 9999
    · rw [if_pos c2, if_neg (by decide)]
      by_cases c3 : z < y
      · rw [if_pos c3]
        refine B True ?_
        unfold m_X12_darks b_X12_darks_29 b_X12_darks_30
        rw [sp_isDayM, if_pos c1, cb_mk, if_neg (by decide), sp_isDayM, if_pos c2, cb_mk, if_neg (by decide), if_pos c3, jg_bad h (by decide), cb_mk, if_pos rfl]
      · rw [if_neg c3]
        refine ⟨1, 6, by decide, by decide, wr_need1 ?_⟩
        rcases i32_wi y 0 9999 (by decide) (by decide) with ⟨a, _, ha, rfl⟩ | r
        · rcases i32_wi z 0 9999 (by decide) (by decide) with ⟨b, _, hb, rfl⟩ | r
          · have hab : a ≤ b := by
              by_cases q : a ≤ b
              · exact q
              · exact absurd (nI_lt (a := b) (b := a) (by omega) (by omega)) c3
            refine dk_X h.lay (fun d => sp_moX h.lay h.gb h.cx (by omega) d) hb n a 0 (by omega) (by omega) ?_
            refine ki_ok h ?_ (KPL.st0 (KPL.rf _ _ _ _ _)) (st0_th _ _)
            unfold m_X12_darks b_X12_darks_30
            rw [sp_isDayM, if_pos c1, cb_mk, if_neg (by decide), sp_isDayM, if_pos c2, cb_mk, if_neg (by decide), if_neg c3, sp_mayS1, cb_mk, if_neg (by decide)]
            exact dk_M (S := st0 S (A 60)) (fun d => sp_moM h.st0.lay h.gb h.st0.cm (by omega) d) hb n a 0 (by omega) (by omega)
          · exact absurd c2 r
        · exact absurd c1 r
    · rw [if_neg c2, if_pos rfl]
      refine B True ?_
      unfold m_X12_darks b_X12_darks_29 b_X12_darks_30
      rw [sp_isDayM, if_pos c1, cb_mk, if_neg (by decide), sp_isDayM, if_neg c2, cb_mk, if_pos rfl, jg_bad h (by decide), cb_mk, if_pos rfl]
  · rw [if_neg c1, if_pos rfl]
    refine B True ?_
    unfold m_X12_darks b_X12_darks_29 b_X12_darks_30
    rw [sp_isDayM, if_neg c1, cb_mk, if_pos rfl, jg_bad h (by decide), cb_mk, if_pos rfl]
/-- fewest, most, all together: of k seeds from the i-th on -/
def spF (D : Int32 → Nat) (s : Int32) : Nat → Nat → Nat → Nat → Nat → Nat × Nat × Nat
  | 0, _, lo, hi, al => (lo, hi, al)
  | k + 1, i, lo, hi, al => spF D s k (i + 1) (if D (s + nI i) < lo then D (s + nI i) else lo) (if hi < D (s + nI i) then D (s + nI i) else hi) (al + D (s + nI i))
theorem cl_le {L D mo : Int32 → Int32} {q : Int32} {day : Nat} : ∀ (k : Nat) (s : Int32) (i d r l e : Nat), (clF L D mo q day k s i d r l e).1 ≤ d + k := by
  intro k
  induction k with
  | zero => intro s i d r l e; exact Nat.le_refl _
  | succ k ih =>
    intro s i d r l e
    rw [clF]
    split
    · split
      · have := ih (L s) (i + 1) (d + 1) (r + 1) (if l < r + 1 then r + 1 else l) e; omega
      · have := ih (L s) (i + 1) d 0 l e; omega
    · have := ih (L s) (i + 1) (d + 1) (r + 1) (if l < r + 1 then r + 1 else l) (if mo (nI (day + i)) = 0 then e + 1 else e); omega
theorem sp_X {A : Nat → Nat} {S : pq_S} {n c many : Nat} {s q dy w : Int32} {bc bs : Nat} {D : Int32 → Nat} {E : Nat → pq_S → Prop} {Q : Int32 → pq_S → Prop} (hL : LAY A S) (hm : ∀ s, m_X1_clouded n (A 4) s q dy (nI c) 0 S = some (nI (D s), S)) (hD : ∀ s, D s ≤ 60) (hc : many ≤ 40) : ∀ (f i lo hi al : Nat), i ≤ many → many < i + f → lo ≤ 60 → hi ≤ 60 → pb_X11_span_112 n w (nI (spF D s (many - i) i lo hi al).1) (nI (spF D s (many - i) i lo hi al).2.1) (nI (spF D s (many - i) i lo hi al).2.2) S bc bs E Q → pb_X11_span_53 n f (A 0) s (nI many) q dy (nI c) w (nI lo) (nI hi) (nI al) (nI i) S bc bs E Q := by
  intro f
  induction f with
  | zero => intro i lo hi al h1 h2; omega
  | succ f ih =>
    intro i lo hi al h1 h2 h3 h4 hQ
    rw [pb_X11_span_53]
    by_cases c0 : many ≤ i
    · rw [if_pos (nI_le c0 (by omega))]
      rw [show many - i = 0 by omega, spF] at hQ
      exact hQ
    · rw [if_neg (nI_ge (by omega) (by omega))]
      rw [show many - i = (many - (i + 1)) + 1 by omega, spF] at hQ
      refine ⟨_, hL.r0_1101, _, hL.r3_700, _, _, hm _, ?_⟩
      have hd := hD (s + nI i)
      have mn : (if nI (D (s + nI i)) < nI lo then nI (D (s + nI i)) else nI lo) = nI (if D (s + nI i) < lo then D (s + nI i) else lo) := by
        by_cases c1 : D (s + nI i) < lo
        · rw [if_pos (nI_lt c1 (by omega)), if_pos c1]
        · rw [if_neg (nI_nlt (by omega) (by omega)), if_neg c1]
      have mx : (if nI hi < nI (D (s + nI i)) then nI (D (s + nI i)) else nI hi) = nI (if hi < D (s + nI i) then D (s + nI i) else hi) := by
        by_cases c1 : hi < D (s + nI i)
        · rw [if_pos (nI_lt c1 (by omega)), if_pos c1]
        · rw [if_neg (nI_nlt (by omega) (by omega)), if_neg c1]
      rw [mn, mx, nI_add, nI_1]
      exact ih (i + 1) _ _ _ (by omega) (by omega) (by split <;> omega) (by split <;> omega) hQ
/-- the reference's fewest: none ahead of the first -/
def loE (i lo : Nat) : Int32 := if i = 0 then -1 else nI lo
theorem sp_M {A : Nat → Nat} {V : Nat → Prop} {g : GH} {n c many : Nat} {s q dy w : Int32} {D : Int32 → Nat} (hm : ∀ (s : Int32) (T : pq_S), JG A V g T → pI T 1200 (A 60) = 0 → ∃ T', m_X12_findClouds n (A 60) s q dy (nI c) T = some T' ∧ KP A T T' ∧ pI T' 1200 (A 60) = 0 ∧ pI T' 1268 (A 60) = nI (D s)) (hD : ∀ s, D s ≤ c) (hc60 : c ≤ 60) (hc : many ≤ 40) : ∀ (f i lo hi al : Nat) (T : pq_S), i ≤ many → many < i + f → lo ≤ c → hi ≤ 60 → (i = 0 → lo = c) → (i = 0 → 0 < many) → JG A V g T → pI T 1200 (A 60) = 0 → ∃ T', b_X12_span_64 n f (A 60) s (nI many) q dy (nI c) w (loE i lo) (nI hi) (nI al) (nI i) T = b_X12_span_144 n w (nI (spF D s (many - i) i lo hi al).1) (nI (spF D s (many - i) i lo hi al).2.1) (nI (spF D s (many - i) i lo hi al).2.2) T' ∧ KP A T T' ∧ pI T' 1200 (A 60) = 0 := by
  intro f
  induction f with
  | zero => intro i lo hi al T h1 h2; omega
  | succ f ih =>
    intro i lo hi al T h1 h2 h3 h4 h5 h6 hJ t0
    rw [b_X12_span_64]
    by_cases c0 : many ≤ i
    · rw [if_pos (nI_le c0 (by omega)), show many - i = 0 by omega, spF]
      have : i ≠ 0 := fun e => by have := h6 e; omega
      refine ⟨T, ?_, KPL.rf _ _ _ _ _, t0⟩
      unfold loE
      rw [if_neg this]
    · obtain ⟨T1, a1, a2, a3, a4⟩ := hm (s + nI i) T hJ t0
      have hd := hD (s + nI i)
      rw [if_neg (nI_ge (by omega) (by omega)), a1, ob_mk, show many - i = (many - (i + 1)) + 1 by omega, spF]
      obtain ⟨T2, b1, b2, b3⟩ := ih (i + 1) (if D (s + nI i) < lo then D (s + nI i) else lo) (if hi < D (s + nI i) then D (s + nI i) else hi) (al + D (s + nI i)) T1 (by omega) (by omega) (by split <;> omega) (by split <;> omega) (fun e => by omega) (fun e => by omega) (hJ.kp a2) a3
      refine ⟨T2, ?_, hJ.tr a2 b2, b3⟩
      rw [← b1]
      have F : ∀ v : Nat, v = (if D (s + nI i) < lo then D (s + nI i) else lo) → b_X12_span_107 n (b_X12_span_64 n f) (A 60) s (nI many) q dy (nI c) w (nI hi) (nI al) (nI i) (nI v) T1 = b_X12_span_64 n f (A 60) s (nI many) q dy (nI c) w (loE (i + 1) (if D (s + nI i) < lo then D (s + nI i) else lo)) (nI (if hi < D (s + nI i) then D (s + nI i) else hi)) (nI (al + D (s + nI i))) (nI (i + 1)) T1 := by
        intro v hv
        rw [b_X12_span_107, a4, ← hv]
        unfold loE
        rw [if_neg (show ¬ i + 1 = 0 by omega)]
        by_cases c1 : hi < D (s + nI i)
        · rw [if_neg (nI_ge c1 (by omega)), b_X12_span_127, a4, nI_add, nI_1, if_pos c1]
        · rw [if_pos (nI_le (by omega) (by omega)), b_X12_span_127, a4, nI_add, nI_1, if_neg c1]
      by_cases ci : i = 0
      · have hlo := h5 ci
        have e1 : loE i lo = -1 := if_pos ci
        rw [e1, if_pos rfl, b_X12_span_98, a4]
        exact F _ (by split <;> omega)
      · have e1 : loE i lo = nI lo := if_neg ci
        have e2 : ¬ nI lo = -1 := fun e => by
          have h9 : (nI lo).toInt = (-1 : Int32).toInt := congrArg Int32.toInt e
          rw [nI_toInt (by omega)] at h9
          have : (-1 : Int32).toInt = -1 := by decide
          omega
        rw [e1, if_neg e2, a4]
        by_cases c2 : D (s + nI i) < lo
        · rw [if_neg (nI_ge c2 (by omega)), b_X12_span_98, a4]
          exact F _ (if_pos c2).symm
        · rw [if_pos (nI_le (by omega) (by omega))]
          exact F _ (if_neg c2).symm
theorem ob_35 (n xa ma : Nat) (hn : 20000 ≤ n) : OB_35 n xa ma (JJ xa ma) := by
  rintro S f ⟨A, V, g, rfl, rfl, h⟩ sd mn q dy cn w
  have h : JG A V g S := h
  refine ⟨200, 8000, by decide, by decide, _, _, sp_isWithin _ _ _ _ _, ?_⟩
  have B : m_X12_span n (A 60) sd mn q dy cn w (badS A S) = some (0, badM A 1 (st0 (badS A S) (A 60))) → pb_X11_span_36 n (A 0) sd mn q dy cn w (A 0) S 200 8000 (fun (k : Nat) (S1 : pq_S) => (k = 1 ∧ (KI (JJ (A 0) (A 60)) (A 60) (m_X12_span n (A 60) sd mn q dy cn w)) 1 f S1)) (fun r (S1 : pq_S) => (KI (JJ (A 0) (A 60)) (A 60) (m_X12_span n (A 60) sd mn q dy cn w)) 0 (vp_updL f 0 (Int32.toInt64 r)) S1) := fun hm => ⟨1, 6, by decide, by decide, wr_need0 (by decide) (by decide) ⟨rfl, ki_bad h (b := 0) (by decide) hm⟩⟩
  by_cases c0 : 1 ≤ mn ∧ mn ≤ 40
  · rw [if_pos c0, if_neg (by decide)]
    refine ⟨_, _, sp_cloudX _ _ _ _ _, ?_⟩
    by_cases c1 : (0 ≤ q ∧ q ≤ 16) ∧ (0 ≤ dy ∧ dy ≤ 9999) ∧ 1 ≤ cn ∧ cn ≤ 60
    · rw [if_pos c1, if_neg (by decide)]
      refine ⟨_, _, sp_isWithin _ _ _ _ _, ?_⟩
      by_cases c2 : 0 ≤ w ∧ w ≤ 2
      · rw [if_pos c2, if_neg (by decide)]
        refine ⟨1, 6, by decide, by decide, wr_need1 ?_⟩
        rcases i32_wi dy 0 9999 (by decide) (by decide) with ⟨day, _, hd, rfl⟩ | r
        · rcases i32_wi cn 1 60 (by decide) (by decide) with ⟨c, hc1, hc, rfl⟩ | r
          · rcases i32_wi mn 1 40 (by decide) (by decide) with ⟨many, hm1, hm2, rfl⟩ | r
            · have hX : ∀ s, m_X1_clouded n (A 4) s q (nI day) (nI c) 0 S = some (nI (clF lcg drw (moF g) q day c s 0 0 0 0 0).1, S) := fun s => by rw [jg_clX (by omega) hd hc h, b_X1_clouded_147, if_pos rfl]
              have hM : ∀ (s : Int32) (T : pq_S), JG A V g T → pI T 1200 (A 60) = 0 → ∃ T', m_X12_findClouds n (A 60) s q (nI day) (nI c) T = some T' ∧ KP A T T' ∧ pI T' 1200 (A 60) = 0 ∧ pI T' 1268 (A 60) = nI (clF lcg drw (moF g) q day c s 0 0 0 0 0).1 := fun s T hJ t0 => by
                obtain ⟨T', a1, a2, a3, a4, _, _⟩ := jg_clouds (n := n) (s := s) (q := q) (by omega) hd hc hJ t0
                exact ⟨T', a1, a2, a3, a4⟩
              have hle : ∀ s, (clF lcg drw (moF g) q day c s 0 0 0 0 0).1 ≤ c := fun s => by
                have := cl_le (L := lcg) (D := drw) (mo := moF g) (q := q) (day := day) c s 0 0 0 0 0
                omega
              obtain ⟨DD, hDD⟩ : ∃ DD : Int32 → Nat, ∀ s, (clF lcg drw (moF g) q day c s 0 0 0 0 0).1 = DD s := ⟨_, fun _ => rfl⟩
              simp only [hDD] at hX hM hle
              obtain ⟨T', a1, a2, a3⟩ := sp_M (n := n) (s := sd) (w := w) hM hle hc hm2 n 0 c 0 0 (st0 S (A 60)) (by omega) (by omega) (by omega) (by omega) (fun _ => rfl) (fun _ => by omega) h.st0 (st0_th S (A 60))
              refine sp_X h.lay hX (fun s => by have := hle s; omega) hm2 n 0 c 0 0 (by omega) (by omega) (by omega) (by omega) ?_
              have hk : KP A S T' := h.tr (KPL.st0 (KPL.rf _ _ _ _ _)) a2
              have M : ∀ r, b_X12_span_144 n w (nI (spF DD sd (many - 0) 0 c 0 0).1) (nI (spF DD sd (many - 0) 0 c 0 0).2.1) (nI (spF DD sd (many - 0) 0 c 0 0).2.2) T' = some (r, T') → KI (JJ (A 0) (A 60)) (A 60) (m_X12_span n (A 60) sd (nI many) q (nI day) (nI c) w) 0 (vp_updL f 0 (Int32.toInt64 r)) S := fun r e => ki_ok h (by
                unfold m_X12_span b_X12_span_42
                rw [sp_within, if_pos c0, cb_mk, if_neg (by decide), sp_cloudM, if_pos c1, cb_mk, if_neg (by decide), sp_within, if_pos c2, cb_mk, if_neg (by decide), sp_mayS1, cb_mk, if_neg (by decide)]
                exact a1.trans e) hk a3
              unfold pb_X11_span_112
              rcases w3 w with rfl | rfl | rfl | r
              · rw [if_pos rfl]
                exact M _ (by rw [b_X12_span_144, if_pos rfl])
              · rw [if_neg (by decide), if_pos rfl]
                exact M _ (by rw [b_X12_span_144, if_neg (by decide), if_pos rfl])
              · rw [if_neg (by decide), if_neg (by decide)]
                exact M _ (by rw [b_X12_span_144, if_neg (by decide), if_neg (by decide)])
              · exact absurd c2 r
            · exact absurd c0 r
          · exact absurd c1.2.2 r
        · exact absurd c1.2.1 r
      · rw [if_neg c2, if_pos rfl]
        refine B ?_
        unfold m_X12_span b_X12_span_41 b_X12_span_42
        rw [sp_within, if_pos c0, cb_mk, if_neg (by decide), sp_cloudM, if_pos c1, cb_mk, if_neg (by decide), sp_within, if_neg c2, cb_mk, if_pos rfl, jg_bad h (by decide), cb_mk, if_pos rfl]
    · rw [if_neg c1, if_pos rfl]
      refine B ?_
      unfold m_X12_span b_X12_span_41 b_X12_span_42
      rw [sp_within, if_pos c0, cb_mk, if_neg (by decide), sp_cloudM, if_neg c1, cb_mk, if_pos rfl, jg_bad h (by decide), cb_mk, if_pos rfl]
  · rw [if_neg c0, if_pos rfl]
    refine B ?_
    unfold m_X12_span b_X12_span_41 b_X12_span_42
    rw [sp_within, if_neg c0, cb_mk, if_pos rfl, jg_bad h (by decide), cb_mk, if_pos rfl]
