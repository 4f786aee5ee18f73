/-! nights: the reference's search -/
/-- a is the first way of all, in order -/
def LXO (h : Nat → Nat) (D K : Nat) : Nat → Nat → (Nat → Nat) → (Nat → Nat) → Prop
  | 0, _, _, _ => True
  | v + 1, k, t, a => (a k < K ∧ t (a k) + h k ≤ D ∧ FB h D K v (k + 1) (up1 t (a k) (h k)) ∧ ∀ w, w < a k → ¬ (t w + h k ≤ D ∧ FB h D K v (k + 1) (up1 t w (h k)))) ∧ LXO h D K v (k + 1) (up1 t (a k) (h k)) a
theorem LXO.cg {h : Nat → Nat} {D K : Nat} : ∀ v k t (a c : Nat → Nat), (∀ i, k ≤ i → a i = c i) → LXO h D K v k t a → LXO h D K v k t c := by
  intro v
  induction v with
  | zero => intro k t a c _ _; trivial
  | succ v ih =>
    intro k t a c e q
    obtain ⟨q1, q2⟩ := q
    unfold LXO
    rw [← e k (Nat.le_refl _)]
    exact ⟨q1, ih (k + 1) _ a c (fun i hi => e i (by omega)) q2⟩
theorem LXO.uq {h : Nat → Nat} {D K : Nat} : ∀ v k t (a c : Nat → Nat), LXO h D K v k t a → LXO h D K v k t c → ∀ i, k ≤ i → i < k + v → a i = c i := by
  intro v
  induction v with
  | zero => intro k t a c _ _ i h1 h2; omega
  | succ v ih =>
    intro k t a c p q i h1 h2
    obtain ⟨⟨p1, p2, p3, p4⟩, p5⟩ := p
    obtain ⟨⟨q1, q2, q3, q4⟩, q5⟩ := q
    have e : a k = c k := by
      rcases Nat.lt_trichotomy (a k) (c k) with z | z | z
      · exact absurd ⟨p2, p3⟩ (q4 _ z)
      · exact z
      · exact absurd ⟨q2, q3⟩ (p4 _ z)
    by_cases ei : i = k
    · rw [ei]; exact e
    · rw [← e] at q5
      exact ih (k + 1) _ a c p5 q5 i (by omega) (by omega)
/-- the reference's list of wants -/
def NQ (A : Nat → Nat) (g : GH) (m : Nat) (q : Nat → Nat) (T : pq_S) : Prop := LAY A T ∧ m ≤ 12 ∧ pI T 1261 (A 60) = nI m ∧ (∀ i, i < m → q i < gW g ∧ pA T (A 85) i = nI (q i)) ∧ (∀ i, i < 4 * gW g → pA T (A 68) i = nI (gwa g i)) ∧ ∀ i j, i < m → j < m → q i = q j → i = j
section
variable {A : Nat → Nat} {n m : Nat} {q : Nat → Nat} {g : GH} {T : pq_S} {D K : Nat}
theorem NQ.fx {T' : pq_S} (h : NQ A g m q T) (k : FX [] [] [86, 87] A T T') : NQ A g m q T' := ⟨k.lay h.1 (by decide) (by decide), h.2.1, by rw [k.I h.1 (by decide) (by decide) (by decide)]; exact h.2.2.1, fun i hi => ⟨(h.2.2.2.1 i hi).1, by rw [k.W h.1 (by decide) (by decide)]; exact (h.2.2.2.1 i hi).2⟩, fun i hi => by rw [k.W h.1 (by decide) (by decide)]; exact h.2.2.2.2.1 i hi, h.2.2.2.2.2⟩
def CAP (A : Nat → Nat) (D K : Nat) (t : Nat → Nat) (T : pq_S) : Prop := (∀ w, w < K → t w ≤ D) ∧ ∀ w, w < K → pA T (A 87) w = nI (D - t w)
/-- what a search comes to -/
def RFO (A : Nat → Nat) (g : GH) (q : Nat → Nat) (D K v k : Nat) (t : Nat → Nat) (T : pq_S) (o : Option (Int32 × pq_S)) : Prop := ∃ T' r, o = some (r, T') ∧ FX [] [] [86, 87] A T T' ∧ CAP A D K t T' ∧ (∀ j, (∀ i, k ≤ i → i < k + v → j ≠ q i) → pA T' (A 86) j = pA T (A 86) j) ∧ ((r = 1 ∧ FB (fun i => gwa g (4 * q i + 1)) D K v k t ∧ ∃ a, LXO (fun i => gwa g (4 * q i + 1)) D K v k t a ∧ ∀ i, k ≤ i → i < k + v → pA T' (A 86) (q i) = nI (a i)) ∨ (r = 0 ∧ ¬ FB (fun i => gwa g (4 * q i + 1)) D K v k t))
theorem r_fits (hn : 20000 ≤ n) (hD : D ≤ 24) (hK : K ≤ 12) (hg : GB g) : ∀ v k d t T, k + v = m → v < d → NQ A g m q T → CAP A D K t T → RFO A g q D K v k t T ((m_fitO_d n d) (A 60) (nI k) (nI K) T) := by
  intro v
  induction v with
  | zero =>
    intro k d t T hk hd hq hc
    obtain ⟨d, rfl⟩ : ∃ g, d = g + 1 := ⟨d - 1, by omega⟩
    refine ⟨T, 1, ?_, FX.rf _ _ _ _ _, hc, fun _ _ => rfl, Or.inl ⟨rfl, trivial, fun _ => 0, trivial, fun i h1 h2 => by omega⟩⟩
    show g_X12_fitsOn n _ (A 60) (nI k) (nI K) T = _
    unfold g_X12_fitsOn
    rw [if_pos (by rw [hq.2.2.1, show k = m by omega])]
  | succ v ih =>
    intro k d t T hk hd hq hc
    obtain ⟨d, rfl⟩ : ∃ g, d = g + 1 := ⟨d - 1, by omega⟩
    have hm := hq.2.1
    have lT := hq.1
    have hqk := hq.2.2.2.1 k (by omega)
    have hW := hg.b.2.1
    have hh := hg.2.2.1 (q k) hqk.1
    show RFO A g q D K (v + 1) k t T (g_X12_fitsOn n (m_fitO_d n d) (A 60) (nI k) (nI K) T)
    unfold g_X12_fitsOn
    rw [if_neg (by rw [hq.2.2.1]; exact fun z => by have := (nI_eq (by omega) (by omega)).mp z; omega), lT.r60_1215, ob_mk, lT.r60_1252, ob_mk, lT.n85, ck_pos (ix_nI (by omega) (by decide)), nI_clamp (by omega), hqk.2, show (4 : Int32) * nI (q k) = nI (4 * q k) from nI_mulp 4 _, show nI (4 * q k) + (1 : Int32) = nI (4 * q k + 1) from nI_1 _, lT.n68, ck_pos (ix_nI (by omega) (by decide)), lt_mk, nI_clamp (by omega), hq.2.2.2.2.1 _ (by omega)]
    have loop : ∀ c w f T1, w + c = K → c < f → NQ A g m q T1 → CAP A D K t T1 → FX [] [] [86, 87] A T T1 → (∀ j, (∀ i, k ≤ i → i < k + (v + 1) → j ≠ q i) → pA T1 (A 86) j = pA T (A 86) j) → (∀ u, u < w → ¬ (t u + gwa g (4 * q k + 1) ≤ D ∧ FB (fun i => gwa g (4 * q i + 1)) D K v (k + 1) (up1 t u (gwa g (4 * q k + 1))))) → RFO A g q D K (v + 1) k t T (b_X12_fitsOn_29 n (m_fitO_d n d) f (A 60) (nI k) (nI K) (nI (gwa g (4 * q k + 1))) (nI w) T1) := by
      intro c
      induction c with
      | zero =>
        intro w f T1 hw hf hq1 hc1 k1 hj hno
        obtain ⟨f, rfl⟩ : ∃ g, f = g + 1 := ⟨f - 1, by omega⟩
        rw [b_X12_fitsOn_29, if_pos (nI_le (by omega) (by omega))]
        refine ⟨T1, 0, rfl, k1, hc1, hj, Or.inr ⟨rfl, fun ⟨u, u1, u2, u3⟩ => hno u (by omega) ⟨u2, u3⟩⟩⟩
      | succ c ihc =>
        intro w f T1 hw hf hq1 hc1 k1 hj hno
        obtain ⟨f, rfl⟩ : ∃ g, f = g + 1 := ⟨f - 1, by omega⟩
        have l1 := hq1.1
        have htw := hc1.1 w (by omega)
        rw [b_X12_fitsOn_29, if_neg (nI_ge (by omega) (by omega)), l1.r60_1260, ob_mk, l1.n87, ck_pos (ix_nI (by omega) (by decide)), nI_clamp (by omega), hc1.2 w (by omega)]
        have next : ∀ T2, NQ A g m q T2 → CAP A D K t T2 → FX [] [] [86, 87] A T T2 → (∀ j, (∀ i, k ≤ i → i < k + (v + 1) → j ≠ q i) → pA T2 (A 86) j = pA T (A 86) j) → ¬ (t w + gwa g (4 * q k + 1) ≤ D ∧ FB (fun i => gwa g (4 * q i + 1)) D K v (k + 1) (up1 t w (gwa g (4 * q k + 1)))) → RFO A g q D K (v + 1) k t T (b_X12_fitsOn_101 n (m_fitO_d n d) (b_X12_fitsOn_29 n (m_fitO_d n d) f) (A 60) (nI k) (nI K) (nI (gwa g (4 * q k + 1))) (nI w) T2) := by
          intro T2 a1 a2 a3 a4 a5
          unfold b_X12_fitsOn_101
          rw [show nI w + 1 = nI (w + 1) from nI_1 w]
          refine ihc (w + 1) f T2 (by omega) (by omega) a1 a2 a3 a4 (fun u hu => ?_)
          by_cases e : u = w
          · rw [e]; exact a5
          · exact hno u (by omega)
        by_cases hfit : t w + gwa g (4 * q k + 1) ≤ D
        · rw [if_pos (nI_le (by omega) (by omega)), ob_mk, l1.n87, ck_pos (ix_nI (by omega) (by decide)), ck_pos (ix_nI (by omega) (by decide)), lt_mk, hc1.2 w (by omega), nI_sub' (show gwa g (4 * q k + 1) ≤ D - t w by omega)]
          have kk1 : FX [] [] [86, 87] A T1 (sA T1 (A 87) w (nI (D - t w - gwa g (4 * q k + 1)))) := (FX.rf _ _ _ _ _).wA (by decide)
          have q2 := hq1.fx kk1
          have l2 := q2.1
          have qk2 := q2.2.2.2.1 k (by omega)
          have kk2 : FX [] [] [86, 87] A T1 (sA (sA T1 (A 87) w (nI (D - t w - gwa g (4 * q k + 1)))) (A 86) (q k) (nI w)) := kk1.wA (by decide)
          have q3 := hq1.fx kk2
          rw [l2.r60_1259, ob_mk, l2.r60_1252, ob_mk, l2.n85, ck_pos (ix_nI (by omega) (by decide)), nI_clamp (by omega), qk2.2, l2.n86, ck_pos (ix_nI (by omega) (by decide)), lt_mk, nI_clamp (by omega), show nI k + (1 : Int32) = nI (k + 1) from nI_1 k]
          have hcap : CAP A D K (up1 t w (gwa g (4 * q k + 1))) (sA (sA T1 (A 87) w (nI (D - t w - gwa g (4 * q k + 1)))) (A 86) (q k) (nI w)) := by
            refine ⟨fun x hx => ?_, fun x hx => ?_⟩
            · unfold up1
              by_cases e : x = w
              · rw [if_pos e, e]; exact hfit
              · rw [if_neg e]; exact hc1.1 x hx
            · rw [pA_sA, if_neg (fun z => absurd (lT.2.2.2.2 _ _ (by decide) (by decide) z.1) (by decide)), pA_sA]
              unfold up1
              by_cases e : x = w
              · rw [if_pos ⟨rfl, e⟩, if_pos e, e]; congr 1; omega
              · rw [if_neg (fun z => e z.2), if_neg e]; exact hc1.2 x hx
          obtain ⟨T', r, r1, r2, r3, r4, r5⟩ := ih (k + 1) d (up1 t w (gwa g (4 * q k + 1))) _ (by omega) (by omega) q3 hcap
          have q4 := q3.fx r2
          have l4 := q4.1
          rw [r1, cb_mk, l4.r60_1260, ob_mk, l4.n87, ck_pos (ix_nI (by omega) (by decide)), ck_pos (ix_nI (by omega) (by decide)), lt_mk, r3.2 w (by omega), nI_add]
          have kk5 : FX [] [] [86, 87] A T1 (sA T' (A 87) w (nI (D - up1 t w (gwa g (4 * q k + 1)) w + gwa g (4 * q k + 1)))) := (kk2.tr r2).wA (by decide)
          have q5 := hq1.fx kk5
          have cap5 : CAP A D K t (sA T' (A 87) w (nI (D - up1 t w (gwa g (4 * q k + 1)) w + gwa g (4 * q k + 1)))) := by
            refine ⟨hc1.1, fun x hx => ?_⟩
            rw [pA_sA]
            by_cases e : x = w
            · rw [if_pos ⟨rfl, e⟩, e]
              unfold up1
              rw [if_pos rfl]; congr 1; omega
            · rw [if_neg (fun z => e z.2), r3.2 x hx]
              unfold up1
              rw [if_neg e]
          have row5 : ∀ j, (∀ i, k + 1 ≤ i → i < k + 1 + v → j ≠ q i) → pA (sA T' (A 87) w (nI (D - up1 t w (gwa g (4 * q k + 1)) w + gwa g (4 * q k + 1)))) (A 86) j = if j = q k then nI w else pA T1 (A 86) j := by
            intro j hjq
            rw [pA_sA, if_neg (fun z => absurd (lT.2.2.2.2 _ _ (by decide) (by decide) z.1) (by decide)), r4 j hjq, pA_sA]
            by_cases e : j = q k
            · rw [if_pos ⟨rfl, e⟩, if_pos e]
            · rw [if_neg (fun z => e z.2), if_neg e, pA_sA, if_neg (fun z => absurd (lT.2.2.2.2 _ _ (by decide) (by decide) z.1) (by decide))]
          have old5 : ∀ j, (∀ i, k ≤ i → i < k + (v + 1) → j ≠ q i) → pA (sA T' (A 87) w (nI (D - up1 t w (gwa g (4 * q k + 1)) w + gwa g (4 * q k + 1)))) (A 86) j = pA T (A 86) j := by
            intro j hjq
            rw [row5 j (fun i h1 h2 => hjq i (by omega) (by omega)), if_neg (hjq k (Nat.le_refl _) (by omega))]
            exact hj j hjq
          rcases r5 with ⟨rfl, hfb, a, hlx, hrow⟩ | ⟨rfl, hnfb⟩
          · rw [if10]
            refine ⟨_, 1, rfl, k1.tr kk5, cap5, old5, Or.inl ⟨rfl, ⟨w, by omega, hfit, hfb⟩, fun i => if i = k then w else a i, ⟨⟨by simp; omega, by simpa using hfit, by simpa using hfb, by simpa using hno⟩, ?_⟩, fun i h1 h2 => ?_⟩⟩
            · have ek : (fun i => if i = k then w else a i) k = w := if_pos rfl
              rw [ek]
              exact LXO.cg v (k + 1) _ a _ (fun i hi => (if_neg (by omega)).symm) hlx
            · by_cases e : i = k
              · rw [e, row5 (q k) (fun i h1 h2 z => by have := hq.2.2.2.2.2 _ _ (by omega) (by omega) z; omega), if_pos rfl]
                exact congrArg nI (if_pos rfl).symm
              · rw [pA_sA, if_neg (fun z => absurd (lT.2.2.2.2 _ _ (by decide) (by decide) z.1) (by decide)), hrow i (by omega) (by omega)]
                exact congrArg nI (if_neg e).symm
          · rw [if00]
            exact next _ q5 cap5 (k1.tr kk5) old5 (fun z => hnfb z.2)
        · rw [if_neg (nI_ge (by omega) (by omega))]
          exact next T1 hq1 hc1 k1 hj (fun z => hfit z.1)
    exact loop K 0 n T (by omega) (by omega) hq hc (FX.rf _ _ _ _ _) (fun _ _ => rfl) (fun u hu => by omega)
end
