/-! nights: the least row, class -/
theorem sm13 : ∀ j, j < 13 → ((nI j &&& (31 : Int32)).toBitVec.smod 32).toNat = j := by decide
theorem ptI_n {t : Nat → Nat} {D K v x : Nat} (hD : D ≤ 24) (hK : K ≤ 12) (hvK : v < 1024 → v / 32 < K) (ht : ∀ w, w < K → t w ≤ D) (hx : x ≤ 12) : ptI t D K v x ≤ 1024 ∧ (ptI t D K v x < 1024 → ptI t D K v x / 32 < K) := by
  unfold ptI
  by_cases e : v < 1024
  · have := hvK e
    rw [if_pos e]
    by_cases e2 : v % 32 + x ≤ D
    · rw [if_pos e2]; omega
    · rw [if_neg e2]
      rcases ptn_ok (D := D) (t := t) (x := x) (K - (v / 32 + 1)) (v / 32 + 1) with ⟨u, u1, u2, u3, u4, _⟩ | ⟨u1, _⟩
      · rw [u4]; omega
      · omega
  · rw [if_neg e]; omega
/-- only the row r differs -/
def ONL (r : Nat) (S T : pq_S) : Prop := (pL T = pL S ∧ pK T = pK S ∧ pI T = pI S ∧ pR T = pR S ∧ pN T = pN S ∧ pQ T = pQ S) ∧ ∀ a i, a ≠ r → pA T a i = pA S a i
theorem ONL.rf (r : Nat) (S : pq_S) : ONL r S S := ⟨⟨rfl, rfl, rfl, rfl, rfl, rfl⟩, fun _ _ _ => rfl⟩
theorem ONL.w {r i : Nat} {v : Int32} {S T : pq_S} (h : ONL r S T) : ONL r S (sA T r i v) := ⟨h.1, fun a j q => by rw [pA_sA, if_neg (fun z => q z.1)]; exact h.2 a j q⟩
theorem ONL.kp {r : Nat} {A : Nat → Nat} {S T : pq_S} (h : ONL r S T) (hr : pR S 404 (A 32) = some r) : KPL [] [] [] A S T := ⟨fun a k q => ⟨by rw [h.1.1]; exact q.1, by rw [h.1.2.1]; exact q.2⟩, fun f a _ _ => by rw [h.1.2.2.2.1], fun a _ => by rw [h.1.2.2.2.2.1], fun a i _ => by rw [h.1.2.2.2.2.2], fun f a _ _ _ => by rw [h.1.2.2.1], fun a i _ _ q => h.2 a i (fun z => q (by rw [hr, z])), Or.inl (by rw [h.1.2.2.2.1])⟩
theorem kpl_new {A : Nat → Nat} {S : pq_S} {q : Nat} (hr : pR S 404 (A 32) = none) (hq : q ∉ pL S) : KPL [] [] [] A S (sR (nA S q 14 4096) 404 (A 32) (some q)) := by
  have ne : ∀ a, a ∈ pL S → a ≠ q := fun a ha z => hq (z ▸ ha)
  refine ⟨fun a k z => ⟨?_, ?_⟩, fun f a hf ha => ?_, fun a ha => ?_, fun a i ha => ?_, fun f a _ _ _ => rfl, fun a i ha _ _ => ?_, Or.inr ⟨hr, q, ?_, hq, ⟨?_, ?_⟩, ?_⟩⟩
  · rw [pL_sR, pL_nA]; exact List.mem_append_left _ z.1
  · show pK (nA S q 14 4096) a = k
    rw [pK_nA, if_neg (ne a z.1)]; exact z.2
  · rw [pR_sR, if_neg (fun z => hf z.1)]; rfl
  · rw [pN_sR, pN_nA, if_neg (ne a ha)]
  · rw [pQ_sR, pQ_nA, if_neg (ne a ha)]
  · rw [pA_sR, pA_nA, if_neg (ne a ha)]
  · rw [pR_sR, if_pos ⟨rfl, rfl⟩]
  · rw [pL_sR, pL_nA]; exact List.mem_append_right _ (by simp)
  · show pK (nA S q 14 4096) q = 14
    rw [pK_nA, if_pos rfl]
  · rw [pN_sR, pN_nA, if_pos rfl]
section
variable {A : Nat → Nat} {n : Nat} {g : GH} {S S0 : pq_S} {V : Nat → Prop} {m : Nat} {q : Nat → Nat} {D K : Nat} {t : Nat → Nat}
/-- the class's list of wants, and what is taken -/
def NX (A : Nat → Nat) (g : GH) (m : Nat) (q : Nat → Nat) (D K : Nat) (t : Nat → Nat) (S : pq_S) : Prop := m ≤ 12 ∧ pI S 405 (A 32) = nI m ∧ (∀ i, i < m → q i < gW g ∧ pA S (A 33) i = nI (q i)) ∧ ∀ w, w < K → t w ≤ D ∧ pA S (A 34) w = nI (t w)
theorem x_hrs {i : Nat} (h : JG A V g S) (hi : i < 12) (e : pA S (A 33) i = nI (q i)) (hq : q i < gW g) : m_X4_hoursOf n (A 32) (nI i) S = some (nI (gwa g (4 * q i + 1)), S) := by
  have lS := h.lay
  unfold m_X4_hoursOf
  rw [if_neg (nI_pos (by omega)), lS.r32_401, ob_mk, lS.n33, if_neg (show ¬ Int32.ofNat 12 ≤ nI i from nI_ge (by omega) (by decide)), lS.r32_400, ob_mk, lS.r3_700, ob_mk, lS.r4_101, ob_mk, ob_mk, lS.n33, ck_pos (ix_nI hi (by decide)), nI_clamp (by omega), e, show m_X9_at n (A 7) (nI (q i)) 1 S = some (nI (gwa g (4 * q i + 1)), S) from h.xv.wa (c := 1) hq (by decide), cb_mk]
def BBS (h : Nat → Nat) (t : Nat → Nat) (D K k v s : Nat) (R : Nat → Nat) (i b : Nat) : Prop := b ≤ 1024 ∧ (b < 1024 → b / 32 < K) ∧ (∀ j, j < i → j < v → s.testBit j = true → b ≤ ptI t D K (R (s - 2 ^ j)) (h (k + j))) ∧ (b = 1024 ∨ ∃ j, j < v ∧ s.testBit j = true ∧ b = ptI t D K (R (s - 2 ^ j)) (h (k + j)))
theorem x_bos {r k v s : Nat} {R : Nat → Nat} (hn : 20000 ≤ n) (h : JG A V g S) (hD : D ≤ 24) (hK : K ≤ 12) (hX : NX A g m q D K t S) (hr : pR S 404 (A 32) = some r) (hkv : k + v = m) (hs : s < 2 ^ v) (hR : ∀ s', s' < s → pA S r s' = nI (R s') ∧ R s' ≤ 1024 ∧ (R s' < 1024 → R s' / 32 < K)) : ∀ c i f b, i + c = 12 → c < f → BBS (fun i => gwa g (4 * q i + 1)) t D K k v s R i b → ∃ b', b_X4_bestOfSet_8 n f (A 32) (nI s) (nI k) (nI D) (nI K) (nI b) (nI i) S = some (nI b', S) ∧ BBS (fun i => gwa g (4 * q i + 1)) t D K k v s R v b' := by
  have hm := hX.1
  have lS := h.lay
  have p12 : 2 ^ v ≤ 2 ^ 12 := Nat.pow_le_pow_right (by decide) (by omega)
  have hN : pN S r = 4096 := (h.hi.2.2.2.2.1 r hr).2.1
  have hs12 : s < 4096 := by have : (2 : Nat) ^ 12 = 4096 := by decide
                             omega
  intro c
  induction c with
  | zero =>
    intro i f b h1 h2 hb
    obtain ⟨f, rfl⟩ : ∃ g, f = g + 1 := ⟨f - 1, by omega⟩
    refine ⟨b, ?_, hb.1, hb.2.1, fun j hj => hb.2.2.1 j (by omega), hb.2.2.2⟩
    rw [b_X4_bestOfSet_8, pk_shrN (by omega) _ i (sm13 i (by omega)), if_pos (by rw [show i = 12 by omega, Nat.div_eq_of_lt (show s < 2 ^ 12 by omega)]; rfl)]
  | succ c ih =>
    intro i f b h1 h2 hb
    obtain ⟨f, rfl⟩ : ∃ g, f = g + 1 := ⟨f - 1, by omega⟩
    rw [b_X4_bestOfSet_8, pk_shrN (by omega) _ i (sm13 i (by omega))]
    have hdl : s / 2 ^ i ≤ s := Nat.div_le_self _ _
    by_cases e0 : s / 2 ^ i = 0
    · rw [if_pos (by rw [e0]; rfl)]
      have hsi : s < 2 ^ i := (Nat.div_eq_zero_iff_lt (Nat.two_pow_pos i)).mp e0
      refine ⟨b, rfl, hb.1, hb.2.1, fun j hj hjv hbj => ?_, hb.2.2.2⟩
      rcases Nat.lt_or_ge j i with z | z
      · exact hb.2.2.1 j z hjv hbj
      · rw [Nat.testBit_lt_two_pow (Nat.lt_of_lt_of_le hsi (Nat.pow_le_pow_right (by decide) z))] at hbj; cases hbj
    rw [if_neg (show ¬ nI (s / 2 ^ i) = 0 from fun z => e0 ((nI_eq (b := 0) (by omega) (by decide)).mp z)), if_neg (show ¬ (12 : Int32) ≤ nI i from nI_ge (b := 12) (by omega) (by decide)), clrN (by omega), lt_mk]
    by_cases hbt : s.testBit i = true
    · obtain ⟨g1, _, _⟩ := bit_out hbt
      have hp := Nat.two_pow_pos i
      have hiv : i < v := by
        rcases Nat.lt_or_ge i v with z | z
        · exact z
        · rw [Nat.testBit_lt_two_pow (Nat.lt_of_lt_of_le hs (Nat.pow_le_pow_right (by decide) z))] at hbt; cases hbt
      obtain ⟨R1, R2, R3⟩ := hR (s - 2 ^ i) (by omega)
      obtain ⟨q1, q2⟩ := hX.2.2.1 (k + i) (by omega)
      have hg12 := (h.gb.2.2.1 _ q1)
      obtain ⟨p1, p2⟩ := ptI_n (t := t) (x := gwa g (4 * q (k + i) + 1)) hD hK R3 (fun w hw => (hX.2.2.2 w hw).1) hg12.2.2.1
      rw [if_pos hbt, if_neg (fun z => by have := (nI_eq (by omega) (by omega)).mp z; omega), if_neg (nI_pos (by omega)), hr, ob_mk, hN, if_neg (show ¬ Int32.ofNat 4096 ≤ nI (s - 2 ^ i) from nI_ge (by omega) (by decide)), ob_mk, hN, ck_pos (ix_nI (by omega) (by decide)), nI_clamp (by omega), R1, nI_add, x_hrs h (by omega) q2 q1, cb_mk, x_ptI hn lS hD hg12.2.2.1 hK R2 R3 hX.2.2.2, cb_mk, b_X4_bestOfSet_82, show nI i + 1 = nI (i + 1) from nI_1 i]
      by_cases hlt : ptI t D K (R (s - 2 ^ i)) (gwa g (4 * q (k + i) + 1)) < b
      · rw [if_pos (nI_lt hlt (by have := hb.1; omega))]
        refine ih (i + 1) f _ (by omega) (by omega) ⟨p1, p2, fun j hj hjv hbj => ?_, Or.inr ⟨i, hiv, hbt, rfl⟩⟩
        by_cases e : j = i
        · rw [e]; exact Nat.le_refl _
        · exact Nat.le_trans (Nat.le_of_lt hlt) (hb.2.2.1 j (by omega) hjv hbj)
      · rw [if_neg (nI_nlt (by omega) (by omega))]
        refine ih (i + 1) f b (by omega) (by omega) ⟨hb.1, hb.2.1, fun j hj hjv hbj => ?_, hb.2.2.2⟩
        by_cases e : j = i
        · rw [e]; exact Nat.le_of_not_lt hlt
        · exact hb.2.2.1 j (by omega) hjv hbj
    · rw [if_neg hbt, if_pos rfl, b_X4_bestOfSet_82, show nI i + 1 = nI (i + 1) from nI_1 i]
      refine ih (i + 1) f b (by omega) (by omega) ⟨hb.1, hb.2.1, fun j hj hjv hbj => ?_, hb.2.2.2⟩
      by_cases e : j = i
      · rw [e] at hbj; exact absurd hbj hbt
      · exact hb.2.2.1 j (by omega) hjv hbj
end
