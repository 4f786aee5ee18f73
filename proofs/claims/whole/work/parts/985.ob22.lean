/-! nights, done -/
section
variable {A : Nat → Nat} {n : Nat} {g : GH} {S T : pq_S} {V : Nat → Prop} {D p : Nat}
/-- what the class's packing comes to -/
def XNO (A : Nat → Nat) (g : GH) (p D : Nat) (S' : pq_S) : Prop := (pI S' 405 (A 32) = nI (cw g p (gW g)) ∧ ∀ i, i < cw g p (gW g) → pA S' (A 33) i = nI (qf g p (gW g) i)) ∧ ((NOO g p D ∧ pI S' 406 (A 32) = -1) ∨ ∃ K a, YOO g p D K a ∧ pI S' 406 (A 32) = nI K ∧ ∀ i, i < cw g p (gW g) → pA S' (A 35) i = nI (a i))
theorem w_pack {mc ms : Nat} {Q : pq_S → Prop} (hn : 20000 ≤ n) (h : JG A V g S) (hD : D ≤ 24) (hp : p < 100) (hmc : 1 ≤ mc) (hms : 4096 ≤ ms) (hQ : ∀ S', KP A S S' → XNO A g p D S' → Q S') : wp_X4_pack n (A 32) (nI p) (nI D) S mc ms Q := by
  have hW := h.gb.b.2.1
  have hm : cw g p (gW g) ≤ 12 := Nat.le_trans (cw_le _) hW
  obtain ⟨S1, a1, a2, a3, a4⟩ := x_gath (n := n) (p := p) hn h hp
  have k1 : KP A S S1 := a2.kpl.mono (by decide) (by simp) (by decide)
  have h1 := h.kp k1
  have l1 := h1.lay
  have k5 : KP A S1 (sF S1 (A 34) (mixr 12 (fun _ => 0) (pA S1 (A 34)))) := KPL.wF (KPL.rf _ _ _ _ _) (by decide)
  have h5 := h1.kp k5
  have l5 := h5.lay
  have k15 := h.tr k1 k5
  refine ⟨S1, a1, A 34, l1.r32_402, _, sp_fill (N := 12) l1.n34 (by decide) (by omega), 1, 4096, hmc, hms, ?_⟩
  have e405 : pI (sF S1 (A 34) (mixr 12 (fun _ => 0) (pA S1 (A 34)))) 405 (A 32) = nI (cw g p (gW g)) := a3
  have e33 : ∀ i, i < cw g p (gW g) → pA (sF S1 (A 34) (mixr 12 (fun _ => 0) (pA S1 (A 34)))) (A 33) i = nI (qf g p (gW g) i) := fun i hi => by
    rw [pA_sF, if_neg (l1.ne (by decide) (by decide) (by decide))]; exact a4 i hi
  have e34 : ∀ w, w < 12 → pA (sF S1 (A 34) (mixr 12 (fun _ => 0) (pA S1 (A 34)))) (A 34) w = nI 0 := fun w hw => by
    rw [pA_sF, if_pos rfl]; unfold mixr; rw [if_pos hw]; rfl
  generalize sF S1 (A 34) (mixr 12 (fun _ => 0) (pA S1 (A 34))) = S5 at *
  have hX : NX A g (cw g p (gW g)) (qf g p (gW g)) D (cw g p (gW g)) (fun _ => 0) S5 := ⟨hm, e405, fun i hi => ⟨(qf_ok _ i hi).1, e33 i hi⟩, fun w hw => ⟨Nat.zero_le _, e34 w (by omega)⟩⟩
  rw [e405, show (0 : Int32) = nI 0 from rfl]
  refine w_last (n := n) (k := 0) (v := cw g p (gW g)) hn h5 hD hm hX (fun z => z) (by omega) (fun _ => ⟨Nat.le_refl _, Nat.le_refl _⟩) (fun hv => ?_) (fun S' R' hv kR hR hle hne => ?_)
  · rw [if_neg (by decide)]
    unfold pb_X4_pack_37
    rw [pI_e, if_neg (by decide)]
    obtain ⟨f, rfl⟩ : ∃ f, n = f + 1 := ⟨n - 1, by omega⟩
    rw [pb_X4_pack_52, pI_n (by decide), e405, hv, if_pos (show nI 0 ≤ (0 : Int32) from by decide)]
    have k6 : KP A S5 (sI S5 406 (A 32) (nI 0)) := KPL.wI (KPL.rf _ _ _ _ _) (by decide)
    refine hQ _ (h.tr k15 k6) ⟨⟨by rw [pI_n (by decide)]; exact e405, fun i hi => e33 i hi⟩, Or.inr ⟨0, fun _ => 0, ⟨?_, Nat.zero_le _, fun M hM => by omega, ?_⟩, pI_e .., fun i hi => by omega⟩⟩
    · rw [hv]; trivial
    · rw [hv]; trivial
  · have hS' := h5.kp (kR.mono (by simp) (by simp) (by simp))
    have hr404 : ∀ c, c < 92 → pR S5 404 (A 32) ≠ some (A c) := fun c hc z => (h5.hi.2.2.2.2.1 _ z).2.2 c (h5.hi.2.2.1 c hc) rfl
    have mem : ∀ c, c < 92 → A c ∈ pL S5 := fun c hc => h5.hi.2.1 c (h5.hi.2.2.1 c hc)
    have kI : ∀ f c, c < 92 → pI S' f (A c) = pI S5 f (A c) := fun f c hc => kR.2.2.2.2.1 f _ (by simp) (by simp) (mem c hc)
    have kA : ∀ c i, c < 92 → pA S' (A c) i = pA S5 (A c) i := fun c i hc => kR.2.2.2.2.2.1 _ i (mem c hc) (by simp) (hr404 c hc)
    have kS' : KP A S S' := h.tr k15 (kR.mono (by simp) (by simp) (by simp))
    by_cases e : R' (2 ^ cw g p (gW g) - 1) < 1024
    · obtain ⟨f1, f2, f3⟩ := rch_min (K := cw g p (gW g)) hD hm hv hR e
      rw [if_pos e, if_neg (fun z => by have := (nI_eq (b := 1024) (by omega) (by decide)).mp z; omega)]
      generalize R' (2 ^ cw g p (gW g) - 1) / 32 + 1 = K at *
      unfold pb_X4_pack_37
      rw [pI_e, if_neg (nI_nm1 (by omega))]
      have k6 : KP A S' (sI S' 406 (A 32) (nI K)) := KPL.wI (KPL.rf _ _ _ _ _) (by decide)
      have k6S := h.tr kS' k6
      have hNS : NS A V g (cw g p (gW g)) (qf g p (gW g)) D K (fun _ => 0) (sI S' 406 (A 32) (nI K)) := ⟨hS'.kp k6, ⟨hm, by rw [pI_n (by decide), kI _ _ (by decide)]; exact e405, fun i hi => ⟨(qf_ok _ i hi).1, by rw [pA_sI, kA _ _ (by decide)]; exact e33 i hi⟩, fun w hw => ⟨Nat.zero_le _, by rw [pA_sI, kA _ _ (by decide)]; exact e34 w (by omega)⟩⟩, pI_e .., hne⟩
      refine w_p52 (n := n) hn hD (by omega) (cw g p (gW g)) 0 (fun _ => 0) n _ _ _ (by omega) (by omega) hNS f1 (fun S2 a b1 b2 b3 b4 b5 => ?_)
      obtain ⟨t', b5⟩ := b5
      refine hQ S2 (h.tr k6S (b4.mono (by simp) (by simp) (by decide))) ⟨⟨b5.2.1.2.1, fun i hi => (b5.2.1.2.2.1 i hi).2⟩, Or.inr ⟨K, a, ⟨f1, f2, fun M hM hF => ?_, b1⟩, b5.2.2.1, fun i hi => b2 i (Nat.zero_le _) hi⟩⟩
      have := f3 M (by omega) hF (fun z => by
        subst z
        obtain ⟨x, ex⟩ : ∃ x, cw g p (gW g) = x + 1 := ⟨cw g p (gW g) - 1, by omega⟩
        rw [ex] at hF
        obtain ⟨w, hw, _⟩ := hF
        omega)
      omega
    · rw [if_neg e, if_pos rfl]
      unfold pb_X4_pack_37
      rw [pI_e, if_pos rfl]
      have k6 : KP A S' (sI S' 406 (A 32) (-1)) := KPL.wI (KPL.rf _ _ _ _ _) (by decide)
      refine hQ _ (h.tr kS' k6) ⟨⟨by rw [pI_n (by decide), kI _ _ (by decide)]; exact e405, fun i hi => by rw [pA_sI, kA _ _ (by decide)]; exact e33 i hi⟩, Or.inl ⟨fun hF => e ((rch_fb (K := cw g p (gW g)) hD hm hv hR (fun _ _ => Nat.zero_le _)).mpr hF), pI_e ..⟩⟩
end
