theorem ob_39 (n xa ma : Nat) (hn : 20000 ≤ n) : OB_39 n xa ma (JJ xa ma) := by
  rintro S ⟨A, V, g, rfl, rfl, h⟩
  have h : JG A V g S := h
  obtain ⟨_, _, _, _, _, _, _, wk, im, ps, iw, is, b⟩ := h.hi
  have b : HB g A V S wk im ps iw is := b
  have hs := h.hi.hs
  have hV := hs.2.2.1
  have b2 := b.2.1
  have b4 := b.2.2.2.1
  have b5 := b.2.2.2.2.1
  refine ⟨200, 8000, by decide, by decide, _, _, sp_isWithin _ _ _ _ _, ?_⟩
  by_cases hm : im = 0
  · subst hm
    rw [b4, if_neg (show ¬ ((1 : Int32) ≤ nI 0 ∧ nI 0 ≤ 3) by decide), if_pos rfl]
    refine ⟨st0 S (A 60), ?_, h.st0.jj⟩
    unfold m_X12_restore
    rw [pI_n (by decide), b5, if_pos nI_0]
  · obtain ⟨x, rfl⟩ : ∃ x, im = x + 1 := ⟨im - 1, by omega⟩
    obtain ⟨c1, c2, c3, c4, c5, c6⟩ := b.2.2.2.2.2.2.2 x (by omega)
    have hPl : PLAY A V S (x + 1) := PLAY.gr0 hs (by omega) c1
    have q58 : pQ S (A 58) x = some (A (cP (x + 1))) := by
      rcases hs.2.2.2.2.2.2 x (by omega) with ⟨_, q, _⟩ | ⟨q, _⟩
      · exact q
      · exact absurd c1 q
    have last : SCO g A V S (x + 1) (iw x) (is x (iw x)) := c3.2.2 (iw x) (by omega)
    have hs1 : HS A V (sI S 1112 (A 0) (nI x)) := hs.eqv rfl rfl rfl rfl rfl
    have l1 : LAY A (sI S 1112 (A 0) (nI x)) := h.lay.eqv rfl rfl rfl rfl (fun a => pI_n (by decide))
    obtain ⟨S16, p1, p2, p3⟩ := x_pop n (h := x + 1) (k := iw x) hs1 l1 (PLAY.gr0 hs1 (by omega) c1) (by omega) (by rw [pI_n (by decide)]; exact c3.1) last.1
    have hs16 : HS A V S16 := hs.eqv p2.1 p2.2.1 p2.2.2.1 p2.2.2.2.1 p2.2.2.2.2.1
    have hsb : HS A V (sI S16 501 (A 56) 0) := hs.eqv p2.1 p2.2.1 p2.2.2.1 p2.2.2.2.1 p2.2.2.2.2.1
    have la : LAY A (sI (sI S 1112 (A 0) (nI x)) 501 (A (cP (x + 1))) (nI (iw x))) := h.lay.eqv rfl rfl rfl rfl (fun a => by rw [pI_n (by decide), pI_n (by decide)])
    have hR : pR S16 = pR S := p2.2.2.1
    have hN : pN S16 = pN S := p2.2.2.2.1
    have hQ : pQ S16 = pQ S := p2.2.2.2.2.1
    have e16 : pI S16 1112 (A 0) = nI x := by rw [c13_I la p2 (by decide) (by decide), pI_n (by decide), pI_e]
    have n56 : A (cP (x + 1)) ≠ A 56 := fun e => by
      have := hs.1 _ _ c1 (hV 56 (by decide)) e
      have := cP_big x
      omega
    have hx : ix (nI x) (pN S (A 58)) := by rw [h.lay.n58]; exact ix_nI (by omega) (by decide)
    have hcl : (nI x).toNatClampNeg = x := nI_clamp (by omega)
    rw [b4, if_pos (show (1 : Int32) ≤ nI (x + 1) ∧ nI (x + 1) ≤ 3 from by simp (disch := omega) only [LIT, ofN, nI_add, pk_mul, ixn, nI_clamp, nI_ltI, nI_leI, nI_eq, Nat.add_zero, Nat.zero_add, Nat.mul_zero, Nat.mul_one, Nat.reduceMul]; omega), if_neg (by decide), show nI (x + 1) - 1 = nI x from nI_pred .., pI_e, hcl]
    refine ⟨A 58, h.lay.r0_1110, hx, ?_⟩
    rw [q58, if_neg (by simp)]
    refine ⟨A 58, h.lay.r0_1110, hx, A (cP (x + 1)), q58, A 3, h.lay.r0_1101, A 13, h.lay.r3_701, S16, p1, A 56, by rw [hR]; exact h.lay.r0_1109, A 58, by rw [hR]; exact h.lay.r0_1110, by rw [e16, hN]; exact hx, A (cP (x + 1)), by rw [e16, hcl, hQ]; exact q58, 112, 992, by decide, by decide, ?_⟩
    unfold wp_X5_copyFrom
    refine w_cf n (g := g) (h := 0) (y := x + 1) (m := iw x) (ps := is x) h.gb (by decide) (by omega) (by omega) c2 (iw x) 0 n A V _ 112 992 _ (by omega) (by omega) hsb (hV 56 (by decide)) c1 ?_ (pI_e ..) (fun i hi => ?_) (fun i hi => by omega) (by omega) (by omega) (fun A2 V2 T t1 t2 t3 t4 => ?_)
    · rw [pI_sI, if_neg (fun z => n56 z.2), p2.2.2.2.2.2.1 _ _ (fun z => absurd z.1 (by decide)) (fun z => absurd z.1 (by decide)), pI_e]
    · have q : SCO g A V S (x + 1) i (is x i) := c3.2.2 i (by omega)
      have hsl := (hPl.sl (i := i) (by omega) q.1).2
      have q1 : SCO g A V (sI (sI S 1112 (A 0) (nI x)) 501 (A (cP (x + 1))) (nI (iw x))) (x + 1) i (is x i) := q.eq (fun f a hf => by rw [pI_n (by omega), pI_n (by omega)]) (fun _ _ _ => rfl)
      have q2 : SCO g A V S16 (x + 1) i (is x i) := q1.c13 hs.1 hV hsl p2
      exact q2.eq (fun f a hf => pI_n (by omega)) (fun _ _ _ => rfl)
    · exact restore_end hn h b p2 p3 t1 t2 t3 t4
