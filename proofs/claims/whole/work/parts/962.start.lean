/-! the constructors end in JJ -/
def MM : pq_S := mX12 (nO mX11 60 12) 61 60
theorem mm_R : ∀ e ∈ ly_R, e.1 < 92 ∧ e.2.2 < 92 ∧ pK MM e.1 < 13 ∧ pR MM e.2.1 e.1 = some e.2.2 := by decide +kernel
theorem mm_K : ∀ e ∈ ly_K, e.1 < 92 ∧ pK MM e.1 = e.2 := by decide +kernel
theorem mm_N : ∀ e ∈ ly_N, e.1 < 92 ∧ 13 ≤ pK MM e.1 ∧ pN MM e.1 = e.2 := by decide +kernel
theorem mm_W : ∀ e ∈ ly_W, e.1 < 92 ∧ pK MM e.1 < 13 ∧ pI MM 901 e.1 = e.2 := by decide +kernel
def mmI : List (Nat × Nat × Int32) := [(902, 40, 0), (902, 42, 0), (902, 44, 0), (902, 46, 0), (104, 39, 1), (105, 39, 3), (902, 5, 0), (902, 7, 0), (902, 9, 0), (902, 11, 0), (104, 4, 1), (105, 4, 3), (902, 14, 0), (902, 16, 0), (902, 18, 0), (803, 13, 0), (804, 13, 0), (203, 20, 0), (203, 24, 0), (1, 52, 0), (1113, 0, -1), (1208, 60, -1), (1115, 0, 0), (1116, 0, 0), (1114, 0, 0), (1001, 1, 0), (1202, 60, 0), (501, 56, 0), (1112, 0, 0)]
theorem mm_I : ∀ e ∈ mmI, e.2.1 < 92 ∧ pK MM e.2.1 < 13 ∧ pI MM e.1 e.2.1 = e.2.2 := by decide +kernel
theorem mm_A : (13 ≤ pK MM 53 ∧ ∀ p, p < 6 → pA MM 53 p = -1) ∧ 13 ≤ pK MM 61 ∧ pA MM 61 0 = 0 ∧ pA MM 61 1 = 0 := by decide +kernel
theorem mm_L : 13 ≤ pK MM 59 ∧ pA MM 59 0 = 0 ∧ pA MM 59 1 = 0 := by decide +kernel
theorem mmI_F : ∀ e ∈ mmI, e.2.1 < 92 ∧ e.1 ∉ [1218, 1219, 1220, 1221, 1222, 1223] ++ [1224, 1225, 1226, 1227, 1228, 1229, 1251, 1241, 1272, 1242] := by decide
def gz0 : GH := (fun k => if k = 4 then 1 else if k = 5 then 3 else 0, fun _ _ => 0, fun _ => 0)
theorem gbz0 : GB gz0 := ⟨by decide, fun i hi => absurd hi (Nat.not_lt_zero i), fun i hi => absurd hi (Nat.not_lt_zero i), fun i hi => absurd hi (Nat.not_lt_zero i), fun i hi => absurd hi (Nat.not_lt_zero i)⟩
section
variable {A : Nat → Nat} {V : Nat → Prop} {l : List Nat} {S T U : pq_S}
theorem mm_lay (r : REL l MM S) (hA : ∀ c, c < 92 → l[c]? = some (A c)) : LAY A S := by
  refine ⟨fun e he => ?_, fun e he => ?_, fun e he => ?_, fun e he => ?_, fun i j hi hj q => ?_⟩
  · obtain ⟨h1, h2, h3, h4⟩ := mm_R e he
    exact r.r (hA _ h1) (hA _ h2) h3 h4
  · obtain ⟨h1, h2⟩ := mm_K e he
    exact r.k (hA _ h1) h2
  · obtain ⟨h1, h2, h3⟩ := mm_N e he
    rw [((r.2.2.1 _ _ (hA _ h1)).2.2 h2).1]; exact h3
  · obtain ⟨h1, h2, h3⟩ := mm_W e he
    rw [((r.2.2.1 _ _ (hA _ h1)).2.1 h2).1]; exact h3
  · exact (r.ix (hA i hi) (hA j hj)).mp q
theorem jg_first {g : GH} (hs' : HS A V U) (lU : LAY A U) (hg : GB g) (cx : CX g U A) (cm : CM g U A) (sx : STX g U (A 13) (A 14) (A 16) (A 18) (A 15) (A 17) (A 19) (stF g)) (nw : ∀ i, i < 50 → pA U (A 80) i = stF g i) (a20 : pI U 203 (A 20) = 0) (a24 : pI U 203 (A 24) = 0) (c0 : pA U (A 75) 0 = 0) (c1 : pA U (A 75) 1 = 0) (b1 : pI U 1 (A 52) = 0) (b2 : pI U 1251 (A 60) = 0) (b3 : ∀ p, p < 6 → pA U (A 53) p = -1) (tp : TAPE U A) (w1 : pI U 501 (A 56) = 0) (w2 : pI U 1241 (A 60) = 0) (w3 : pI U 1112 (A 0) = 0) (w4 : pI U 1272 (A 60) = 0) (lk : LKR A U) : JG A V (gC1 g) U := by
  have hb := stF_sb hg
  refine ⟨⟨lU, hg, hb, cx, cm, sx, nw⟩, ?_, ?_, tp, ?_⟩
  · intro w hw
    have e : gLn (gC1 g) w = 0 := if_neg (by omega)
    rw [e]
    have : w = 0 ∨ w = 1 := by omega
    rcases this with rfl | rfl
    · exact ⟨by decide, a20, c0, fun k hk => by omega, fun q => absurd rfl q⟩
    · exact ⟨by decide, a24, c1, fun k hk => by omega, fun q => absurd rfl q⟩
  · refine ⟨⟨Nat.zero_le _, lk⟩, b1, b2, fun i hi => absurd hi (Nat.not_lt_zero i), fun i j hi => absurd hi (Nat.not_lt_zero i), fun p hp _ => b3 p hp⟩
  · exact hs'.mk (wk := 0) (im := 0) (ps := fun _ _ => 0) (iw := fun _ => 0) (is := fun _ _ _ => 0) ⟨by decide, by decide, w2, w3, w4, ⟨w1, by decide, fun i hi => absurd hi (Nat.not_lt_zero i)⟩, fun i j hi => absurd hi (Nat.not_lt_zero i), fun i hi => absurd hi (Nat.not_lt_zero i)⟩
theorem mm_hs (r : REL l MM S) (hA : ∀ c, c < 92 → l[c]? = some (A c)) : HS A (fun c => c < 92) S := by
  have lS := mm_lay r hA
  have n404 : pR S 404 (A 32) = none := by
    rw [((r.2.2.1 _ _ (hA 32 (by decide))).2.1 (by decide +kernel)).2, show pR MM 404 32 = none from by decide +kernel]; rfl
  have q57 : ∀ i, pQ S (A 57) i = none := fun i => by
    rw [((r.2.2.1 _ _ (hA 57 (by decide))).2.2 (by decide +kernel)).2.2 i, show pQ MM 57 i = none from rfl]; rfl
  have q58 : ∀ i, pQ S (A 58) i = none := fun i => by
    rw [((r.2.2.1 _ _ (hA 58 (by decide))).2.2 (by decide +kernel)).2.2 i, show pQ MM 58 i = none from rfl]; rfl
  refine ⟨fun c d hc hd q => (r.ix (hA c hc) (hA d hd)).mp q, fun c hc => (by rw [r.1]; exact rl_mem (hA c hc)), fun c hc => hc, fun c hc => Or.inl hc, fun x hx => (by rw [n404] at hx; cases hx), ⟨by decide, by decide, lS.k56, lS.k57, lS.r56_500, lS.n57, fun i hi => Or.inr ⟨fun q hq z => ?_, q57 i⟩⟩, fun h hh => Or.inr ⟨fun z => ?_, q58 h, fun c hc => ⟨fun z => ?_, fun i q hq hi z => ?_⟩⟩⟩
  · have := cS_big 0 i; omega
  · have : 100 ≤ cP (h + 1) := by unfold cP; rw [if_neg (by omega)]; omega
    omega
  · have : 100 ≤ cQ (h + 1) := by unfold cQ; rw [if_neg (by omega)]; omega
    omega
  · have := cS_big (h + 1) i; omega
theorem mm_iS (r : REL l MM S) (hA : ∀ c, c < 92 → l[c]? = some (A c)) : ∀ e ∈ mmI, pI S e.1 (A e.2.1) = e.2.2 := fun e he => by
  obtain ⟨h1, h2, h3⟩ := mm_I e he
  rw [((r.2.2.1 _ _ (hA _ h1)).2.1 h2).1]; exact h3
theorem mm_ci (i : ∀ e ∈ mmI, pI T e.1 (A e.2.1) = e.2.2) (e1 : pI T 1218 (A 60) = nI 0 ∧ pI T 1219 (A 60) = nI 0 ∧ pI T 1220 (A 60) = nI 0 ∧ pI T 1221 (A 60) = nI 0 ∧ pI T 1222 (A 60) = nI 1 ∧ pI T 1223 (A 60) = nI 3) : CI A gz0 T T := ⟨gbz0, ⟨i (902, 40, 0) (by decide), i (902, 42, 0) (by decide), i (902, 44, 0) (by decide), i (902, 46, 0) (by decide), i (104, 39, 1) (by decide), i (105, 39, 3) (by decide)⟩, e1, ⟨fun i hi => absurd hi (Nat.not_lt_zero i), fun i hi => absurd hi (Nat.not_lt_zero i), fun i hi => absurd hi (Nat.not_lt_zero i), fun i hi => absurd hi (Nat.not_lt_zero i)⟩, fun i hi => absurd hi (Nat.not_lt_zero i), fun i hi => absurd hi (Nat.not_lt_zero i), fun i hi => absurd hi (Nat.not_lt_zero i), fun i hi => absurd hi (Nat.not_lt_zero i)⟩
theorem mm_jg (hsU : HS A V U) (lU : LAY A U) (i : ∀ e ∈ mmI, pI U e.1 (A e.2.1) = e.2.2) (a53 : ∀ p, p < 6 → pA U (A 53) p = -1) (a0 : pA U (A 61) 0 = 0) (a1 : pA U (A 61) 1 = 0) (s3 : CM gz0 U A) (s4 : ∀ i, i < 50 → pA U (A 80) i = stF gz0 i) (s5 : pI U 1251 (A 60) = 0) (s6 : pI U 1241 (A 60) = 0) (s7 : pI U 1272 (A 60) = 0) (s8 : pI U 1242 (A 60) = 0) (s9 : pA U (A 75) 0 = 0) (s10 : pA U (A 75) 1 = 0) (lk : LKR A U) : JG A V (gC1 gz0) U := by
  refine jg_first (g := gz0) hsU lU gbz0 ⟨⟨i (902, 5, 0) (by decide), i (902, 7, 0) (by decide), i (902, 9, 0) (by decide), i (902, 11, 0) (by decide), i (104, 4, 1) (by decide), i (105, 4, 3) (by decide)⟩, fun i hi => absurd hi (Nat.not_lt_zero i), fun i hi => absurd hi (Nat.not_lt_zero i), fun i hi => absurd hi (Nat.not_lt_zero i), fun i hi => absurd hi (Nat.not_lt_zero i)⟩ s3 ⟨⟨i (902, 14, 0) (by decide), i (902, 16, 0) (by decide), i (902, 18, 0) (by decide), i (803, 13, 0) (by decide), i (804, 13, 0) (by decide)⟩, fun i hi => absurd hi (Nat.not_lt_zero i), fun i hi => absurd hi (Nat.not_lt_zero i), fun i hi => absurd hi (Nat.not_lt_zero i)⟩ s4 (i (203, 20, 0) (by decide)) (i (203, 24, 0) (by decide)) s9 s10 (i (1, 52, 0) (by decide)) s5 a53 ⟨?_, ?_, ?_, ?_, 0, by decide, i (1001, 1, 0) (by decide), i (1202, 60, 0) (by decide), fun i hi => absurd hi (Nat.not_lt_zero i)⟩ (i (501, 56, 0) (by decide)) s6 (i (1112, 0, 0) (by decide)) s7 lk
  · exact (i (1113, 0, -1) (by decide)).trans (i (1208, 60, -1) (by decide)).symm
  · exact (i (1115, 0, 0) (by decide)).trans a0.symm
  · exact (i (1116, 0, 0) (by decide)).trans a1.symm
  · exact (i (1114, 0, 0) (by decide)).trans s8.symm
theorem init_end {n : Nat} (hn : 20000 ≤ n) (r : REL l MM S) (hA : ∀ c, c < 92 → l[c]? = some (A c)) : ∃ S3, m_X12_clears n (A 60) S = some S3 ∧ ∃ S4, m_X12_sets n (A 60) S3 = some S4 ∧ JJ (A 0) (A 60) S4 := by
  have lS := mm_lay r hA
  have hsS := mm_hs r hA
  have iS := mm_iS r hA
  have k3 : FX [1218, 1219, 1220, 1221, 1222, 1223] [] [] A S (sI (sI (sI (sI (sI (sI S 1218 (A 60) 0) 1219 (A 60) 0) 1220 (A 60) 0) 1221 (A 60) 0) 1222 (A 60) 1) 1223 (A 60) 3) := ((((((FX.rf _ _ _ _ _).wI (by decide)).wI (by decide)).wI (by decide)).wI (by decide)).wI (by decide)).wI (by decide)
  refine ⟨sI (sI (sI (sI (sI (sI S 1218 (A 60) 0) 1219 (A 60) 0) 1220 (A 60) 0) 1221 (A 60) 0) 1222 (A 60) 1) 1223 (A 60) 3, rfl, ?_⟩
  have lT := k3.lay lS (by decide) (by decide)
  have hC := mm_ci (T := sI (sI (sI (sI (sI (sI S 1218 (A 60) 0) 1219 (A 60) 0) 1220 (A 60) 0) 1221 (A 60) 0) 1222 (A 60) 1) 1223 (A 60) 3) (A := A) (fun e he => by
    have h := mmI_F e he
    rw [k3.I lS (fun z => h.2 (List.mem_append_left _ z)) h.1 (by simp)]; exact iS e he) (by
    refine ⟨?_, ?_, ?_, ?_, ?_, ?_⟩
    · rw [pI_n (by decide), pI_n (by decide), pI_n (by decide), pI_n (by decide), pI_n (by decide), pI_e]; rfl
    · rw [pI_n (by decide), pI_n (by decide), pI_n (by decide), pI_n (by decide), pI_e]; rfl
    · rw [pI_n (by decide), pI_n (by decide), pI_n (by decide), pI_e]; rfl
    · rw [pI_n (by decide), pI_n (by decide), pI_e]; rfl
    · rw [pI_n (by decide), pI_e]; rfl
    · rw [pI_e]; rfl)
  obtain ⟨U, s1, s2, s3, s4, ⟨s5, s6, s7, s8⟩, s9, s10⟩ := r_setsA (n := n) hn lT hC
  refine ⟨U, s1, ?_⟩
  have kU : FX ([1218, 1219, 1220, 1221, 1222, 1223] ++ FsL) [] AsL A S U := (k3.mono (by decide) (by decide) (by decide)).tr (s2.mono (by decide) (by decide) (by decide))
  have lU := kU.lay lS (by decide) (by decide)
  have hsU : HS A (fun c => c < 92) U := hsS.eqv kU.1.1 kU.1.2.1 kU.1.2.2.1 kU.1.2.2.2.1 kU.1.2.2.2.2
  have m := mm_A
  have a59 : ∀ i, pA U (A 59) i = pA MM 59 i := fun i => by rw [kU.W lS (by decide) (by decide)]; exact ((r.2.2.1 _ _ (hA 59 (by decide))).2.2 mm_L.1).2.1 i
  have a61 : ∀ i, pA U (A 61) i = pA MM 61 i := fun i => by rw [kU.W lS (by decide) (by decide)]; exact ((r.2.2.1 _ _ (hA 61 (by decide))).2.2 m.2.1).2.1 i
  exact (mm_jg hsU lU (fun e he => by
    have h := mmI_F e he
    rw [kU.I lS h.2 h.1 (by simp)]; exact iS e he) (fun p hp => by
    rw [kU.W lS (by decide) (by decide), ((r.2.2.1 _ _ (hA 53 (by decide))).2.2 m.1.1).2.1]; exact m.1.2 p hp) ((a61 0).trans m.2.2.1) ((a61 1).trans m.2.2.2) s3 s4 s5 s6 s7 s8 s9 s10 ⟨(a59 0).trans mm_L.2.1, (a59 1).trans mm_L.2.2⟩).jj
theorem init_all (n : Nat) (hn : 20000 ≤ n) (xa : Nat) : wp_X11_init n xa (nO S00 xa 11) 400 10000 (fun S1 => ∀ ma, ma ∉ pL S1 → wp_X12_init n ma (nO S1 ma 12) 400 15000 (fun S2 => JJ xa ma S2)) := by
  refine i_X11 hn (fun l S r h0 ma hma => ?_)
  obtain ⟨l, r, hm, kp⟩ := r.o (k := 12) (by decide) hma
  have h0 := kp _ _ h0
  refine i_X12 hn r hm (fun l S r kp => ?_)
  have h0 := kp _ _ h0
  have hm := kp _ _ hm
  have hl : l.length = 92 := r.2
  have rr : REL l MM S := r.1
  obtain ⟨A, hA⟩ : ∃ A : Nat → Nat, ∀ c, c < 92 → l[c]? = some (A c) := ⟨fun c => (l[c]?).getD 0, fun c hc => by
    show l[c]? = some ((l[c]?).getD 0)
    rw [List.getElem?_eq_getElem (show c < l.length by omega)]; rfl⟩
  obtain rfl : A 0 = xa := Option.some.inj ((hA 0 (by decide)).symm.trans h0)
  obtain rfl : A 60 = ma := Option.some.inj ((hA 60 (by decide)).symm.trans hm)
  exact init_end hn rr hA
end
