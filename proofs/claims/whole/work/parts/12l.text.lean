/-! PURE PART: text, both sides -/
set_option maxRecDepth 100000 in
theorem en_X7_text {N : Nat} {x y : Nat × Nat × Nat} (S : ST) : f_X7_text (N, x) S = f_X7_text (N, y) S := rfl
theorem RK.low {S T : ST} {nt t k n o : Nat} {f : Nat → Nat × Nat} (h : RK S t k n o f) (ht : t < nt) (hk : k < 3) (h57 : ∀ j, j < 480 * nt → gI T 57 0 j = gI S 57 0 j ∧ gI T 58 0 j = gI S 58 0 j) (h59 : ∀ j, j < 3 * nt → gI T 59 0 j = gI S 59 0 j)
    (h3 : ∀ j, gI T 31 t j = gI S 31 t j ∧ gI T 32 t j = gI S 32 t j ∧ gL T 31 t j = gL S 31 t j) : RK T t k n o f := by
  obtain ⟨hn, ok, m1, c1, c2, ⟨L, l1, l2, l3⟩, hs⟩ := h
  exact ⟨hn, ok, (h59 _ (by omega)).trans m1, ((h3 _).2.1).trans c1, ((h3 _).2.1).trans c2, ⟨L, l1, l2, ((h3 _).2.2).trans l3⟩, fun i hi => ⟨((h3 _).1).trans (hs i hi).1, ((h57 _ (by omega)).1).trans (hs i hi).2.1, ((h57 _ (by omega)).2).trans (hs i hi).2.2⟩⟩
theorem rvS_low {S T : ST} {nt t key o : Nat} (h : RK S t key (nN S t key) o (fN S t key)) (ht : t < nt) (hk : key < 3) (h57 : ∀ j, j < 480 * nt → gI T 57 0 j = gI S 57 0 j ∧ gI T 58 0 j = gI S 58 0 j) (h59 : ∀ j, j < 3 * nt → gI T 59 0 j = gI S 59 0 j) (st g w so m : Nat) : rvS T t key st g w so m = rvS S t key st g w so m := by
  have hn := h.1
  have ok := h.2.1
  have e1 : nN T t key = nN S t key := by
    unfold nN
    rw [h59 _ (by omega)]
  unfold rvS
  rw [e1]
  unfold rv
  by_cases z : key = 0 ∧ st = 4
  · rw [if_pos z, if_pos z]
  · rw [if_neg z, if_neg z]
    unfold evN
    rw [evF_cong (fc := fcI st g w so m) (fd := fcI st g w so m) (f := fN S t key) (g := fN T t key) (n := nN S t key) (fun _ _ => rfl) (fun i hi => by
      unfold fN
      rw [(h57 _ (by omega)).1, (h57 _ (by omega)).2]) (fun i hi => (ok.1 i hi).2.2.1) _ (Nat.le_refl _)]
def wJt : List (Nat × Nat) := [(2, 4), (2, 7), (30, 0), (31, 0), (32, 0), (4, 0), (8, 2), (8, 3), (8, 4), (8, 5), (8, 6), (8, 7), (8, 9), (9, 0), (14, 0), (1, 7), (1, 9), (1, 10), (1, 11), (1, 12), (1, 13), (1, 14), (1, 15), (1, 16), (57, 0), (58, 0), (59, 0), (60, 0)]
theorem REL.text {E : EN} {S T : ST} {nt : Nat} (h : REL E S) (hnt : E.2.2.1 ≤ nt) (hle : nt ≤ 6) (F : Fm wJt S T) (h57 : ∀ j, j < 480 * E.2.2.1 → gI T 57 0 j = gI S 57 0 j ∧ gI T 58 0 j = gI S 58 0 j) (h59 : ∀ j, j < 3 * E.2.2.1 → gI T 59 0 j = gI S 59 0 j)
    (h3 : ∀ t j, t < E.2.2.1 → gI T 31 t j = gI S 31 t j ∧ gI T 32 t j = gI S 32 t j ∧ gL T 31 t j = gL S 31 t j) (h6 : gI T 2 0 6 = nI 0) (h8 : gI T 1 0 8 = nI 0) (h23 : gI T 2 0 3 = nI nt) (h16 : gI T 1 0 6 = nI nt) (h4 : ∀ j, gR T 4 0 j = if j < nt then some j else none)
    (hnew : ∀ t k, E.2.2.1 ≤ t → t < nt → k < 3 → ∃ (n o : Nat) (f : Nat → Nat × Nat), RK T t k n o f) : REL (E.1, E.2.1, nt, E.2.2.2) T := by
  obtain ⟨hP, hS, hI, hT, hR, hC, t, hU⟩ := id h
  obtain ⟨r1, r2, r3, r4, r5, r6⟩ := id hR
  refine ⟨RP.keep (E := (E.1, E.2.1, nt, E.2.2.2)) hP (F.ag rfl), hS.keep (F.ag rfl), ?_, ⟨0, by omega, h6, h8, fun j hj => absurd hj (by omega)⟩, ⟨Nat.le_trans r1 hnt, hle, h23, h16, h4, fun t k ht hk => ?_⟩, ?_, t, Nat.lt_of_lt_of_le hU.1 hnt, (F.I rfl).trans hU.2.1, (F.I rfl).trans hU.2.2⟩
  · rcases hI.keep (F.ag rfl) with ⟨h1, h2⟩ | ⟨h1, h2, n, t, h3, h4, h5⟩
    · exact Or.inl ⟨h1, h2⟩
    · exact Or.inr ⟨h1, h2, n, t, h3, Nat.lt_of_lt_of_le h4 hnt, h5⟩
  · by_cases z : t < E.2.2.1
    · obtain ⟨n, o, f, q⟩ := r6 t k z hk
      exact ⟨n, o, f, q.low z hk h57 h59 (fun j => h3 t j z)⟩
    · exact hnew t k (by omega) ht hk
  · rcases hC with ⟨h1, h2⟩ | ⟨t, so, c1, c2, c3, c4, c5, c6⟩
    · exact Or.inl ⟨(F.I rfl).trans h1, (F.R rfl).trans h2⟩
    · refine Or.inr ⟨t, so, Nat.lt_of_lt_of_le c1 hnt, c2, (F.R rfl).trans c3, (F.I rfl).trans c4, (F.I rfl).trans c5, fun key m w g st q1 q2 q3 q4 q5 => ?_⟩
      obtain ⟨o, hk⟩ := hR.rk c1 q1
      rw [rvS_low hk c1 q1 h57 h59, F.I rfl]
      exact c6 key m w g st q1 q2 q3 q4 q5
theorem texC_F {S : ST} {j : Nat} {g : Nat → Int32} {L : Nat} : Fm [(30, 0), (31, 0), (32, 0)] S (texC S j g L) := fun K i j' hw => texC_o K i (by
  have h1 : K ≠ 30 := by intro e; subst e; simp [wq] at hw
  have h2 : K ≠ 31 := by intro e; subst e; simp [wq] at hw
  have h3 : K ≠ 32 := by intro e; subst e; simp [wq] at hw
  omega) |> fun h => ⟨congrFun h.1 j', congrFun h.2.1 j', congrFun h.2.2 j'⟩
/-- a new text's part -/
theorem RK.new {S T : ST} {bc len t k L : Nat} (h : PDt S T bc len t k) (h1 : ∀ j, gI T 31 t j = gI S 9 0 j) (h2 : ∀ j, gI T 32 t j = gI S 14 0 j) (h3 : gL T 31 t 0 = lN L) (hL : L ≤ 160) (hb : bc + len ≤ L) (hn : gI S 14 0 (k + 1) = nI (bc + len)) : ∃ (n o : Nat) (f : Nat → Nat × Nat), RK T t k n o f := by
  obtain ⟨f, g1, g2, g3, g4, g5⟩ := h
  exact ⟨len, bc, f, g1, g2, g3, (h2 k).trans g4, (h2 _).trans hn, ⟨L, hL, hb, h3⟩, fun i hi => ⟨(h1 _).trans (g5 i hi).1, (g5 i hi).2.1, (g5 i hi).2.2⟩⟩
theorem j_bytes {S : ST} (h : RT S) : ∃ (n : Nat) (By : Nat → Nat), n ≤ 160 ∧ gI S 2 0 6 = nI n ∧ (∀ j, j < n → By j < 256 ∧ gI S 5 0 j = sgn (By j)) ∧ BM By n S := by
  obtain ⟨n, n160, t1, t2, t3⟩ := h
  have hb : ∀ j, j < n → (gI S 56 0 j).toNatClampNeg < 256 ∧ gI S 5 0 j = sgn (gI S 56 0 j).toNatClampNeg ∧ gI S 56 0 j = nI (gI S 56 0 j).toNatClampNeg := fun j hj => by
    obtain ⟨b, b1, b2, b3⟩ := t3 j hj
    rw [b2, q_cl (by omega)]
    exact ⟨b1, b3, rfl⟩
  exact ⟨n, fun j => (gI S 56 0 j).toNatClampNeg, n160, t1, fun j hj => ⟨(hb j hj).1, (hb j hj).2.1⟩, n160, t2, fun j hj => ⟨(hb j hj).1, (hb j hj).2.2⟩⟩
theorem j_textS {E : EN} {S : ST} (hN : 20300 ≤ E.1) (h : REL E S) : gI S 2 0 3 = nI E.2.2.1 ∧ E.2.2.1 ≤ 6 ∧ (∀ j x, S.2.2 4 0 j = some x → x < E.2.2.1) ∧ (∀ x, S.2.2 10 0 0 = some x → x < E.2.2.1) ∧
    (E.2.2.1 < 6 → ∀ f S1, f_X3_read E S (gI S 2 0 6) = some (f, S1) → f < 0 → ∃ L, L ≤ 160 ∧ gI S1 8 0 8 = nI L) := by
  obtain ⟨hP, hS, hI, hT, hR, hC, t, hU⟩ := id h
  obtain ⟨r1, r2, r3, r4, r5, r6⟩ := id hR
  refine ⟨r3, r2, fun j x hx => ?_, fun x hx => ?_, fun hlt f S1 e hf => ?_⟩
  · have e : S.2.2 4 0 j = if j < E.2.2.1 then some j else none := r5 j
    rw [e] at hx
    by_cases z : j < E.2.2.1
    · rw [if_pos z] at hx
      cases hx
      exact z
    · rw [if_neg z] at hx
      cases hx
  · rcases hC with ⟨-, h2⟩ | ⟨t, so, c1, c2, c3, -⟩
    · have h2 : S.2.2 10 0 0 = none := h2
      rw [h2] at hx
      cases hx
    · have c3 : S.2.2 10 0 0 = some t := c3
      rw [c3] at hx
      cases hx
      exact c1
  · obtain ⟨n, By, n160, t1, hB, hM⟩ := j_bytes hT
    rw [t1] at e
    rcases s_readText (E := E) (B := By) (n := n) (t := E.2.2.1) (S := S) (T := S) (by omega) n160 hB hM hlt r4 with ⟨f', S1', T1, hf', e1, -⟩ | ⟨l0, l1, l2, S1', T1, e1, -, -, -, -, -, -, b5, b6, -⟩
    · have := (Prod.mk.inj (Option.some.inj (e.symm.trans e1))).1
      rw [this] at hf
      exact absurd hf (q_n0 (by omega))
    · have := (Prod.mk.inj (Option.some.inj (e.symm.trans e1))).2
      rw [this]
      exact ⟨_, b5, b6⟩
theorem j_text {E : EN} {S : ST} (hN : 20300 ≤ E.1) (h : REL E S) : ∃ (r : Int32) (EE : EN) (S1 S2 : ST), tex6 E S = some (r, EE, S1) ∧ f_X7_text EE S1 = some (r, S2) ∧ REL EE S2 ∧ EE.1 = E.1 ∧ EE.2.1 = E.2.1 ∧ EE.2.2.2 = E.2.2.2 := by
  obtain ⟨hP, hS, hI, hT, hR, hC, t, hU⟩ := id h
  obtain ⟨r1, r2, r3, r4, r5, r6⟩ := id hR
  by_cases z : E.2.2.1 = 6
  · refine ⟨-4, E, S, S, ?_, ?_, h, rfl, rfl, rfl⟩
    · unfold tex6
      rw [if_neg (by rw [r3, z]; decide)]
    · unfold f_X7_text
      rw [if_pos (by rw [r4, z]; rfl)]
  have hlt : E.2.2.1 < 6 := by omega
  obtain ⟨n, By, n160, t1, hB, hM⟩ := j_bytes hT
  have c0 : gI S 2 0 3 < 6 := by
    rw [r3, q_ltR 6 (by decide) (by omega)]
    exact hlt
  rcases s_readText (E := E) (B := By) (n := n) (t := E.2.2.1) (S := S) (T := S) (by omega) n160 hB hM hlt r4 with ⟨f, S1, T1, hf, e1, F1, -⟩ | ⟨l0, l1, l2, S1, T1, e1, F1, -, -, -, -, -, b5, b6, -⟩
  · have F3 : Fm wJt S (sI S1 2 0 6 0) := (F1.mono rfl).sI rfl rfl
    have F13 : Fm (wRd ++ [(2, 7)]) S (sI S1 2 0 6 0) := (F1.mono rfl).sI rfl rfl
    have h26 : gI (sI S1 2 0 6 0) 2 0 6 = nI 0 := gI_same _ _ _ _ _
    have ht : tex6 E S = some (-100 - nI f, E, sI S1 2 0 6 0) := by
      unfold tex6
      rw [if_pos c0, t1, bd2_some e1]
      unfold tex6b
      rw [if_neg (q_n0 (by omega))]
    generalize sI S1 2 0 6 0 = S3 at F3 F13 h26 ht
    rcases s_readText (E := E) (B := By) (n := n) (t := E.2.2.1) (S := S) (T := S3) (by omega) n160 hB (hM.keep (F13.ag rfl)) hlt ((F13.I rfl).trans r4) with ⟨f', S1', T2, hf', e1', -, e2, F2, g8, g6, LW⟩ | ⟨_, _, _, _, _, e1', -⟩
    · have ef := (Prod.mk.inj (Option.some.inj (e1.symm.trans e1'))).1
      refine ⟨-100 - nI f, E, S3, T2, ht, by rw [e2, ← ef], ?_, rfl, rfl, rfl⟩
      have F : Fm wJt S T2 := F3.trans (F2.mono rfl)
      exact h.text (nt := E.2.2.1) (Nat.le_refl _) r2 F (fun j hj => ⟨((LW.1 j hj).1).trans (F13.I rfl), ((LW.1 j hj).2).trans (F13.I rfl)⟩) (fun j hj => (LW.2 j hj).trans (F13.I rfl)) (fun t j ht => ⟨(F2.I rfl).trans (F13.I rfl), (F2.I rfl).trans (F13.I rfl), (F2.L rfl).trans (F13.L rfl)⟩) ((F2.I rfl).trans h26) g8 ((F2.I rfl).trans ((F13.I rfl).trans r3)) g6 (fun j => (F2.R rfl).trans ((F13.R rfl).trans (r5 j))) (fun t k h1 h2 _ => absurd h1 (by omega))
    · have ef := (Prod.mk.inj (Option.some.inj (e1.symm.trans e1'))).1
      exact absurd (show nI f < 0 from by rw [ef]; decide) (q_n0 (by omega))
  · have e8 : gI (sI S1 2 0 6 0) 8 0 8 = nI (l0 + l1 + l2) := by
      rw [gI_ne (by omega)]
      exact b6
    have e3 : gI (sI S1 2 0 6 0) 2 0 3 = nI E.2.2.1 := by
      rw [gI_ne (by omega), F1.I rfl]
      exact r3
    have ht : tex6 E S = some (nI E.2.2.1, (E.1, E.2.1, E.2.2.1 + 1, E.2.2.2), sI (sR (texC (sI S1 2 0 6 0) E.2.2.1 ((sI S1 2 0 6 0).1 9 0) (l0 + l1 + l2)) 4 0 E.2.2.1 (some E.2.2.1)) 2 0 3 (nI (E.2.2.1 + 1))) := by
      unfold tex6
      rw [if_pos c0, t1, bd2_some e1]
      unfold tex6b
      rw [if_pos (by decide), e8, q_cl (by omega), e3, nI_1, gI_same, nI_pred]
    have F3 : Fm [(2, 7)] S1 (sI S1 2 0 6 0) := Fm.rf.sI rfl rfl
    have F34 : Fm [(2, 4), (4, 0), (30, 0), (31, 0), (32, 0)] (sI S1 2 0 6 0) (sI (sR (texC (sI S1 2 0 6 0) E.2.2.1 ((sI S1 2 0 6 0).1 9 0) (l0 + l1 + l2)) 4 0 E.2.2.1 (some E.2.2.1)) 2 0 3 (nI (E.2.2.1 + 1))) := ((texC_F.mono rfl).sR rfl rfl).sI rfl rfl
    have x31 : ∀ j, gI (sI (sR (texC (sI S1 2 0 6 0) E.2.2.1 ((sI S1 2 0 6 0).1 9 0) (l0 + l1 + l2)) 4 0 E.2.2.1 (some E.2.2.1)) 2 0 3 (nI (E.2.2.1 + 1))) 31 E.2.2.1 j = gI S1 9 0 j := fun j => by
      rw [gI_ne (by omega), gI_sR]
      refine (congrFun texC_1 j).trans ?_
      exact F3.I rfl
    have x32 : ∀ j, gI (sI (sR (texC (sI S1 2 0 6 0) E.2.2.1 ((sI S1 2 0 6 0).1 9 0) (l0 + l1 + l2)) 4 0 E.2.2.1 (some E.2.2.1)) 2 0 3 (nI (E.2.2.1 + 1))) 32 E.2.2.1 j = gI S1 14 0 j := fun j => by
      rw [gI_ne (by omega), gI_sR]
      refine (congrFun texC_2 j).trans ?_
      exact F3.I rfl
    have xL : gL (sI (sR (texC (sI S1 2 0 6 0) E.2.2.1 ((sI S1 2 0 6 0).1 9 0) (l0 + l1 + l2)) 4 0 E.2.2.1 (some E.2.2.1)) 2 0 3 (nI (E.2.2.1 + 1))) 31 E.2.2.1 0 = lN (l0 + l1 + l2) := congrFun (texC_L (S := sI S1 2 0 6 0) (j := E.2.2.1)) 0
    have xo : ∀ t j, t < E.2.2.1 → gI (sI (sR (texC (sI S1 2 0 6 0) E.2.2.1 ((sI S1 2 0 6 0).1 9 0) (l0 + l1 + l2)) 4 0 E.2.2.1 (some E.2.2.1)) 2 0 3 (nI (E.2.2.1 + 1))) 31 t j = gI S1 31 t j ∧ gI (sI (sR (texC (sI S1 2 0 6 0) E.2.2.1 ((sI S1 2 0 6 0).1 9 0) (l0 + l1 + l2)) 4 0 E.2.2.1 (some E.2.2.1)) 2 0 3 (nI (E.2.2.1 + 1))) 32 t j = gI S1 32 t j ∧ gL (sI (sR (texC (sI S1 2 0 6 0) E.2.2.1 ((sI S1 2 0 6 0).1 9 0) (l0 + l1 + l2)) 4 0 E.2.2.1 (some E.2.2.1)) 2 0 3 (nI (E.2.2.1 + 1))) 31 t j = gL S1 31 t j := fun t j ht => by
      refine ⟨?_, ?_, ?_⟩
      · rw [gI_ne (by omega), gI_sR]
        exact (congrFun (texC_o 31 t (by omega)).1 j).trans (F3.I rfl)
      · rw [gI_ne (by omega), gI_sR]
        exact (congrFun (texC_o 32 t (by omega)).1 j).trans (F3.I rfl)
      · exact (congrFun (texC_o 31 t (by omega)).2.1 j).trans (F3.L rfl)
    have x23 : gI (sI (sR (texC (sI S1 2 0 6 0) E.2.2.1 ((sI S1 2 0 6 0).1 9 0) (l0 + l1 + l2)) 4 0 E.2.2.1 (some E.2.2.1)) 2 0 3 (nI (E.2.2.1 + 1))) 2 0 3 = nI (E.2.2.1 + 1) := gI_same _ _ _ _ _
    have x26 : gI (sI (sR (texC (sI S1 2 0 6 0) E.2.2.1 ((sI S1 2 0 6 0).1 9 0) (l0 + l1 + l2)) 4 0 E.2.2.1 (some E.2.2.1)) 2 0 3 (nI (E.2.2.1 + 1))) 2 0 6 = nI 0 := (F34.I rfl).trans (gI_same _ _ _ _ _)
    have x4 : ∀ j, gR (sI (sR (texC (sI S1 2 0 6 0) E.2.2.1 ((sI S1 2 0 6 0).1 9 0) (l0 + l1 + l2)) 4 0 E.2.2.1 (some E.2.2.1)) 2 0 3 (nI (E.2.2.1 + 1))) 4 0 j = if j < E.2.2.1 + 1 then some j else none := fun j => by
      rw [gR_sI, gR_sR]
      by_cases z : j = E.2.2.1
      · rw [if_pos ⟨rfl, rfl, z⟩, if_pos (by omega), z]
      · rw [if_neg (by omega)]
        have e : gR (texC (sI S1 2 0 6 0) E.2.2.1 ((sI S1 2 0 6 0).1 9 0) (l0 + l1 + l2)) 4 0 j = gR S 4 0 j := (texC_F.R rfl).trans ((F3.R rfl).trans (F1.R rfl))
        rw [e, r5 j]
        by_cases y : j < E.2.2.1
        · rw [if_pos y, if_pos (by omega)]
        · rw [if_neg y, if_neg (by omega)]
    have F04 : Fm (wRd ++ [(2, 7), (2, 4), (4, 0), (30, 0), (31, 0), (32, 0)]) S (sI (sR (texC (sI S1 2 0 6 0) E.2.2.1 ((sI S1 2 0 6 0).1 9 0) (l0 + l1 + l2)) 4 0 E.2.2.1 (some E.2.2.1)) 2 0 3 (nI (E.2.2.1 + 1))) := ((F1.mono rfl).trans (F3.mono rfl)).trans (F34.mono rfl)
    generalize sI (sR (texC (sI S1 2 0 6 0) E.2.2.1 ((sI S1 2 0 6 0).1 9 0) (l0 + l1 + l2)) 4 0 E.2.2.1 (some E.2.2.1)) 2 0 3 (nI (E.2.2.1 + 1)) = S4 at ht x31 x32 xL xo x23 x26 x4 F04
    rcases s_readText (E := E) (B := By) (n := n) (t := E.2.2.1) (S := S) (T := S4) (by omega) n160 hB (hM.keep (F04.ag rfl)) hlt ((F04.I rfl).trans r4) with ⟨f', _, _, hf', e1', -⟩ | ⟨m0, m1, m2, S1', T2, e1', -, e2, F2, g8, g6, LW, b5', b6', b7, P0, P1, P2⟩
    · have ef := (Prod.mk.inj (Option.some.inj (e1.symm.trans e1'))).1
      exact absurd (show nI f' < 0 from by rw [← ef]; decide) (q_n0 (by omega))
    · have es := (Prod.mk.inj (Option.some.inj (e1.symm.trans e1'))).2
      rw [← es] at b6' b7 P0 P1 P2
      have eL : l0 + l1 + l2 = m0 + m1 + m2 := q_inj (by omega) (by omega) (b6.symm.trans b6')
      refine ⟨nI E.2.2.1, (E.1, E.2.1, E.2.2.1 + 1, E.2.2.2), S4, T2, ht, (en_X7_text (N := E.1) S4).trans e2, ?_, rfl, rfl, rfl⟩
      have F : Fm wJt S T2 := (F04.mono rfl).trans (F2.mono rfl)
      have u31 : ∀ j, gI T2 31 E.2.2.1 j = gI S1 9 0 j := fun j => (F2.I rfl).trans (x31 j)
      have u32 : ∀ j, gI T2 32 E.2.2.1 j = gI S1 14 0 j := fun j => (F2.I rfl).trans (x32 j)
      have uL : gL T2 31 E.2.2.1 0 = lN (l0 + l1 + l2) := (F2.L rfl).trans xL
      refine h.text (nt := E.2.2.1 + 1) (Nat.le_succ _) (by omega) F (fun j hj => ⟨((LW.1 j hj).1).trans (F04.I rfl), ((LW.1 j hj).2).trans (F04.I rfl)⟩) (fun j hj => (LW.2 j hj).trans (F04.I rfl)) (fun t j ht => ?_) ((F2.I rfl).trans x26) g8 ((F2.I rfl).trans x23) g6 (fun j => (F2.R rfl).trans (x4 j)) (fun t k h1 h2 hk => ?_)
      · obtain ⟨y1, y2, y3⟩ := xo t j ht
        exact ⟨((F2.I rfl).trans y1).trans (F1.I rfl), ((F2.I rfl).trans y2).trans (F1.I rfl), ((F2.L rfl).trans y3).trans (F1.L rfl)⟩
      · have et : t = E.2.2.1 := by omega
        subst et
        have s1 : gI S1 14 0 1 = nI m0 := by
          obtain ⟨_, _, _, _, q, _⟩ := P1
          exact q
        have s2 : gI S1 14 0 2 = nI (m0 + m1) := by
          obtain ⟨_, _, _, _, q, _⟩ := P2
          exact q
        match k, hk with
        | 0, _ => exact RK.new P0 u31 u32 uL (by omega) (by omega) (by rw [Nat.zero_add m0]; exact s1)
        | 1, _ => exact RK.new P1 u31 u32 uL (by omega) (by omega) s2
        | 2, _ => exact RK.new P2 u31 u32 uL (by omega) (by omega) b7
