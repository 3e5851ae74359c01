/-! PURE PART: image, back -/
def kpS (S : ST) (i : Nat) : ST := aI (sI S 20 i 5 (gI S 20 i 3)) 22 i (va_cpy (S.1 21 i) (S.1 22 i) 0 0 5)
def imC (S : ST) : Nat → ST
  | 0 => S
  | k + 1 => kpS (imC S k) k
def lyS (S : ST) (i : Nat) : ST := aI (sI S 20 i 3 (gI S 20 i 5)) 21 i (va_cpy (S.1 22 i) (S.1 21 i) 0 0 5)
def bkC (S : ST) : Nat → ST
  | 0 => S
  | k + 1 => lyS (bkC S k) k
theorem s_keep {E : EN} {S : ST} {i : Nat} : f_X2_keep E i S = some (kpS S i) := rfl
theorem s_lay {E : EN} {S : ST} {i : Nat} : f_X2_lay E i S = some (lyS S i) := rfl
theorem gI_kpS (S : ST) (i K p j : Nat) : gI (kpS S i) K p j = if K = 22 ∧ p = i ∧ j < 5 then gI S 21 i j else if K = 20 ∧ p = i ∧ j = 5 then gI S 20 i 3 else gI S K p j := by
  unfold kpS
  rw [gI_aI]
  by_cases h : K = 22 ∧ p = i
  · obtain ⟨rfl, rfl⟩ := h
    rw [if_pos ⟨rfl, rfl⟩]
    unfold va_cpy
    by_cases z : j < 5
    · rw [if_pos (by omega), if_pos ⟨rfl, rfl, z⟩]
      show S.1 21 p (0 + (j - 0)) = S.1 21 p j
      rw [Nat.zero_add, Nat.sub_zero]
    · rw [if_neg (by omega), if_neg (by omega), if_neg (by omega)]
      rfl
  · rw [if_neg h, if_neg (by omega), gI_sI]
theorem gI_lyS (S : ST) (i K p j : Nat) : gI (lyS S i) K p j = if K = 21 ∧ p = i ∧ j < 5 then gI S 22 i j else if K = 20 ∧ p = i ∧ j = 3 then gI S 20 i 5 else gI S K p j := by
  unfold lyS
  rw [gI_aI]
  by_cases h : K = 21 ∧ p = i
  · obtain ⟨rfl, rfl⟩ := h
    rw [if_pos ⟨rfl, rfl⟩]
    unfold va_cpy
    by_cases z : j < 5
    · rw [if_pos (by omega), if_pos ⟨rfl, rfl, z⟩]
      show S.1 22 p (0 + (j - 0)) = S.1 22 p j
      rw [Nat.zero_add, Nat.sub_zero]
    · rw [if_neg (by omega), if_neg (by omega), if_neg (by omega)]
      rfl
  · rw [if_neg h, if_neg (by omega), gI_sI]
theorem imC_F (S : ST) : ∀ k, Fm [(20, 6), (22, 0)] S (imC S k)
  | 0 => Fm.rf
  | k + 1 => ((imC_F S k).sI rfl rfl).aI rfl rfl
theorem bkC_F (S : ST) : ∀ k, Fm [(20, 4), (21, 0)] S (bkC S k)
  | 0 => Fm.rf
  | k + 1 => ((bkC_F S k).sI rfl rfl).aI rfl rfl
theorem imC_v (S : ST) : ∀ k p, (p < k → gI (imC S k) 20 p 5 = gI S 20 p 3) ∧ ∀ s, s < 5 → p < k → gI (imC S k) 22 p s = gI S 21 p s
  | 0, p => ⟨fun h => absurd h (by omega), fun s _ h => absurd h (by omega)⟩
  | k + 1, p => by
    obtain ⟨i1, i2⟩ := imC_v S k p
    refine ⟨fun h => ?_, fun s hs h => ?_⟩
    · show gI (kpS _ _) _ _ _ = _
      rw [gI_kpS, if_neg (by omega)]
      by_cases z : p = k
      · rw [if_pos (by omega), (imC_F S k).I rfl, z]
      · rw [if_neg (by omega)]
        exact i1 (by omega)
    · show gI (kpS _ _) _ _ _ = _
      rw [gI_kpS]
      by_cases z : p = k
      · rw [if_pos (by omega), (imC_F S k).I rfl, z]
      · rw [if_neg (by omega), if_neg (by omega)]
        exact i2 s hs (by omega)
theorem bkC_v (S : ST) : ∀ k p, (gI (bkC S k) 20 p 3 = if p < k then gI S 20 p 5 else gI S 20 p 3) ∧ ∀ s, s < 5 → gI (bkC S k) 21 p s = if p < k then gI S 22 p s else gI S 21 p s
  | 0, p => ⟨by rw [if_neg (by omega)]; rfl, fun s _ => by rw [if_neg (by omega)]; rfl⟩
  | k + 1, p => by
    obtain ⟨i1, i2⟩ := bkC_v S k p
    refine ⟨?_, fun s hs => ?_⟩
    · show gI (lyS _ _) _ _ _ = _
      rw [gI_lyS, if_neg (by omega)]
      by_cases z : p = k
      · rw [if_pos (by omega), if_pos (by omega), (bkC_F S k).I rfl, z]
      · rw [if_neg (by omega), i1]
        by_cases y : p < k
        · rw [if_pos y, if_pos (by omega)]
        · rw [if_neg y, if_neg (by omega)]
    · show gI (lyS _ _) _ _ _ = _
      rw [gI_lyS]
      by_cases z : p = k
      · rw [if_pos (by omega), if_pos (by omega), (bkC_F S k).I rfl, z]
      · rw [if_neg (by omega), if_neg (by omega), i2 s hs]
        by_cases y : p < k
        · rw [if_pos y, if_pos (by omega)]
        · rw [if_neg y, if_neg (by omega)]
theorem k_image {E : EN} {S : ST} (hN : 50 ≤ E.1) (h : RP E S) {rl : Nat} (hrl : rl < E.2.2.1) (r3 : gI S 2 0 4 = nI rl) (r4 : gI S 1 0 7 = nI rl) : ∃ (r : Int32) (S1 S2 : ST), f_X6_image E S = some (r, S1) ∧ f_X7_image E S1 = some (r, S2) ∧ Fm [(20, 6), (22, 0), (2, 13), (2, 14), (2, 15), (1, 39), (1, 40), (1, 41), (81, 0), (82, 0)] S S2 ∧ RI E S2 := by
  obtain ⟨h8, hc, hm, hr, hp⟩ := id h
  have LC : f_X6_image E S = some (nI E.2.1, sI (sI (sI (imC S E.2.1) 2 0 12 1) 2 0 13 (nI E.2.1)) 2 0 14 (nI rl)) := by
    unfold f_X6_image
    refine lpN (σ := ST × Nat) (φ := fun m y => f_X6_image_b2 E m y.1 (nI y.2)) (T := fun k => (imC S k, k)) (N := E.2.1) (fun m k hk => ?_) (fun m => ?_) (by omega)
    · show g_X6_image_b2 E (f_X6_image_b2 E m) _ _ = _
      unfold g_X6_image_b2
      rw [(imC_F S k).I rfl, hc, if_neg (by rw [q_le (by omega) (by omega)]; omega), ck_in (ib_nI (by omega) (by decide)), q_cl (by omega)]
      simp only [lt_]
      rw [(imC_F S k).R rfl, hr, if_pos hk, nl_so, ck_in (decide_eq_true hk), bd_some s_keep, nI_1]
      rfl
    · show g_X6_image_b2 E (f_X6_image_b2 E m) _ _ = _
      unfold g_X6_image_b2 f_X6_image_b25
      simp only [lt_]
      have G := imC_F S E.2.1
      have g1 : gI (sI (imC S E.2.1) 2 0 12 1) 2 0 1 = nI E.2.1 := by rw [gI_sI, if_neg (by omega), G.I rfl, hc]
      rw [G.I rfl, hc, if_pos (by rw [q_le (by omega) (by omega)]; omega), g1]
      have g2 : gI (sI (sI (imC S E.2.1) 2 0 12 1) 2 0 13 (nI E.2.1)) 2 0 1 = nI E.2.1 := by rw [gI_sI, if_neg (by omega), g1]
      have g3 : gI (sI (sI (imC S E.2.1) 2 0 12 1) 2 0 13 (nI E.2.1)) 2 0 4 = nI rl := by rw [gI_sI, if_neg (by omega), gI_sI, if_neg (by omega), G.I rfl, r3]
      rw [g3, gI_sI, if_neg (by omega), g2]
  generalize hS1 : sI (sI (sI (imC S E.2.1) 2 0 12 1) 2 0 13 (nI E.2.1)) 2 0 14 (nI rl) = S1 at LC
  have F1 : Fm [(20, 6), (22, 0), (2, 13), (2, 14), (2, 15)] S S1 := hS1 ▸ (((((imC_F S E.2.1).mono rfl).sI rfl rfl).sI rfl rfl).sI rfl rfl)
  have LM : f_X7_image E S1 = some (nI E.2.1, flr (flr (sI (sI (sI S1 1 0 38 1) 1 0 39 (nI E.2.1)) 1 0 40 (nI rl)) 81 0 0 (fun k => gI S 45 0 k) 40) 82 0 0 (fun k => gI S 42 0 k) 8) := by
    unfold f_X7_image
    simp only [lt_]
    rw [gI_sI, if_neg (by omega), F1.I rfl, hm, gI_sI, if_neg (by omega), gI_sI, if_neg (by omega), F1.I rfl, r4]
    generalize hS2 : sI (sI (sI S1 1 0 38 1) 1 0 39 (nI E.2.1)) 1 0 40 (nI rl) = S2
    have F2 : Fm [(20, 6), (22, 0), (2, 13), (2, 14), (2, 15), (1, 39), (1, 40), (1, 41)] S S2 := hS2 ▸ ((((F1.mono rfl).sI rfl rfl).sI rfl rfl).sI rfl rfl)
    refine lpN (σ := ST × Nat) (φ := fun m y => f_X7_image_b23 E m y.1 (nI y.2)) (T := fun k => (flr S2 81 0 0 (fun k => gI S 45 0 k) k, k)) (N := 40) (fun m k hk => ?_) (fun m => ?_) (by omega)
    · show g_X7_image_b23 E (f_X7_image_b23 E m) _ _ = _
      unfold g_X7_image_b23
      rw [if_neg (by rw [q_leL 40 (by decide) (by omega)]; omega), ck_in (ib_nI (by omega) (by decide)), q_cl (by omega)]
      simp only [lt_]
      rw [gI_flr, if_neg (by omega), F2.I rfl, nI_1, flr_s, Nat.zero_add]
    · rw [show f_X7_image_b23 E (m + 1) = g_X7_image_b23 E (f_X7_image_b23 E m) from rfl]
      unfold g_X7_image_b23 f_X7_image_b47
      rw [if_pos (show (40 : Int32) ≤ nI 40 by decide)]
      dsimp only
      have F3 : Fm [(20, 6), (22, 0), (2, 13), (2, 14), (2, 15), (1, 39), (1, 40), (1, 41), (81, 0)] S (flr S2 81 0 0 (fun k => gI S 45 0 k) 40) := (F2.mono rfl).trans (flr_F _ _ _ _ _ (fun _ => rfl) _)
      generalize flr S2 81 0 0 (fun k => gI S 45 0 k) 40 = S3 at F3 ⊢
      refine lpN (σ := ST × Nat) (φ := fun m y => f_X7_image_b49 E m y.1 (nI y.2)) (T := fun k => (flr S3 82 0 0 (fun k => gI S 42 0 k) k, k)) (N := 8) (fun m k hk => ?_) (fun m => ?_) (by omega)
      · show g_X7_image_b49 E (f_X7_image_b49 E m) _ _ = _
        unfold g_X7_image_b49
        rw [if_neg (by rw [q_leL 8 (by decide) (by omega)]; omega), ck_in (ib_nI (by omega) (by decide)), q_cl (by omega)]
        simp only [lt_]
        rw [gI_flr, if_neg (by omega), F3.I rfl, nI_1, flr_s, Nat.zero_add]
      · rw [show f_X7_image_b49 E (m + 1) = g_X7_image_b49 E (f_X7_image_b49 E m) from rfl]
        unfold g_X7_image_b49 f_X7_image_b73
        rw [if_pos (show (8 : Int32) ≤ nI 8 by decide)]
        dsimp only
        rw [gI_flr, if_neg (by omega), F3.I rfl, hm]
  refine ⟨_, _, _, LC, LM, (flr_F _ _ _ _ _ (fun _ => rfl) _).trans Fm.rf |> fun G => ((((((F1.mono rfl).sI rfl rfl).sI rfl rfl).sI rfl rfl).trans (flr_F _ _ _ _ _ (fun _ => rfl) _)).trans G), Or.inr ?_⟩
  have v : ∀ {K p j : Nat}, (K = 2 ∨ K = 20 ∨ K = 22) → gI (flr (flr (sI (sI (sI S1 1 0 38 1) 1 0 39 (nI E.2.1)) 1 0 40 (nI rl)) 81 0 0 (fun k => gI S 45 0 k) 40) 82 0 0 (fun k => gI S 42 0 k) 8) K p j = gI S1 K p j := fun {K p j} hK => by
    rw [gI_flr, if_neg (by omega), gI_flr, if_neg (by omega), gI_sI, if_neg (by omega), gI_sI, if_neg (by omega), gI_sI, if_neg (by omega)]
  have v1 : ∀ {j : Nat}, gI (flr (flr (sI (sI (sI S1 1 0 38 1) 1 0 39 (nI E.2.1)) 1 0 40 (nI rl)) 81 0 0 (fun k => gI S 45 0 k) 40) 82 0 0 (fun k => gI S 42 0 k) 8) 1 0 j = gI (sI (sI (sI S1 1 0 38 1) 1 0 39 (nI E.2.1)) 1 0 40 (nI rl)) 1 0 j := fun {j} => by
    rw [gI_flr, if_neg (by omega), gI_flr, if_neg (by omega)]
  refine ⟨?_, ?_, E.2.1, rl, Nat.le_refl _, hrl, ?_, ?_, ?_, ?_, fun p hp1 => ?_⟩
  · rw [v (by omega), ← hS1, gI_sI, if_neg (by omega), gI_sI, if_neg (by omega), gI_sI, if_pos ⟨rfl, rfl, rfl⟩]
  · rw [v1, gI_sI, if_neg (by omega), gI_sI, if_neg (by omega), gI_sI, if_pos ⟨rfl, rfl, rfl⟩]
  · rw [v (by omega), ← hS1, gI_sI, if_neg (by omega), gI_sI, if_pos ⟨rfl, rfl, rfl⟩]
  · rw [v1, gI_sI, if_neg (by omega), gI_sI, if_pos ⟨rfl, rfl, rfl⟩]
  · rw [v (by omega), ← hS1, gI_sI, if_pos ⟨rfl, rfl, rfl⟩]
  · rw [v1, gI_sI, if_pos ⟨rfl, rfl, rfl⟩]
  · obtain ⟨k, c, n, q⟩ := h.pd hp1
    obtain ⟨q1, ⟨a1, a2, a3, a4⟩, ⟨b1, b2, b3, b4⟩, c1, c2⟩ := q
    refine ⟨cN S p, wN S p, q1.2.1, q1.2.2.2.2.1, q1.2.2.2.2.2, ?_, ?_, fun s hs => ⟨?_, ?_⟩⟩
    · rw [v (by omega), ← hS1, gI_sI, if_neg (by omega), gI_sI, if_neg (by omega), gI_sI, if_neg (by omega), (imC_v S E.2.1 p).1 hp1, b2]
    · rw [gI_flr, if_pos (by simp; omega), ← a2, Nat.sub_zero]
    · rw [v (by omega), ← hS1, gI_sI, if_neg (by omega), gI_sI, if_neg (by omega), gI_sI, if_neg (by omega), (imC_v S E.2.1 p).2 s hs hp1, c2 s hs]
    · rw [gI_flr, if_neg (by omega), gI_flr, if_pos (by simp; omega), Nat.sub_zero, c1 s hs]
/-- what back leaves: the image's weights and classes, of its pupils -/
theorem k_back {E : EN} {S : ST} (hN : 50 ≤ E.1) (h : RP E S) (hI : RI E S) {rl : Nat} (hrl : rl < E.2.2.1) (r3 : gI S 2 0 4 = nI rl) (r4 : gI S 1 0 7 = nI rl) : ∃ (r : Int32) (S1 S2 : ST), f_X6_back E S = some (r, S1) ∧ f_X7_back E S1 = some (r, S2) ∧ Fm [(20, 4), (21, 0), (2, 5), (1, 8), (42, 0), (45, 0)] S S2 ∧ RP E S2 ∧ ∃ rl2 : Nat, rl2 < E.2.2.1 ∧ gI S2 2 0 4 = nI rl2 ∧ gI S2 1 0 7 = nI rl2 := by
  obtain ⟨h8, hc, hm, hr, hp⟩ := id h
  unfold f_X6_back f_X7_back
  rcases hI with ⟨i1, i2⟩ | ⟨i1, i2, n, t, i3, i4, i5, i6, i7, i8, i9⟩
  · exact ⟨-3, S, S, by rw [if_pos i1], by rw [if_pos i2], Fm.rf, h, rl, hrl, r3, r4⟩
  have LC : f_X6_back_b12 E E.1 S (0 : Int32) = some (nI E.2.1, sI (bkC S n) 2 0 4 (nI t)) := by
    refine lpN (σ := ST × Nat) (φ := fun m y => f_X6_back_b12 E m y.1 (nI y.2)) (T := fun k => (bkC S k, k)) (N := n) (fun m k hk => ?_) (fun m => ?_) (by omega)
    · show g_X6_back_b12 E (f_X6_back_b12 E m) _ _ = _
      unfold g_X6_back_b12
      have G := bkC_F S k
      rw [G.I rfl, i5, if_neg (by rw [q_le (by omega) (by omega)]; omega), G.I rfl, hc, if_neg (by rw [q_le (by omega) (by omega)]; omega), ck_in (ib_nI (by omega) (by decide)), q_cl (by omega)]
      simp only [lt_]
      rw [G.R rfl, hr, if_pos (by omega), nl_so, ck_in (decide_eq_true (by omega)), bd_some s_lay, nI_1]
      rfl
    · show g_X6_back_b12 E (f_X6_back_b12 E m) _ _ = _
      unfold g_X6_back_b12 f_X6_back_b43
      have G := bkC_F S n
      simp only [lt_]
      rw [G.I rfl, i5, if_pos (by rw [q_le (by omega) (by omega)]; omega), G.I rfl, i7, gI_sI, if_neg (by omega), G.I rfl, hc]
  generalize hS1 : sI (bkC S n) 2 0 4 (nI t) = S1 at LC
  have F1 : Fm [(20, 4), (21, 0), (2, 5)] S S1 := hS1 ▸ (((bkC_F S n).mono rfl).sI rfl rfl)
  have LM : f_X7_back_b20 E E.1 (sI S1 1 0 7 (nI t)) (0 : Int32) = some (nI E.2.1, flr (flr (sI S1 1 0 7 (nI t)) 45 0 0 (fun k => gI S 81 0 k) (5 * n)) 42 0 0 (fun k => gI S 82 0 k) n) := by
    generalize hS2 : sI S1 1 0 7 (nI t) = S2
    have F2 : Fm [(20, 4), (21, 0), (2, 5), (1, 8)] S S2 := hS2 ▸ ((F1.mono rfl).sI rfl rfl)
    have hv : ∀ k, gI (flr S2 45 0 0 (fun k => gI S 81 0 k) k) 1 0 39 = nI n := fun k => by rw [gI_flr, if_neg (by omega), F2.I rfl, i6]
    have hw : ∀ k, gI (flr (flr S2 45 0 0 (fun k => gI S 81 0 k) (5 * n)) 42 0 0 (fun k => gI S 82 0 k) k) 1 0 39 = nI n := fun k => by rw [gI_flr, if_neg (by omega), hv]
    refine lpN (σ := ST × Nat) (φ := fun m y => f_X7_back_b20 E m y.1 (nI y.2)) (T := fun k => (flr S2 45 0 0 (fun k => gI S 81 0 k) k, k)) (N := 5 * n) (fun m k hk => ?_) (fun m => ?_) (by omega)
    · show g_X7_back_b20 E (f_X7_back_b20 E m) _ _ = _
      unfold g_X7_back_b20
      rw [hv, show (5 : Int32) = nI 5 from rfl, pk_mul, if_neg (by rw [q_le (by omega) (by omega)]; omega), ck_in (ib_nI (by omega) (by decide)), q_cl (by omega)]
      simp only [lt_]
      rw [gI_flr, if_neg (by omega), F2.I rfl, nI_1, flr_s, Nat.zero_add]
    · show g_X7_back_b20 E (f_X7_back_b20 E m) _ _ = _
      unfold g_X7_back_b20 f_X7_back_b48
      rw [hv, show (5 : Int32) = nI 5 from rfl, pk_mul, if_pos (by rw [q_le (by omega) (by omega)]; omega)]
      refine lpN (σ := ST × Nat) (φ := fun m y => f_X7_back_b50 E m y.1 (nI y.2)) (T := fun k => (flr (flr S2 45 0 0 (fun k => gI S 81 0 k) (5 * n)) 42 0 0 (fun k => gI S 82 0 k) k, k)) (N := n) (fun m k hk => ?_) (fun m => ?_) (by omega)
      · show g_X7_back_b50 E (f_X7_back_b50 E m) _ _ = _
        unfold g_X7_back_b50
        rw [hw, if_neg (by rw [q_le (by omega) (by omega)]; omega), ck_in (ib_nI (by omega) (by decide)), q_cl (by omega)]
        simp only [lt_]
        rw [gI_flr, if_neg (by omega), gI_flr, if_neg (by omega), F2.I rfl, nI_1, flr_s, Nat.zero_add]
      · show g_X7_back_b50 E (f_X7_back_b50 E m) _ _ = _
        unfold g_X7_back_b50 f_X7_back_b76
        rw [hw, if_pos (by rw [q_le (by omega) (by omega)]; omega), gI_flr, if_neg (by omega), gI_flr, if_neg (by omega), F2.I rfl, hm]
  refine ⟨nI E.2.1, S1, flr (flr (sI S1 1 0 7 (nI t)) 45 0 0 (fun k => gI S 81 0 k) (5 * n)) 42 0 0 (fun k => gI S 82 0 k) n, ?_, ?_, ((((F1.mono rfl).sI rfl rfl).trans (flr_F _ _ _ _ _ (fun _ => rfl) _)).trans (flr_F _ _ _ _ _ (fun _ => rfl) _)), ?_, t, i4, ?_, ?_⟩
  · rw [i1, if_neg (by decide)]
    exact LC
  · rw [F1.I rfl, i2, if_neg (by decide), F1.I rfl, i8]
    exact LM
  · have A : Ag [(2, 2), (1, 1), (3, 0), (41, 0), (43, 0), (44, 0), (20, 1), (20, 2), (20, 3)] S (flr (flr (sI S1 1 0 7 (nI t)) 45 0 0 (fun k => gI S 81 0 k) (5 * n)) 42 0 0 (fun k => gI S 82 0 k) n) :=
      Fm.ag (w := [(20, 4), (21, 0), (2, 5), (1, 8), (42, 0), (45, 0)]) ((((F1.mono rfl).sI rfl rfl).trans (flr_F _ _ _ _ _ (fun _ => rfl) _)).trans (flr_F _ _ _ _ _ (fun _ => rfl) _)) rfl
    have v : ∀ {K p j : Nat}, (K = 20 ∨ K = 21) → gI (flr (flr (sI S1 1 0 7 (nI t)) 45 0 0 (fun k => gI S 81 0 k) (5 * n)) 42 0 0 (fun k => gI S 82 0 k) n) K p j = gI (bkC S n) K p j := fun {K p j} hK => by
      rw [gI_flr, if_neg (by omega), gI_flr, if_neg (by omega), gI_sI, if_neg (by omega), ← hS1, gI_sI, if_neg (by omega)]
    refine ⟨h8, (A.I rfl).trans hc, (A.I rfl).trans hm, fun j => (A.R rfl).trans (hr j), fun p hp1 => ?_⟩
    obtain ⟨k, c, m, q⟩ := h.pd hp1
    obtain ⟨⟨x1, x2, x3, x4, x5, x6⟩, ⟨a1, a2, a3, a4⟩, ⟨b1, b2, b3, b4⟩, c1, c2⟩ := q
    by_cases z : p < n
    · obtain ⟨g, w, y1, y2, y3, y4, y5, y6⟩ := i9 p z
      refine ⟨k, g, c, m, w, ⟨x1, y1, x3, x4, y2, y3⟩, ⟨(A.I rfl).trans a1, ?_, (A.I rfl).trans a3, (A.I rfl).trans a4⟩, ⟨(A.I rfl).trans b1, ?_, (A.I rfl).trans b3, (A.I rfl).trans b4⟩, fun s hs => ?_, fun s hs => ?_⟩
      · rw [gI_flr, if_pos (by simp; omega), Nat.sub_zero, y5]
      · rw [v (by omega), (bkC_v S n p).1, if_pos z, y4]
      · rw [gI_flr, if_neg (by omega), gI_flr, if_pos (by simp; omega), Nat.sub_zero, (y6 s hs).2]
      · rw [v (by omega), (bkC_v S n p).2 s hs, if_pos z, (y6 s hs).1]
    · refine ⟨k, cN S p, c, m, wN S p, ⟨x1, x2, x3, x4, x5, x6⟩, ⟨(A.I rfl).trans a1, ?_, (A.I rfl).trans a3, (A.I rfl).trans a4⟩, ⟨(A.I rfl).trans b1, ?_, (A.I rfl).trans b3, (A.I rfl).trans b4⟩, fun s hs => ?_, fun s hs => ?_⟩
      · rw [gI_flr, if_neg (by omega), gI_flr, if_neg (by omega), gI_sI, if_neg (by omega), F1.I rfl, a2]
      · rw [v (by omega), (bkC_v S n p).1, if_neg z, b2]
      · rw [gI_flr, if_neg (by omega), gI_flr, if_neg (by omega), gI_sI, if_neg (by omega), F1.I rfl, c1 s hs]
      · rw [v (by omega), (bkC_v S n p).2 s hs, if_neg z, c2 s hs]
  · rw [gI_flr, if_neg (by omega), gI_flr, if_neg (by omega), gI_sI, if_neg (by omega), ← hS1, gI_sI, if_pos ⟨rfl, rfl, rfl⟩]
  · rw [gI_flr, if_neg (by omega), gI_flr, if_neg (by omega), gI_sI, if_pos ⟨rfl, rfl, rfl⟩]
