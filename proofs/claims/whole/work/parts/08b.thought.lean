/-! PURE PART: thought, moves, likely -/
/-- all but pupils' roll, tape, sheets, rules' texts: what calls that look may touch -/
def wL : List (Nat × Nat) := [(16, 5), (16, 6), (16, 7), (28, 0), (10, 0), (11, 0), (12, 0), (13, 0), (18, 0), (19, 0), (61, 0), (62, 0), (63, 0), (64, 0), (65, 0), (66, 0), (67, 0), (68, 0), (69, 0), (1, 31)]
theorem s_part {E : EN} {S : ST} (x : Int32) : f_X6_isPart E S x = some (if x = 0 ∨ x = 1 then 1 else 0) := by
  unfold f_X6_isPart
  by_cases h : x = 0
  · simp [h, f_X6_isPart_b9]
  · by_cases h1 : x = 1
    · simp [h1, f_X6_isPart_b9]
    · simp [h, h1]
theorem s_in01 {E : EN} {S : ST} (x : Int32) : f_X7_in E S x (0 : Int32) (1 : Int32) = some (if x = 0 ∨ x = 1 then 1 else 0) := by
  rcases q_or x with h | ⟨y, hy, rfl⟩
  · rw [s_inS h, if_neg]
    rintro (z | z) <;> (rw [z] at h; revert h; decide)
  · rw [s_inN hy (by decide) (show (1 : Int32) = nI 1 from rfl)]
    by_cases z : y ≤ 1
    · rw [if_pos z, if_pos (by rw [q_eqR 0 (by decide) hy, q_eqR 1 (by decide) hy]; omega)]
    · rw [if_neg z, if_neg (by rw [q_eqR 0 (by decide) hy, q_eqR 1 (by decide) hy]; omega)]
theorem s_weightsAt {E : EN} {S : ST} {W : Nat} (hW : W < 6) : f_X1_weightsAt E S (nI W) = some (some W) := by
  unfold f_X1_weightsAt
  rw [bd_some (s_bnd hW), ck_in (ib_nI hW (by decide)), q_cl (by omega)]
theorem k_thought {E : EN} {S : ST} {t : Nat} (hN : 3000 ≤ E.1) (hP : RP E S) (hr : RR E S) (hu : RU E S t) (hc : RC E S) (a b c d : Int32) : ∃ (r : Int64) (S1 S2 : ST), f_X6_thought E S a b c d = some (r, S1) ∧ f_X7_thought E S1 a b c d = some (r, S2) ∧ Fm wL S S2 ∧ RC E S2 := by
  obtain ⟨h8, hcn, hm, hroll, -⟩ := id hP
  unfold f_X6_thought f_X7_thought
  rcases q_pup E h8 a with ⟨p, hp1, rfl⟩ | hno
  · have P1 : ∀ S1, gI S1 1 0 0 = nI E.2.1 → f_X7_isPupil E S1 (nI p) = some 1 := fun S1 h => s_isPupil1 h hp1 h8
    rw [bd_some (s_known1 hcn hroll hp1 h8), nl_so, ck_in (decide_eq_true hp1)]
    by_cases hmk : isMk b
    · rw [bd_some (s_marks1 (S1 := S) hmk).1, if_neg (show ¬ (1 : Int32) = 0 by decide)]
      by_cases hst : ∃ s, s < 5 ∧ c = nI s
      · obtain ⟨s, hs, rfl⟩ := hst
        rw [if_neg (q_n0 (by omega)), if_neg (by rw [q_leL 5 (by decide) (by omega)]; omega), bd_some (s_part d)]
        by_cases hd : d = 0 ∨ d = 1
        · rw [if_pos hd, if_neg (show ¬ (1 : Int32) = 0 by decide)]
          obtain ⟨W, M, hW, hM, rfl⟩ := id hmk
          obtain ⟨so, k, n, M2, S1, S2, f1, f2, F1, F2, hso, K1, A1, A2, l2, okc, C2⟩ := s_both (E := E) hN hP hr hu hc hp1 hW hM
          have hpw := q_pw hW
          have e1 : (100 * W + M) / 100 = W := by omega
          have hx : 100 * W + M < 2147483648 := by omega
          obtain ⟨y1, -, -, -⟩ := A1.1 W (Nat.le_refl _)
          obtain ⟨y2, -, -, -⟩ := A2 W (Nat.le_refl _)
          have hB := (okc W).bnd (by omega)
          have hle : (pth (lsR S t so) k n (cN S p) (wN S p) M W).1 s ≤ 99990000000000 := by
            refine Nat.le_trans ?_ hB
            rw [smf_0]
            have : s = 0 ∨ s = 1 ∨ s = 2 ∨ s = 3 ∨ s = 4 := by omega
            rcases this with rfl | rfl | rfl | rfl | rfl <;> omega
          refine ⟨lowL ((pth (lsR S t so) k n (cN S p) (wN S p) M W).1 s) (smf (pth (lsR S t so) k n (cN S p) (wN S p) M W).1 0) d, S1, S2, ?_, ?_, (F1.mono rfl).trans (F2.mono rfl), C2⟩
          · rw [bd_some f1, q_dv100 hx, e1, lt_e]
            rw [bd_some (s_weightsAt hW)]
            rw [nl_so, ck_in (decide_eq_true (by omega)), ck_in (ib_nI (by omega) (by decide)), bd_some (s_togetherC (by omega) (by omega) y1), q_cl (by omega), y1 s hs, bd_some (s_lowestC (by omega) (by omega) (by omega) d)]
          · rw [bd_some (P1 S1 ((F1.I rfl).trans hm)), if_neg (show ¬ (1 : Int32) = 0 by decide), bd_some (s_marks1 (S := S) (S1 := S1) hmk).2, if_neg (show ¬ (1 : Int32) = 0 by decide), bd_some (s_inY (n := 4) (by omega) (by decide) (show (4 : Int32) = nI 4 from rfl) (by omega)), if_neg (show ¬ (1 : Int32) = 0 by decide), bd_some (s_in01 d), if_pos hd, if_neg (show ¬ (1 : Int32) = 0 by decide), bd_some f2, q_dv100 hx, e1, q_5w, ck_in (ib_nI (by omega) (by decide)), bd_some (s_sumRow (by omega) (by omega) y2), q_cl (by omega), y2 s hs, bd_some (s_lowestM (by omega) (by omega) (by omega) d)]
        · refine ⟨-4611686018427387904, S, S, ?_, ?_, Fm.rf, hc⟩
          · rw [if_neg hd, if_pos rfl]
          · rw [bd_some (P1 S hm), if_neg (show ¬ (1 : Int32) = 0 by decide), bd_some (s_marks1 (S := S) (S1 := S) hmk).2, if_neg (show ¬ (1 : Int32) = 0 by decide), bd_some (s_inY (n := 4) (by omega) (by decide) (show (4 : Int32) = nI 4 from rfl) (by omega)), if_neg (show ¬ (1 : Int32) = 0 by decide), bd_some (s_in01 d), if_neg hd, if_pos rfl]
      · refine ⟨-4611686018427387904, S, S, ?_, ?_, Fm.rf, hc⟩
        · rcases q_or c with hs | ⟨y, hy, rfl⟩
          · rw [if_pos hs]
          · rw [if_neg (q_n0 hy), if_pos (by
              rw [q_leL 5 (by decide) hy]
              by_cases z : y < 5
              · exact absurd ⟨y, z, rfl⟩ hst
              · omega)]
        · rw [bd_some (P1 S hm), if_neg (show ¬ (1 : Int32) = 0 by decide), bd_some (s_marks1 (S := S) (S1 := S) hmk).2, if_neg (show ¬ (1 : Int32) = 0 by decide)]
          rcases q_or c with hs | ⟨y, hy, rfl⟩
          · rw [bd_some (s_inS hs), if_pos rfl]
          · rw [bd_some (s_inZ (n := 4) hy (by decide) (show (4 : Int32) = nI 4 from rfl) (by
              by_cases z : y < 5
              · exact absurd ⟨y, z, rfl⟩ hst
              · omega)), if_pos rfl]
    · exact ⟨-4611686018427387904, S, S, by rw [bd_some (s_marks0 (S1 := S) hmk).1, if_pos rfl], by rw [bd_some (P1 S hm), if_neg (show ¬ (1 : Int32) = 0 by decide), bd_some (s_marks0 (S := S) (S1 := S) hmk).2, if_pos rfl], Fm.rf, hc⟩
  · exact ⟨-4611686018427387904, S, S, by rw [bd_some (s_known0 hcn hno h8)]; rfl, by rw [bd_some (s_isPupil0 hm hno h8), if_pos rfl], Fm.rf, hc⟩
