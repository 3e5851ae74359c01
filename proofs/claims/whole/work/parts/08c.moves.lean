/-! PURE PART: moves, likely -/
theorem s_classThen {E : EN} {S : ST} {W : Nat} (hW : W < 6) : f_X1_classThen E S (nI W) = some (gI S 18 0 W) := by
  unfold f_X1_classThen
  rw [bd_some (s_bnd hW), ck_in (ib_nI hW (by decide)), q_cl (by omega)]
theorem s_movedThen {E : EN} {S : ST} {W : Nat} (hW : W < 6) : f_X1_movedThen E S (nI W) = some (gI S 19 0 W) := by
  unfold f_X1_movedThen
  rw [bd_some (s_bnd hW), ck_in (ib_nI hW (by decide)), q_cl (by omega)]
theorem k_moves {E : EN} {S : ST} {t : Nat} (hN : 3000 ≤ E.1) (hP : RP E S) (hr : RR E S) (hu : RU E S t) (hc : RC E S) (a b c : Int32) : ∃ (r : Int32) (S1 S2 : ST), f_X6_moves E S a b c = some (r, S1) ∧ f_X7_moves E S1 a b c = some (r, S2) ∧ Fm wL S S2 ∧ RC E S2 := by
  obtain ⟨h8, hcn, hm, hroll, -⟩ := id hP
  have n1 : ¬ (1 : Int32) = 0 := by decide
  unfold f_X6_moves f_X7_moves
  rcases q_pup E h8 a with ⟨p, hp1, rfl⟩ | hno
  · have P1 : ∀ S1, gI S1 1 0 0 = nI E.2.1 → f_X7_isPupil E S1 (nI p) = some 1 := fun S1 h => s_isPupil1 h hp1 h8
    rw [bd_some (s_known1 hcn hroll hp1 h8), nl_so, ck_in (decide_eq_true hp1)]
    by_cases hmk : isMk b
    · rw [bd_some (s_marks1 (S1 := S) hmk).1, if_neg n1]
      rcases q_or c with hs | ⟨y, hy, rfl⟩
      · exact ⟨-5, S, S, by rw [if_pos hs], by rw [bd_some (P1 S hm), if_neg n1, bd_some (s_marks1 (S := S) (S1 := S) hmk).2, if_neg n1, bd_some (s_inS hs), if_pos rfl], Fm.rf, hc⟩
      rw [if_neg (q_n0 hy)]
      by_cases h2 : y ≤ 2
      · rw [if_pos (by rw [q_leR 2 (by decide) hy]; exact h2)]
        obtain ⟨W, M, hW, hM, rfl⟩ := id hmk
        obtain ⟨so, k, n, M2, S1, S2, f1, f2, F1, F2, hso, K1, A1, A2, l2, okc, C2⟩ := s_both (E := E) hN hP hr hu hc hp1 hW hM
        have hpw := q_pw hW
        have e1 : (100 * W + M) / 100 = W := by omega
        have hx : 100 * W + M < 2147483648 := by omega
        obtain ⟨-, y2, y3, -⟩ := A1.1 W (Nat.le_refl _)
        obtain ⟨-, z2, z3, -⟩ := A2 W (Nat.le_refl _)
        obtain ⟨k', c', n', q'⟩ := hP.pd hp1
        have hg0 : cN S p < 5 := q'.1.2.1
        have hr1 : smf (wN S p) 0 ≤ 9999 := by rw [smf_w]; exact q'.1.2.2.2.2.2
        rw [bd_some f1, q_dv100 hx, e1, lt_e]
        have hyy : y = 0 ∨ y = 1 ∨ y = 2 := by omega
        rcases hyy with rfl | rfl | rfl
        · refine ⟨gI S1 18 0 W, S1, S2, ?_, ?_, (F1.mono rfl).trans (F2.mono rfl), C2⟩
          · rw [if_pos (show nI 0 = (0 : Int32) from rfl), bd_some (s_classThen hW)]
          · rw [bd_some (P1 S1 ((F1.I rfl).trans hm)), if_neg n1, bd_some (s_marks1 (S := S) (S1 := S1) hmk).2, if_neg n1, bd_some (s_inY hy (by decide) (show (2 : Int32) = nI 2 from rfl) h2), if_neg n1, bd_some f2, if_pos (show nI 0 = (0 : Int32) from rfl), ck_in (ib_nI hW (by decide)), q_cl (by omega), y2, z2]
        · refine ⟨gI S1 19 0 W, S1, S2, ?_, ?_, (F1.mono rfl).trans (F2.mono rfl), C2⟩
          · rw [if_neg (show ¬ nI 1 = (0 : Int32) by decide), if_pos (show nI 1 = (1 : Int32) from rfl), bd_some (s_movedThen hW)]
          · rw [bd_some (P1 S1 ((F1.I rfl).trans hm)), if_neg n1, bd_some (s_marks1 (S := S) (S1 := S1) hmk).2, if_neg n1, bd_some (s_inY hy (by decide) (show (2 : Int32) = nI 2 from rfl) h2), if_neg n1, bd_some f2, if_neg (show ¬ nI 1 = (0 : Int32) by decide), if_pos (show nI 1 = (1 : Int32) from rfl), ck_in (ib_nI hW (by decide)), q_cl (by omega), y3, z3]
        · refine ⟨lst (lsR S t so) k n (cN S p) (wN S p) M W, S1, S2, ?_, ?_, (F1.mono rfl).trans (F2.mono rfl), C2⟩
          · rw [if_neg (show ¬ nI 2 = (0 : Int32) by decide), if_neg (show ¬ nI 2 = (1 : Int32) by decide), bd_some (s_wishC hN (by omega) hg0 hr1 K1 A1)]
          · rw [bd_some (P1 S1 ((F1.I rfl).trans hm)), if_neg n1, bd_some (s_marks1 (S := S) (S1 := S1) hmk).2, if_neg n1, bd_some (s_inY hy (by decide) (show (2 : Int32) = nI 2 from rfl) h2), if_neg n1, bd_some f2, if_neg (show ¬ nI 2 = (0 : Int32) by decide), if_neg (show ¬ nI 2 = (1 : Int32) by decide), l2]
      · exact ⟨-5, S, S, by rw [if_neg (by rw [q_leR 2 (by decide) hy]; exact h2)], by rw [bd_some (P1 S hm), if_neg n1, bd_some (s_marks1 (S := S) (S1 := S) hmk).2, if_neg n1, bd_some (s_inZ hy (by decide) (show (2 : Int32) = nI 2 from rfl) h2), if_pos rfl], Fm.rf, hc⟩
    · exact ⟨-5, S, S, by rw [bd_some (s_marks0 (S1 := S) hmk).1, if_pos rfl], by rw [bd_some (P1 S hm), if_neg n1, bd_some (s_marks0 (S := S) (S1 := S) hmk).2, if_pos rfl], Fm.rf, hc⟩
  · exact ⟨-5, S, S, by rw [bd_some (s_known0 hcn hno h8)]; rfl, by rw [bd_some (s_isPupil0 hm hno h8), if_pos rfl], Fm.rf, hc⟩
theorem s_grown {E : EN} {S : ST} {W a : Nat} (hN : 10 ≤ E.1) (hW : W < 6) : f_X6_grown E S (lN a) (nI W) = some (lN (a * 100 ^ W)) := by
  unfold f_X6_grown
  have h := lpN (σ := Nat) (φ := fun m v => f_X6_grown_b5 E m S (nI W) (lN (a * 100 ^ v)) (nI v)) (T := fun v => v) (N := W) (r := some (lN (a * 100 ^ W))) (fun m v hv => by
    show g_X6_grown_b5 E (f_X6_grown_b5 E m) S _ _ _ = _
    unfold g_X6_grown_b5
    rw [if_neg (by rw [q_le (by omega) (by omega)]; omega), if_neg (by rw [q_leL 5 (by decide) (by omega)]; omega), lt_e, lt_e, nI_1, show (100 : Int64) = lN 100 from rfl, lN_mul, Nat.mul_assoc, ← Nat.pow_succ]) (fun m => by
    show f_X6_grown_b5 E (m + 1) S (nI W) (lN (a * 100 ^ W)) (nI W) = _
    rw [show f_X6_grown_b5 E (m + 1) = g_X6_grown_b5 E (f_X6_grown_b5 E m) from rfl]
    unfold g_X6_grown_b5
    rw [if_pos (by rw [q_le (by omega) (by omega)]; omega)]) (n := E.1) (by omega)
  rw [show lN a = lN (a * 100 ^ 0) by rw [Nat.pow_zero, Nat.mul_one]]
  exact h
theorem s_hundreds {E : EN} {S : ST} {W : Nat} (hN : 10 ≤ E.1) (hW : W < 6) : f_X7_hundreds E S (nI W) = some (lN (100 ^ W)) := by
  unfold f_X7_hundreds
  have h := lpN (σ := Nat) (φ := fun m v => f_X7_hundreds_b5 E m S (nI W) (lN (100 ^ v)) (nI v)) (T := fun v => v) (N := W) (r := some (lN (100 ^ W))) (fun m v hv => by
    show g_X7_hundreds_b5 E (f_X7_hundreds_b5 E m) S _ _ _ = _
    unfold g_X7_hundreds_b5
    rw [if_neg (by rw [q_le (by omega) (by omega)]; omega), lt_e, lt_e, nI_1, show (100 : Int64) = lN 100 from rfl, lN_mul, ← Nat.pow_succ]) (fun m => by
    show f_X7_hundreds_b5 E (m + 1) S (nI W) (lN (100 ^ W)) (nI W) = _
    rw [show f_X7_hundreds_b5 E (m + 1) = g_X7_hundreds_b5 E (f_X7_hundreds_b5 E m) from rfl]
    unfold g_X7_hundreds_b5
    rw [if_pos (by rw [q_le (by omega) (by omega)]; omega)]) (n := E.1) (by omega)
  exact h
theorem k_likely {E : EN} {S : ST} {t : Nat} (hN : 3000 ≤ E.1) (hP : RP E S) (hr : RR E S) (hu : RU E S t) (hc : RC E S) (a b c : Int32) : ∃ (r : Int64) (S1 S2 : ST), f_X6_likely E S a b c = some (r, S1) ∧ f_X7_likely E S1 a b c = some (r, S2) ∧ Fm wL S S2 ∧ RC E S2 := by
  obtain ⟨h8, hcn, hm, hroll, -⟩ := id hP
  have n1 : ¬ (1 : Int32) = 0 := by decide
  unfold f_X6_likely f_X7_likely
  rcases q_pup E h8 a with ⟨p, hp1, rfl⟩ | hno
  · have P1 : ∀ S1, gI S1 1 0 0 = nI E.2.1 → f_X7_isPupil E S1 (nI p) = some 1 := fun S1 h => s_isPupil1 h hp1 h8
    rw [bd_some (s_known1 hcn hroll hp1 h8), nl_so, ck_in (decide_eq_true hp1)]
    by_cases hmk : isMk b
    · rw [bd_some (s_marks1 (S1 := S) hmk).1, if_neg n1]
      rcases q_or c with hs | ⟨y, hy, rfl⟩
      · exact ⟨-4611686018427387904, S, S, by rw [if_pos hs], by rw [bd_some (P1 S hm), if_neg n1, bd_some (s_marks1 (S := S) (S1 := S) hmk).2, if_neg n1, bd_some (s_inS hs), if_pos rfl], Fm.rf, hc⟩
      rw [if_neg (q_n0 hy)]
      by_cases h3 : y ≤ 3
      · rw [if_pos (by rw [q_leR 3 (by decide) hy]; exact h3)]
        obtain ⟨W, M, hW, hM, rfl⟩ := id hmk
        obtain ⟨so, k, n, M2, S1, S2, f1, f2, F1, F2, hso, K1, A1, A2, l2, okc, C2⟩ := s_both (E := E) hN hP hr hu hc hp1 hW hM
        have hpw := q_pw hW
        have e1 : (100 * W + M) / 100 = W := by omega
        have hx : 100 * W + M < 2147483648 := by omega
        obtain ⟨y1, y2, y3, -⟩ := A1.1 W (Nat.le_refl _)
        obtain ⟨x1, -, -, -⟩ := A1.1 0 (Nat.zero_le _)
        obtain ⟨z1, z2, z3, -⟩ := A2 W (Nat.le_refl _)
        obtain ⟨k', c', n', q'⟩ := hP.pd hp1
        obtain ⟨⟨-, hg0, -, -, hw1, hw9⟩, -, -, d1, -⟩ := id q'
        have hB := (okc W).bnd (by omega)
        have hgW := (okc W).1
        generalize hpp : pth (lsR S t so) k n (cN S p) (wN S p) M W = cc at y1 y2 z1 z2 hB hgW
        have h100 : 100 ^ W ≤ 10000000000 := Nat.le_trans (Nat.pow_le_pow_right (by decide) (show W ≤ 5 by omega)) (by decide)
        have hgr : wsum (wN S p) * 100 ^ W ≤ 99990000000000 := Nat.le_trans (Nat.mul_le_mul hw9 h100) (by decide)
        have FA : Fm wL S S2 := (F1.mono rfl).trans (F2.mono rfl)
        rw [bd_some f1, q_dv100 hx, e1, lt_e]
        have pre : ∀ (z : Int64), (lt_ (nI W) fun x5 =>
        (if (2 : Int32) ≤ nI y then
          ck_ (ib_ x5 6) <|
          bd_ (f_X7_sumFrom E S2 x5 (gI S2 67 0 x5.toNatClampNeg)) fun r7 =>
          bd_ (f_X7_sumRow E S2 x5) fun r8 =>
          bd_ (f_X7_lowest E S2 r7 r8 (nI y - (2 : Int32))) fun r9 =>
          some (r9, S2)
        else
          bd_ (f_X7_sumRow E S2 x5) fun r10 =>
          bd_ (f_X7_sumOf E S2 (nI p)) fun r11 =>
          bd_ (f_X7_hundreds E S2 x5) fun r12 =>
          bd_ (f_X7_lowest E S2 r10 (r11.toInt64 * r12) (nI y)) fun r13 =>
          some (r13, S2))) = some (z, S2) → f_X7_likely E S1 (nI p) (nI (100 * W + M)) (nI y) = some (z, S2) := fun z hz => by
          unfold f_X7_likely
          rw [bd_some (P1 S1 ((F1.I rfl).trans hm)), if_neg n1, bd_some (s_marks1 (S := S) (S1 := S1) hmk).2, if_neg n1, bd_some (s_inY hy (by decide) (show (3 : Int32) = nI 3 from rfl) h3), if_neg n1, bd_some f2, q_dv100 hx, e1]
          exact hz
        unfold f_X7_likely at pre
        rw [q_dv100 hx, e1] at pre
        by_cases h2 : 2 ≤ y
        · have hle := smf_le cc.1 cc.2.1
          refine ⟨lowL (smf cc.1 cc.2.1) (smf cc.1 0) (nI y - (2 : Int32)), S1, S2, ?_, pre _ ?_, FA, C2⟩
          · rw [if_pos (by rw [q_leL 2 (by decide) hy]; exact h2)]
            unfold f_X1_fit
            rw [bd_some (show (bd_ (f_X1_classThen E S1 (nI W)) fun r1 => bd_ (f_X1_from E S1 r1 (nI W)) fun r2 => some r2) = some (lN (smf cc.1 cc.2.1)) from by rw [bd_some (s_classThen hW), y2, bd_some (s_from (by omega) hW (by omega) y1)]), bd_some (s_togetherC (by omega) hW y1), bd_some (s_lowestC (by omega) (by omega) (by omega) _)]
          · rw [lt_e, if_pos (by rw [q_leL 2 (by decide) hy]; exact h2), ck_in (ib_nI hW (by decide)), q_cl (by omega), z2, bd_some (s_sumFrom (by omega) hW (by omega) z1), bd_some (s_sumRow (by omega) hW z1), bd_some (s_lowestM (by omega) (by omega) (by omega) _)]
        · refine ⟨lowL (smf cc.1 0) (wsum (wN S p) * 100 ^ W) (nI y), S1, S2, ?_, pre _ ?_, FA, C2⟩
          · rw [if_neg (by rw [q_leL 2 (by decide) hy]; exact h2), bd_some (s_togetherC (by omega) hW y1), show (0 : Int32) = nI 0 from rfl, bd_some (s_togetherC (r := wN S p) (by omega) (by omega) x1), bd_some (s_grown (by omega) hW), smf_w (wN S p), bd_some (s_lowestC (by omega) (by omega) (by omega) _)]
          · rw [lt_e, if_neg (by rw [q_leL 2 (by decide) hy]; exact h2), bd_some (s_sumRow (by omega) hW z1), bd_some (s_sumOf (by omega) (by omega) (fun s hs => (FA.I rfl).trans (d1 s hs))), bd_some (s_hundreds (by omega) hW), nI_l (by omega), lN_mul, bd_some (s_lowestM (by omega) (by omega) (by omega) _)]
      · exact ⟨-4611686018427387904, S, S, by rw [if_neg (by rw [q_leR 3 (by decide) hy]; exact h3)], by rw [bd_some (P1 S hm), if_neg n1, bd_some (s_marks1 (S := S) (S1 := S) hmk).2, if_neg n1, bd_some (s_inZ hy (by decide) (show (3 : Int32) = nI 3 from rfl) h3), if_pos rfl], Fm.rf, hc⟩
    · exact ⟨-4611686018427387904, S, S, by rw [bd_some (s_marks0 (S1 := S) hmk).1, if_pos rfl], by rw [bd_some (P1 S hm), if_neg n1, bd_some (s_marks0 (S := S) (S1 := S) hmk).2, if_pos rfl], Fm.rf, hc⟩
  · exact ⟨-4611686018427387904, S, S, by rw [bd_some (s_known0 hcn hno h8)]; rfl, by rw [bd_some (s_isPupil0 hm hno h8), if_pos rfl], Fm.rf, hc⟩
