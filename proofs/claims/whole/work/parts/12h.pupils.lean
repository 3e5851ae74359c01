/-! PURE PART: pupils, the loop -/
theorem rel_pup {E : EN} {M : ST} (hN : 20300 ≤ E.1) (h : REL E M) {k d : Nat} (hd : d < 2147483648) (hlt : E.2.1 < 8)
    (p1 : pup6 E M (nI k) (nI d) = (nI E.2.1, (E.1, E.2.1 + 1, E.2.2), pupS M E.2.1 (nI k) (nI (d / 100)) (nI (d / 10 % 10)) (nI (d % 10)))) (p2 : ∀ (EZ : EN) (S : ST), f_X7_isNew EZ S (nI k) (nI d) = some 1) :
    REL (E.1, E.2.1 + 1, E.2.2) (comC (pupS M E.2.1 (nI k) (nI (d / 100)) (nI (d / 10 % 10)) (nI (d % 10))) E.2.1 (nI k) d) := by
  obtain ⟨r, EE, S1, S2, e1, e2, hR, -, -⟩ := j_pupil hN h (nI k) (nI d)
  rw [p1] at e1
  obtain ⟨-, e1⟩ := Prod.mk.inj e1
  obtain ⟨eE, eS⟩ := Prod.mk.inj e1
  rw [← eE] at e2 hR
  rw [← eS] at e2
  have hm : gI (pupS M E.2.1 (nI k) (nI (d / 100)) (nI (d / 10 % 10)) (nI (d % 10))) 1 0 0 = nI E.2.1 := (gI_pupS (by omega) (by omega)).trans h.1.2.2.1
  have e3 : f_X7_pupil (E.1, E.2.1 + 1, E.2.2) (pupS M E.2.1 (nI k) (nI (d / 100)) (nI (d / 10 % 10)) (nI (d % 10))) (nI k) (nI d) = some (nI E.2.1, comC (pupS M E.2.1 (nI k) (nI (d / 100)) (nI (d / 10 % 10)) (nI (d % 10))) E.2.1 (nI k) d) := by
    unfold f_X7_pupil
    rw [bd_some (p2 _ _), if_neg (by decide), if_neg (by rw [hm, q_eqR 8 (by decide) (by omega)]; omega), bd_some (s_comes (by show 10 ≤ E.1; omega) hlt hd hm)]
    unfold comC
    rw [gI_same, nI_pred]
  rw [e3] at e2
  have e4 := (Prod.mk.inj (Option.some.inj e2)).2
  rw [← e4] at hR
  exact hR
theorem pups_loop {t c : Nat} {x3 : Int32} (ht : t < 4) (hc8 : c ≤ 8) : ∀ (q i : Nat), i + q = c → ∀ (E : EN) (A M : ST) (v6 : Int32) (m : Nat), q < m → 20300 ≤ E.1 → REL E M → EC A M →
    ∃ (r : Int32) (EE : EN) (A' M' : ST), pups6_b t x3 (nI c) m E A v6 (nI i) = some (r, EE, A') ∧ REL EE M' ∧ EC A' M' ∧ EM A A' ∧ EE.1 = E.1 ∧ EE.2.2 = E.2.2 ∧
      ∀ (EZ : EN) (Z : ST) (m2 : Nat), q < m2 → 20300 ≤ EZ.1 → EM Z M → ∃ Z', f_X7_pupils_b64 EZ m2 Z (nI t) x3 (nI c) v6 (nI i) = some (r, Z') ∧ EM Z' M' ∧ EC Z Z' := by
  intro q
  induction q with
  | zero =>
    intro i hi E A M v6 m hm hN hR hC
    obtain ⟨m, rfl⟩ : ∃ y, m = y + 1 := ⟨m - 1, by omega⟩
    have h0 : nI c ≤ nI i := (q_le (by omega) (by omega)).mpr (by omega)
    refine ⟨v6, E, A, M, ?_, hR, hC, fun _ _ => ⟨rfl, rfl, rfl⟩, rfl, rfl, fun EZ Z m2 hm2 _ hZ => ⟨Z, ?_, hZ, fun _ _ => ⟨rfl, rfl, rfl⟩⟩⟩
    · rw [pups6_b, if_pos h0]
    · obtain ⟨m2, rfl⟩ : ∃ y, m2 = y + 1 := ⟨m2 - 1, by omega⟩
      show g_X7_pupils_b64 EZ (f_X7_pupils_b64 EZ m2) Z (nI t) x3 (nI c) v6 (nI i) = _
      unfold g_X7_pupils_b64
      rw [if_pos h0]
  | succ q ih =>
    intro i hi E A M v6 m hm hN hR hC
    obtain ⟨m, rfl⟩ : ∃ y, m = y + 1 := ⟨m - 1, by omega⟩
    have h0 : ¬ nI c ≤ nI i := fun y => by have := (q_le (by omega) (by omega)).mp y; omega
    obtain ⟨hP, hS, hI, hT, hRR, hCC, t', hU⟩ := id hR
    obtain ⟨h8, hcc, hmm, hroll, hp⟩ := id hP
    obtain ⟨so, n, hn, hso, s1, s2, s3, s4, s5⟩ := hS t ht
    obtain ⟨z1, z2⟩ := q_szs n (by omega) i (by omega)
    have hMi : ∀ (EZ : EN) (Z : ST) (m2 : Nat), EM Z M → f_X7_pupils_b64 EZ (m2 + 1) Z (nI t) x3 (nI c) v6 (nI i) = (if x3 < 0 then some ((-12 : Int32), Z) else if x3 ≤ nI n - (2 : Int32) * nI i - 2 then
        ck_ (ib_ ((((40 : Int32) * nI t) + x3) + ((2 : Int32) * nI i)) 160) <|
        lt_ (gI Z 85 0 ((((40 : Int32) * nI t) + x3) + ((2 : Int32) * nI i)).toNatClampNeg) fun x4 =>
        ck_ (ib_ (((((40 : Int32) * nI t) + x3) + ((2 : Int32) * nI i)) + (1 : Int32)) 160) <|
        lt_ (gI Z 85 0 (((((40 : Int32) * nI t) + x3) + ((2 : Int32) * nI i)) + (1 : Int32)).toNatClampNeg) fun x6 =>
        bd_ (f_X7_isNew EZ Z x4 x6) fun r7 =>
        (if r7 = 0 then
          f_X7_pupils_b167 EZ (f_X7_pupils_b64 EZ m2) Z (nI t) x3 (nI c) v6 (nI i)
        else
          (if (gI Z 1 0 0) = (8 : Int32) then
            f_X7_pupils_b167 EZ (f_X7_pupils_b64 EZ m2) Z (nI t) x3 (nI c) v6 (nI i)
          else
            bd_ (f_X7_comes EZ Z x4 x6) fun S8 =>
            lt_ (v6 + (1 : Int32)) fun x9 =>
            f_X7_pupils_b167 EZ (f_X7_pupils_b64 EZ m2) S8 (nI t) x3 (nI c) x9 (nI i)))
      else some ((-12 : Int32), Z)) := fun EZ Z m2 hZ => by
      show g_X7_pupils_b64 EZ (f_X7_pupils_b64 EZ m2) Z (nI t) x3 (nI c) v6 (nI i) = _
      unfold g_X7_pupils_b64
      rw [if_neg h0, ck_in (ib_nI ht (by decide)), q_cl (show t < 2147483648 by omega), hZ.I (K := 84) (by omega), s4]
    rcases q_or x3 with hx | ⟨d, hd, rfl⟩
    · refine ⟨-12, E, A, M, ?_, hR, hC, fun _ _ => ⟨rfl, rfl, rfl⟩, rfl, rfl, fun EZ Z m2 hm2 _ hZ => ⟨Z, ?_, hZ, fun _ _ => ⟨rfl, rfl, rfl⟩⟩⟩
      · rw [pups6_b, if_neg h0, if_pos hx]
      · obtain ⟨m2, rfl⟩ : ∃ y, m2 = y + 1 := ⟨m2 - 1, by omega⟩
        rw [hMi EZ Z m2 hZ, if_pos hx]
    have hc1 : (nI d < gI A 24 t 1 - (2 : Int32) * nI i - 1) ↔ d + 2 * i + 1 < n := by
      rw [hC.I (K := 24) (by omega), s3, Int32.lt_iff_toInt_lt, z1, nI_toInt (by omega)]
      omega
    have hm1 : (nI d ≤ nI n - (2 : Int32) * nI i - 2) ↔ d + 2 * i + 1 < n := by
      rw [Int32.le_iff_toInt_le, z2, nI_toInt (by omega)]
      omega
    by_cases hsz : d + 2 * i + 1 < n
    rotate_left
    · refine ⟨-12, E, A, M, ?_, hR, hC, fun _ _ => ⟨rfl, rfl, rfl⟩, rfl, rfl, fun EZ Z m2 hm2 _ hZ => ⟨Z, ?_, hZ, fun _ _ => ⟨rfl, rfl, rfl⟩⟩⟩
      · rw [pups6_b, if_neg h0, if_neg (q_n0 hd), if_neg (fun y => hsz (hc1.mp y))]
      · obtain ⟨m2, rfl⟩ : ∃ y, m2 = y + 1 := ⟨m2 - 1, by omega⟩
        rw [hMi EZ Z m2 hZ, if_neg (q_n0 hd), if_neg (fun y => hsz (hm1.mp y))]
    have i40 : ((40 : Int32) * nI t) + nI d + (2 : Int32) * nI i = nI (40 * t + (d + 2 * i)) := by
      rw [show (40 : Int32) = nI 40 from rfl, pk_mul, nI_add, q_pl, Nat.add_assoc]
    have hcs : pups6_b t (nI d) (nI c) (m + 1) E A v6 (nI i) = pups6_b t (nI d) (nI c) m (pup6 E A (gI A 25 t (d + 2 * i)) (gI A 25 t (d + 2 * i + 1))).2.1 (pup6 E A (gI A 25 t (d + 2 * i)) (gI A 25 t (d + 2 * i + 1))).2.2
        (if (pup6 E A (gI A 25 t (d + 2 * i)) (gI A 25 t (d + 2 * i + 1))).1 < 0 then v6 else v6 + 1) (nI (i + 1)) := by
      rw [pups6_b, if_neg h0, if_neg (q_n0 hd), if_pos (hc1.mpr hsz), q_pl, nI_1, ck_in (ib_nI (by omega) (by decide)), ck_in (ib_nI (by omega) (by decide)), q_cl (by omega), q_cl (by omega), nI_1]
    have x1 : gI A 25 t (d + 2 * i) = gI M 85 0 (40 * t + (d + 2 * i)) := (hC.I (by omega)).trans (s5 _ (by omega))
    have x2 : gI A 25 t (d + 2 * i + 1) = gI M 85 0 (40 * t + (d + 2 * i) + 1) := (hC.I (by omega)).trans (s5 _ (by omega))
    rw [x1, x2] at hcs
    have hms : ∀ (EZ : EN) (Z : ST) (m2 : Nat), EM Z M → f_X7_pupils_b64 EZ (m2 + 1) Z (nI t) (nI d) (nI c) v6 (nI i) =
        bd_ (f_X7_isNew EZ Z (gI M 85 0 (40 * t + (d + 2 * i))) (gI M 85 0 (40 * t + (d + 2 * i) + 1))) fun r7 =>
        (if r7 = 0 then f_X7_pupils_b64 EZ m2 Z (nI t) (nI d) (nI c) v6 (nI (i + 1)) else
          (if (gI Z 1 0 0) = (8 : Int32) then f_X7_pupils_b64 EZ m2 Z (nI t) (nI d) (nI c) v6 (nI (i + 1))
          else
            bd_ (f_X7_comes EZ Z (gI M 85 0 (40 * t + (d + 2 * i))) (gI M 85 0 (40 * t + (d + 2 * i) + 1))) fun S8 => f_X7_pupils_b64 EZ m2 S8 (nI t) (nI d) (nI c) (v6 + 1) (nI (i + 1)))) := fun EZ Z m2 hZ => by
      rw [hMi EZ Z m2 hZ, if_neg (q_n0 hd), if_pos (hm1.mpr hsz), i40, nI_1, ck_in (ib_nI (by omega) (by decide)), lt_e, ck_in (ib_nI (by omega) (by decide)), lt_e, q_cl (by omega), q_cl (by omega), hZ.I (K := 85) (by omega), hZ.I (K := 85) (by omega)]
      simp only [lt_, f_X7_pupils_b167, nI_1]
    generalize gI M 85 0 (40 * t + (d + 2 * i)) = y1 at hcs hms
    generalize gI M 85 0 (40 * t + (d + 2 * i) + 1) = y2 at hcs hms
    rcases pup_step h8 y1 y2 with ⟨r, hr0, p1, p2⟩ | ⟨hlt, k, dd, rfl, rfl, hdd, p1, p2⟩
    · rw [p1 A ((hC.I (by omega)).trans hcc), if_pos hr0] at hcs
      obtain ⟨rr, EE, A', M', g1, g2, g3, g4, g5, g6, g7⟩ := ih (i + 1) (by omega) E A M v6 m (by omega) hN hR hC
      refine ⟨rr, EE, A', M', hcs.trans g1, g2, g3, g4, g5, g6, fun EZ Z m2 hm2 hNZ hZ => ?_⟩
      obtain ⟨m2, rfl⟩ : ∃ y, m2 = y + 1 := ⟨m2 - 1, by omega⟩
      obtain ⟨Z', w1, w2⟩ := g7 EZ Z m2 (by omega) hNZ hZ
      refine ⟨Z', ?_, w2⟩
      rw [hms EZ Z m2 hZ]
      rcases p2 EZ Z ((hZ.I (by omega)).trans hmm) with e | ⟨e, e2⟩
      · rw [bd_some e, if_pos rfl]; exact w1
      · rw [bd_some e, if_neg (by decide), if_pos e2]; exact w1
    · rw [p1 A ((hC.I (by omega)).trans hcc), if_neg (q_n0 (show E.2.1 < 2 ^ 31 by omega))] at hcs
      have hR2 := rel_pup hN hR hdd hlt (p1 M hcc) p2
      have hC2 : EC (pupS A E.2.1 (nI k) (nI (dd / 100)) (nI (dd / 10 % 10)) (nI (dd % 10))) (comC (pupS M E.2.1 (nI k) (nI (dd / 100)) (nI (dd / 10 % 10)) (nI (dd % 10))) E.2.1 (nI k) dd) := (pupS_cong hC).tr comC_C
      obtain ⟨rr, EE, A', M', g1, g2, g3, g4, g5, g6, g7⟩ := ih (i + 1) (by omega) (E.1, E.2.1 + 1, E.2.2) _ _ (v6 + 1) m (by omega) hN hR2 hC2
      refine ⟨rr, EE, A', M', hcs.trans g1, g2, g3, pupS_M.tr g4, g5, g6, fun EZ Z m2 hm2 hNZ hZ => ?_⟩
      obtain ⟨m2, rfl⟩ : ∃ y, m2 = y + 1 := ⟨m2 - 1, by omega⟩
      have hZm : gI Z 1 0 0 = nI E.2.1 := (hZ.I (by omega)).trans hmm
      obtain ⟨Z', w1, w2, w3⟩ := g7 EZ (comC Z E.2.1 (nI k) dd) m2 (by omega) hNZ (comC_congM (hZ.tr pupS_M))
      refine ⟨Z', ?_, w2, comC_C.tr w3⟩
      rw [hms EZ Z m2 hZ, bd_some (p2 _ _), if_neg (by decide), if_neg (by rw [hZm, q_eqR 8 (by decide) (by omega)]; omega), bd_some (s_comes (by omega) hlt hdd hZm)]
      exact w1
theorem j_pupils {E : EN} {S : ST} (hN : 20300 ≤ E.1) (h : REL E S) (a b x3 x4 : Int32) : ∃ (r : Int32) (EE : EN) (S1 S2 : ST), pups6 E S a b x3 x4 = some (r, EE, S1) ∧ f_X7_pupils EE S1 a b x3 x4 = some (r, S2) ∧ REL EE S2 ∧ EE.1 = E.1 ∧ EE.2.2 = E.2.2 := by
  obtain ⟨hP, hS, -, -, -, -, -⟩ := id h
  rcases q_sheet a with ⟨t, ht, rfl⟩ | hno
  rotate_left
  · refine ⟨-2, E, S, S, ?_, ?_, h, rfl, rfl⟩
    · unfold pups6
      rw [bd_some (s_laid0 hno)]
      rfl
    · unfold f_X7_pupils
      rw [bd_some (s_isSheet0 hno), if_pos rfl]
  obtain ⟨so, n, hn, hso, s1, s2, s3, s4, s5⟩ := hS t ht
  have hMs : ∀ (EZ : EN) (Z : ST), f_X7_pupils EZ Z (nI t) b x3 x4 = bd_ (f_X7_in EZ Z b (0 : Int32) (2 : Int32)) fun r11 =>
    (if r11 = 0 then some ((-2 : Int32), Z) else
      bd_ (f_X7_in EZ Z x4 (0 : Int32) (8 : Int32)) fun r12 =>
      (if r12 = 0 then some ((-2 : Int32), Z) else
        (if 0 ≤ (gI Z 83 0 t) then
          (if (gI Z 83 0 t) = b then f_X7_pupils_b64 EZ EZ.1 Z (nI t) x3 x4 (0 : Int32) (0 : Int32) else some ((-13 : Int32), Z))
        else some ((-11 : Int32), Z)))) := fun EZ Z => by
    unfold f_X7_pupils
    rw [bd_some (s_isSheet1 ht), if_neg (by decide), ck_in (ib_nI ht (by decide)), q_cl (show t < 2147483648 by omega)]
  unfold pups6
  rw [bd_some (s_laid1 ht), nl_so, ck_in (decide_eq_true ht), s1]
  by_cases hb1 : b < 0
  · exact ⟨-2, E, S, S, by rw [if_pos hb1], by rw [hMs, bd_some (s_in0 (Or.inl hb1)), if_pos rfl], h, rfl, rfl⟩
  by_cases hb2 : (2 : Int32) < b
  · exact ⟨-2, E, S, S, by rw [if_neg hb1, if_pos hb2], by rw [hMs, bd_some (s_in0 (Or.inr hb2)), if_pos rfl], h, rfl, rfl⟩
  have hbi : ∀ (EZ : EN) (Z : ST), f_X7_in EZ Z b (0 : Int32) (2 : Int32) = some 1 := fun _ _ => s_in1 (fun y => y.elim hb1 hb2)
  rw [if_neg hb1, if_neg hb2]
  rcases q_or x4 with hx | ⟨c, hc, rfl⟩
  · exact ⟨-2, E, S, S, by rw [if_pos hx], by rw [hMs, bd_some (hbi _ _), if_neg (by decide), bd_some (s_in0 (Or.inl hx)), if_pos rfl], h, rfl, rfl⟩
  rw [if_neg (q_n0 hc)]
  by_cases hc8 : c ≤ 8
  rotate_left
  · exact ⟨-2, E, S, S, by rw [if_neg (by rw [q_leR 8 (by decide) hc]; exact hc8)], by rw [hMs, bd_some (hbi _ _), if_neg (by decide), bd_some (s_in0 (Or.inr (by rw [q_ltL 8 (by decide) hc]; omega))), if_pos rfl], h, rfl, rfl⟩
  have hci : ∀ (EZ : EN) (Z : ST), f_X7_in EZ Z (nI c) (0 : Int32) (8 : Int32) = some 1 := fun _ _ => s_in1 (by
    rintro (y | y)
    · exact q_n0 hc y
    · rw [q_ltL 8 (by decide) hc] at y; omega)
  rw [if_pos (by rw [q_leR 8 (by decide) hc]; exact hc8)]
  rcases so_cases hso with ⟨u1, u2, u3, u4⟩ | ⟨u1, u2, u3⟩
  · exact ⟨-11, E, S, S, by rw [if_pos (Or.inl u1), if_pos u1], by rw [hMs, bd_some (hbi _ _), if_neg (by decide), bd_some (hci _ _), if_neg (by decide), s2, if_neg u4], h, rfl, rfl⟩
  by_cases hsb : so = b
  rotate_left
  · exact ⟨-13, E, S, S, by rw [if_neg (fun y => y.elim u1 hsb)], by rw [hMs, bd_some (hbi _ _), if_neg (by decide), bd_some (hci _ _), if_neg (by decide), s2, if_pos u3, if_neg hsb], h, rfl, rfl⟩
  rw [if_pos (Or.inr hsb), if_neg u1]
  obtain ⟨r, EE, A', M', g1, g2, g3, g4, g5, g6, g7⟩ := pups_loop (x3 := x3) ht hc8 c 0 (by omega) E S S 0 E.1 (by omega) hN h (fun _ _ => ⟨rfl, rfl, rfl⟩)
  obtain ⟨Z', w1, w2, w3⟩ := g7 EE A' EE.1 (by omega) (by omega) (fun K hK => ⟨(g4 K hK).1.symm, (g4 K hK).2.1.symm, (g4 K hK).2.2.symm⟩)
  have hZ : Z' = M' := ECM (fun K hK => ⟨(w3 K hK).1.symm.trans (g3 K hK).1, (w3 K hK).2.1.symm.trans (g3 K hK).2.1, (w3 K hK).2.2.symm.trans (g3 K hK).2.2⟩) w2
  refine ⟨r, EE, A', Z', g1, ?_, by rw [hZ]; exact g2, g5, g6⟩
  have h83 : gI A' 83 0 t = so := by
    show A'.1 83 0 t = so
    rw [← (g4 83 (by omega)).1]
    exact s2
  rw [hMs, bd_some (hbi _ _), if_neg (by decide), bd_some (hci _ _), if_neg (by decide), h83, if_pos u3, if_pos hsb]
  exact w1
