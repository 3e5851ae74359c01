/-! PURE PART: pupil -/
def comC (S : ST) (p : Nat) (a : Int32) (d : Nat) : ST := sI (st5 (sI (sI (sI (sI S 41 0 p a) 42 0 p (nI (d / 100))) 43 0 p (nI (d / 10 % 10))) 44 0 p (nI (d % 10))) 45 0 (5 * p) (fun s => if s = 0 then 1 else 0)) 1 0 0 (nI (p + 1))
theorem s_comes {E : EN} {S : ST} {p d : Nat} {a : Int32} (hN : 10 ≤ E.1) (hp : p < 8) (hd : d < 2147483648) (hm : gI S 1 0 0 = nI p) : f_X7_comes E S a (nI d) = some (comC S p a d) := by
  have st : ∀ (n k : Nat) (S : ST), k < 5 → gI S 1 0 0 = nI p → f_X7_comes_b54 E (n + 1) S (nI k) = f_X7_comes_b54 E n (sI S 45 0 (5 * p + k) (if k = 0 then 1 else 0)) (nI (k + 1)) := fun n k S hk hm => by
    show g_X7_comes_b54 E (f_X7_comes_b54 E n) S (nI k) = _
    unfold g_X7_comes_b54
    rw [if_neg (by rw [q_leL 5 (by decide) (by omega)]; omega), hm, q_i5]
    by_cases z : k = 0
    · rw [if_pos (by rw [z]; rfl), if_pos z]
      unfold f_X7_comes_b80
      rw [ck_in (ib_nI (by omega) (by decide)), q_cl (by omega)]
      simp only [lt_]
      rw [nI_1]
    · rw [if_neg (by rw [q_eqR 0 (by decide) (by omega)]; exact z), if_neg z]
      unfold f_X7_comes_b80
      rw [ck_in (ib_nI (by omega) (by decide)), q_cl (by omega)]
      simp only [lt_]
      rw [nI_1]
  have en : ∀ (n : Nat) (S : ST), gI S 1 0 0 = nI p → f_X7_comes_b54 E (n + 1) S (nI 5) = some (sI S 1 0 0 (nI (p + 1))) := fun n S hm => by
    show g_X7_comes_b54 E (f_X7_comes_b54 E n) S (nI 5) = _
    unfold g_X7_comes_b54
    rw [if_pos (by decide)]
    unfold f_X7_comes_b87
    simp only [lt_]
    rw [hm, nI_1]
  obtain ⟨m, hm2⟩ : ∃ m, E.1 = m + 6 := ⟨E.1 - 6, by omega⟩
  have g0 : ∀ (T : ST) (K j : Nat) (v : Int32), K ≠ 1 → gI T 1 0 0 = nI p → gI (sI T K 0 j v) 1 0 0 = nI p := fun T K j v h1 h2 => by
    rw [gI_ne (by omega), h2]
  unfold f_X7_comes
  rw [hm, ck_in (ib_nI hp (by decide)), q_cl (by omega), lt_e, g0 _ _ _ _ (by decide) hm, ck_in (ib_nI hp (by decide)), q_cl (by omega), lt_e, g0 _ _ _ _ (by decide) (g0 _ _ _ _ (by decide) hm), ck_in (ib_nI hp (by decide)), q_cl (by omega), lt_e,
    g0 _ _ _ _ (by decide) (g0 _ _ _ _ (by decide) (g0 _ _ _ _ (by decide) hm)), ck_in (ib_nI hp (by decide)), q_cl (by omega), lt_e, q_dv100 hd, q_dv10 hd, q_rm10 (by omega), q_rm10 hd]
  have h4 : gI (sI (sI (sI (sI S 41 0 p a) 42 0 p (nI (d / 100))) 43 0 p (nI (d / 10 % 10))) 44 0 p (nI (d % 10))) 1 0 0 = nI p := g0 _ _ _ _ (by decide) (g0 _ _ _ _ (by decide) (g0 _ _ _ _ (by decide) (g0 _ _ _ _ (by decide) hm)))
  rw [hm2, show (0 : Int32) = nI 0 from rfl, st _ 0 _ (by decide) h4, st _ 1 _ (by decide) (g0 _ _ _ _ (by decide) h4), st _ 2 _ (by decide) (g0 _ _ _ _ (by decide) (g0 _ _ _ _ (by decide) h4)), st _ 3 _ (by decide) (g0 _ _ _ _ (by decide) (g0 _ _ _ _ (by decide) (g0 _ _ _ _ (by decide) h4))),
    st _ 4 _ (by decide) (g0 _ _ _ _ (by decide) (g0 _ _ _ _ (by decide) (g0 _ _ _ _ (by decide) (g0 _ _ _ _ (by decide) h4)))), en _ _ (g0 _ _ _ _ (by decide) (g0 _ _ _ _ (by decide) (g0 _ _ _ _ (by decide) (g0 _ _ _ _ (by decide) (g0 _ _ _ _ (by decide) h4)))))]
  rfl
theorem gI_comC {S : ST} {p : Nat} {a : Int32} {d K i j : Nat} (h : K ≠ 1 ∧ K ≠ 41 ∧ K ≠ 42 ∧ K ≠ 43 ∧ K ≠ 44 ∧ K ≠ 45) : gI (comC S p a d) K i j = gI S K i j := by
  unfold comC
  rw [gI_ne (by omega), gI_st5, if_neg (by omega), gI_ne (by omega), gI_ne (by omega), gI_ne (by omega), gI_ne (by omega)]
theorem gI_pupC {S : ST} {p : Nat} {k c so n : Int32} {K i j : Nat} (h : ¬ ((K = 20 ∨ K = 21 ∨ K = 22) ∧ i = p)) : gI (pupC S p k c so n) K i j = gI S K i j := congrFun (pupC_o K i h).1 j
/-- the class' state behind a pupil -/
def pupS (S : ST) (p : Nat) (k c so n : Int32) : ST := sI (sR (pupC S p k c so n) 3 0 p (some p)) 2 0 1 (nI (p + 1))
theorem gI_pupS {S : ST} {p : Nat} {k c so n : Int32} {K i j : Nat} (h : ¬ ((K = 20 ∨ K = 21 ∨ K = 22) ∧ i = p)) (h2 : K ≠ 2) : gI (pupS S p k c so n) K i j = gI S K i j := by
  unfold pupS
  rw [gI_ne (by omega), gI_sR, gI_pupC h]
theorem pupS_F {S : ST} {p : Nat} {k c so n : Int32} : Fm [(2, 2), (3, 0), (20, 0), (21, 0), (22, 0)] S (pupS S p k c so n) := fun K i j hw => by
  have hK : K ≠ 3 ∧ K ≠ 20 ∧ K ≠ 21 ∧ K ≠ 22 ∧ ¬ (K = 2 ∧ j = 1) := by
    refine ⟨?_, ?_, ?_, ?_, ?_⟩
    · intro e; subst e; simp [wq] at hw
    · intro e; subst e; simp [wq] at hw
    · intro e; subst e; simp [wq] at hw
    · intro e; subst e; simp [wq] at hw
    · rintro ⟨e, e2⟩; subst e; subst e2; simp [wq] at hw
  refine ⟨?_, rfl, ?_⟩
  · show gI (pupS S p k c so n) K i j = gI S K i j
    unfold pupS
    rw [gI_ne (by omega), gI_sR, gI_pupC (by omega)]
  · show ct S.2.2 3 0 (va_up (S.2.2 3 0) p (some p)) K i j = S.2.2 K i j
    rw [ct_ne _ _ _ _ (by omega)]
theorem RI.up {E : EN} {S S1 : ST} (h : RI E S) (hR : ∀ p K, p < E.2.1 → K = 20 ∨ K = 22 → ∀ j, gI S1 K p j = gI S K p j) (a : Ag [(2, 13), (2, 14), (2, 15), (1, 39), (1, 40), (1, 41), (81, 0), (82, 0)] S S1) : RI (E.1, E.2.1 + 1, E.2.2) S1 := by
  rcases h with ⟨h1, h2⟩ | ⟨h1, h2, n, t, h3, h4, h5, h6, h7, h8, h9⟩
  · exact Or.inl ⟨(a.I rfl).trans h1, (a.I rfl).trans h2⟩
  · refine Or.inr ⟨(a.I rfl).trans h1, (a.I rfl).trans h2, n, t, Nat.le_succ_of_le h3, h4, (a.I rfl).trans h5, (a.I rfl).trans h6, (a.I rfl).trans h7, (a.I rfl).trans h8, fun p hp => ?_⟩
    obtain ⟨g, w, q1, q2, q3, q4, q5, q6⟩ := h9 p hp
    exact ⟨g, w, q1, q2, q3, (hR p 20 (by omega) (Or.inl rfl) 5).trans q4, (a.I rfl).trans q5, fun s hs => ⟨(hR p 22 (by omega) (Or.inr rfl) s).trans (q6 s hs).1, (a.I rfl).trans (q6 s hs).2⟩⟩
theorem pup_bad {E : EN} {S : ST} {a b : Int32} (h : f_X7_isNew E S a b = some 0) : f_X7_pupil E S a b = some (-2, S) := by
  unfold f_X7_pupil
  rw [bd_some h, if_pos rfl]
theorem j_pupil {E : EN} {S : ST} (hN : 20300 ≤ E.1) (h : REL E S) (a b : Int32) : ∃ (r : Int32) (EE : EN) (S1 S2 : ST), pup6 E S a b = (r, EE, S1) ∧ f_X7_pupil EE S1 a b = some (r, S2) ∧ REL EE S2 ∧ EE.1 = E.1 ∧ EE.2.2 = E.2.2 := by
  obtain ⟨hP, hS, hI, hT, hR, hC, t, hU⟩ := id h
  obtain ⟨h8, hc, hm, hr, hp⟩ := id hP
  have bad : pup6 E S a b = (-2, E, S) → f_X7_isNew E S a b = some 0 → ∃ (r : Int32) (EE : EN) (S1 S2 : ST), pup6 E S a b = (r, EE, S1) ∧ f_X7_pupil EE S1 a b = some (r, S2) ∧ REL EE S2 ∧ EE.1 = E.1 ∧ EE.2.2 = E.2.2 := fun e1 e2 => ⟨-2, E, S, S, e1, pup_bad e2, h, rfl, rfl⟩
  rcases q_or a with ha | ⟨k, hk, rfl⟩
  · refine bad (by unfold pup6; rw [if_pos ha]) ?_
    unfold f_X7_isNew
    rw [bd_some (s_in0 (Or.inl ha)), if_pos rfl]
  by_cases k6 : k < 6
  rotate_left
  · refine bad (by unfold pup6; rw [if_neg (q_n0 hk), if_pos (by rw [q_leL 6 (by decide) hk]; omega)]) ?_
    unfold f_X7_isNew
    rw [bd_some (s_in0 (Or.inr (by rw [q_ltL 5 (by decide) hk]; omega))), if_pos rfl]
  have i1 : f_X7_in E S (nI k) (0 : Int32) (5 : Int32) = some 1 := s_in1 (by
    rintro (q1 | q1)
    · exact q_n0 hk q1
    · rw [q_ltL 5 (by decide) hk] at q1; omega)
  rcases q_or b with hb | ⟨d, hd, rfl⟩
  · refine bad (by unfold pup6; rw [if_neg (q_n0 hk), if_neg (by rw [q_leL 6 (by decide) hk]; omega), if_neg (fun y => by
      have := Int32.lt_iff_toInt_lt.mp hb
      have := Int32.le_iff_toInt_le.mp y
      omega)]) ?_
    unfold f_X7_isNew
    rw [bd_some i1, if_neg (by decide), bd_some (s_in0 (Or.inl hb)), if_pos rfl]
  have b0 : (0 : Int32) ≤ nI d := by rw [q_leL 0 (by decide) hd]; omega
  have b5 : ((5 : Int32) ≤ nI d / 100) ↔ 5 ≤ d / 100 := by rw [q_dv100 hd, q_leL 5 (by decide) (by omega)]
  have b4 : (rmI (nI d / 10) 10 < 4) ↔ d / 10 % 10 < 4 := by rw [q_dv10 hd, q_rm10 (by omega), q_ltR 4 (by decide) (by omega)]
  have b6 : ((4 : Int32) ≤ rmI (nI d / 10) 10) ↔ 4 ≤ d / 10 % 10 := by rw [q_dv10 hd, q_rm10 (by omega), q_leL 4 (by decide) (by omega)]
  by_cases d5 : 5 ≤ d / 100
  · refine bad (by unfold pup6; rw [if_neg (q_n0 hk), if_neg (by rw [q_leL 6 (by decide) hk]; omega), if_pos b0, if_pos (b5.mpr d5)]) ?_
    unfold f_X7_isNew
    rw [bd_some i1, if_neg (by decide), bd_some (s_in0 (Or.inr (by rw [q_ltL 439 (by decide) hd]; omega))), if_pos rfl]
  by_cases d4 : d / 10 % 10 < 4
  rotate_left
  · refine bad (by unfold pup6; rw [if_neg (q_n0 hk), if_neg (by rw [q_leL 6 (by decide) hk]; omega), if_pos b0, if_neg (fun y => d5 (b5.mp y)), if_neg (fun y => d4 (b4.mp y))]) ?_
    unfold f_X7_isNew
    rw [bd_some i1, if_neg (by decide)]
    by_cases d9 : d ≤ 439
    · rw [bd_some (s_in1 (by
        rintro (q1 | q1)
        · exact q_n0 hd q1
        · rw [q_ltL 439 (by decide) hd] at q1; omega)), if_neg (by decide), if_pos (b6.mpr (by omega))]
    · rw [bd_some (s_in0 (Or.inr (by rw [q_ltL 439 (by decide) hd]; omega))), if_pos rfl]
  have i2 : ∀ (E : EN) (S : ST), f_X7_isNew E S (nI k) (nI d) = some 1 := fun E S => by
    unfold f_X7_isNew
    rw [bd_some (s_in1 (by
      rintro (q1 | q1)
      · exact q_n0 hk q1
      · rw [q_ltL 5 (by decide) hk] at q1; omega)), if_neg (by decide), bd_some (s_in1 (by
        rintro (q1 | q1)
        · exact q_n0 hd q1
        · rw [q_ltL 439 (by decide) hd] at q1; omega)), if_neg (by decide), if_neg (fun y => by have := b6.mp y; omega)]
  have hpre : ∀ x y : Int32 × EN × ST, (gI S 2 0 1 < 8 → pup6 E S (nI k) (nI d) = (gI (sI (sR (pupC S E.2.1 (nI k) (nI d / 100) (rmI (nI d / 10) 10) (rmI (nI d) 10)) 3 0 E.2.1 (some E.2.1)) 2 0 1 (gI S 2 0 1 + 1)) 2 0 1 - 1, (E.1, E.2.1 + 1, E.2.2), sI (sR (pupC S E.2.1 (nI k) (nI d / 100) (rmI (nI d / 10) 10) (rmI (nI d) 10)) 3 0 E.2.1 (some E.2.1)) 2 0 1 (gI S 2 0 1 + 1))) ∧ (¬ gI S 2 0 1 < 8 → pup6 E S (nI k) (nI d) = (-4, E, S)) := fun _ _ => by
    unfold pup6
    rw [if_neg (q_n0 hk), if_neg (by rw [q_leL 6 (by decide) hk]; omega), if_pos b0, if_neg (fun y => d5 (b5.mp y)), if_pos (b4.mpr d4)]
    exact ⟨fun y => by rw [if_pos y], fun y => by rw [if_neg y]⟩
  obtain ⟨p1, p2⟩ := hpre (0, E, S) (0, E, S)
  by_cases n8 : E.2.1 = 8
  · refine ⟨-4, E, S, S, p2 (by rw [hc, n8]; decide), ?_, h, rfl, rfl⟩
    unfold f_X7_pupil
    rw [bd_some (i2 E S), if_neg (by decide), if_pos (by rw [hm, n8]; rfl)]
  have hlt : E.2.1 < 8 := by omega
  have e1 := p1 (by rw [hc, q_ltR 8 (by decide) (by omega)]; exact hlt)
  rw [q_dv100 hd, q_dv10 hd, q_rm10 (by omega), q_rm10 hd, hc, nI_1, gI_same, nI_pred] at e1
  have e1 : pup6 E S (nI k) (nI d) = (nI E.2.1, (E.1, E.2.1 + 1, E.2.2), pupS S E.2.1 (nI k) (nI (d / 100)) (nI (d / 10 % 10)) (nI (d % 10))) := e1
  have F1 : Fm [(2, 2), (3, 0), (20, 0), (21, 0), (22, 0)] S (pupS S E.2.1 (nI k) (nI (d / 100)) (nI (d / 10 % 10)) (nI (d % 10))) := pupS_F
  have hm1 : gI (pupS S E.2.1 (nI k) (nI (d / 100)) (nI (d / 10 % 10)) (nI (d % 10))) 1 0 0 = nI E.2.1 := (F1.I rfl).trans hm
  have e2 : f_X7_pupil (E.1, E.2.1 + 1, E.2.2) (pupS S E.2.1 (nI k) (nI (d / 100)) (nI (d / 10 % 10)) (nI (d % 10))) (nI k) (nI d) = some (nI E.2.1, comC (pupS S E.2.1 (nI k) (nI (d / 100)) (nI (d / 10 % 10)) (nI (d % 10))) E.2.1 (nI k) d) := by
    unfold f_X7_pupil
    rw [bd_some (i2 _ _), if_neg (by decide), if_neg (by rw [hm1, q_eqR 8 (by decide) (by omega)]; omega), bd_some (s_comes (by show 10 ≤ E.1; omega) hlt hd hm1)]
    unfold comC
    rw [gI_same, nI_pred]
  refine ⟨_, _, _, _, e1, e2, ?_, rfl, rfl⟩
  have F2 := fr_X7_pupil _ _ _ _ _ _ e2
  generalize hS1 : pupS S E.2.1 (nI k) (nI (d / 100)) (nI (d / 10 % 10)) (nI (d % 10)) = S1 at F1 hm1 e2 F2 ⊢
  have F : Fm ([(2, 2), (3, 0), (20, 0), (21, 0), (22, 0)] ++ ww_X7_pupil) S (comC S1 E.2.1 (nI k) d) := (F1.mono rfl).trans (F2.mono rfl)
  have old : ∀ (p K j : Nat), p < E.2.1 → K = 20 ∨ K = 21 ∨ K = 22 → gI (comC S1 E.2.1 (nI k) d) K p j = gI S K p j := fun p K j hp hK => by
    rw [gI_comC (by omega), ← hS1, gI_pupS (by omega) (by omega)]
  have n20 : ∀ j, gI (comC S1 E.2.1 (nI k) d) 20 E.2.1 j = puF (nI k) (nI (d / 100)) (nI (d / 10 % 10)) (nI (d % 10)) j := fun j => by
    rw [gI_comC (by omega), ← hS1]
    unfold pupS
    rw [gI_ne (by omega), gI_sR]
    exact congrFun pupC_0 j
  have n21 : ∀ j, gI (comC S1 E.2.1 (nI k) d) 21 E.2.1 j = pu1 j := fun j => by
    rw [gI_comC (by omega), ← hS1]
    unfold pupS
    rw [gI_ne (by omega), gI_sR]
    exact congrFun pupC_1 j
  refine ⟨⟨by show E.2.1 + 1 ≤ 8; omega, ?_, ?_, fun j => ?_, fun p hp9 => ?_⟩, hS.keep (F.ag rfl), hI.up (fun p K hp hK j => old p K j hp (by omega)) (F.ag rfl), hT.keep (F.ag rfl), RR.keep (E := (E.1, E.2.1 + 1, E.2.2)) hR (F.ag rfl), RC.keep (E := (E.1, E.2.1 + 1, E.2.2)) hC (F.ag rfl), t, RU.keep (E := (E.1, E.2.1 + 1, E.2.2)) hU (F.ag rfl)⟩
  · show gI _ 2 0 1 = nI (E.2.1 + 1)
    rw [gI_comC (by omega), ← hS1]
    unfold pupS
    rw [gI_same]
  · show gI _ 1 0 0 = nI (E.2.1 + 1)
    unfold comC
    rw [gI_same]
  · show S1.2.2 3 0 j = if j < E.2.1 + 1 then some j else none
    rw [← hS1]
    show ct S.2.2 3 0 (va_up (S.2.2 3 0) E.2.1 (some E.2.1)) 3 0 j = _
    rw [ct_at]
    unfold va_up
    have := hr j
    by_cases z : j = E.2.1
    · rw [if_pos z, if_pos (by omega), z]
    · rw [if_neg z]
      refine this.trans ?_
      by_cases y : j < E.2.1
      · rw [if_pos y, if_pos (by omega)]
      · rw [if_neg y, if_neg (by omega)]
  · have hp9 : p < E.2.1 + 1 := hp9
    by_cases z : p = E.2.1
    · subst z
      refine ⟨k, d / 100, d / 10 % 10, d % 10, fun s => if s = 0 then 1 else 0, ⟨k6, by omega, d4, by omega, by decide, by decide⟩, ⟨?_, ?_, ?_, ?_⟩, ⟨?_, ?_, ?_, ?_⟩, fun s hs => ?_, fun s hs => ?_⟩
      · unfold comC
        rw [gI_ne (by omega), gI_st5, if_neg (by omega), gI_ne (by omega), gI_ne (by omega), gI_ne (by omega), gI_same]
      · unfold comC
        rw [gI_ne (by omega), gI_st5, if_neg (by omega), gI_ne (by omega), gI_ne (by omega), gI_same]
      · unfold comC
        rw [gI_ne (by omega), gI_st5, if_neg (by omega), gI_ne (by omega), gI_same]
      · unfold comC
        rw [gI_ne (by omega), gI_st5, if_neg (by omega), gI_same]
      · rw [n20]; rfl
      · rw [n20]; rfl
      · rw [n20]; rfl
      · rw [n20]; rfl
      · unfold comC
        rw [gI_ne (by omega), gI_st5, if_pos ⟨rfl, rfl, by omega, by omega⟩, Nat.add_sub_cancel_left]
        match s, hs with
        | 0, _ => rfl
        | 1, _ => rfl
        | 2, _ => rfl
        | 3, _ => rfl
        | 4, _ => rfl
      · rw [n21]
        unfold pu1
        match s, hs with
        | 0, _ => rfl
        | 1, _ => rfl
        | 2, _ => rfl
        | 3, _ => rfl
        | 4, _ => rfl
    · obtain ⟨k', g', c', n', w', x1, ⟨a1, a2, a3, a4⟩, ⟨b1, b2, b3, b4⟩, d1, d2⟩ := hp p (by omega)
      have kept : ∀ K j, gI S1 K 0 j = gI S K 0 j → K = 41 ∨ K = 42 ∨ K = 43 ∨ K = 44 → j ≠ E.2.1 → gI (comC S1 E.2.1 (nI k) d) K 0 j = gI S K 0 j := fun K j y yK yj => by
        unfold comC
        rw [gI_ne (by omega), gI_st5, if_neg (by omega), gI_ne (by omega), gI_ne (by omega), gI_ne (by omega), gI_ne (by omega), y]
      refine ⟨k', g', c', n', w', x1, ⟨?_, ?_, ?_, ?_⟩, ⟨?_, ?_, ?_, ?_⟩, fun s hs => ?_, fun s hs => ?_⟩
      · rw [kept 41 p (F1.I rfl) (by omega) z]; exact a1
      · rw [kept 42 p (F1.I rfl) (by omega) z]; exact a2
      · rw [kept 43 p (F1.I rfl) (by omega) z]; exact a3
      · rw [kept 44 p (F1.I rfl) (by omega) z]; exact a4
      · rw [old p 20 _ (by omega) (by omega)]; exact b1
      · rw [old p 20 _ (by omega) (by omega)]; exact b2
      · rw [old p 20 _ (by omega) (by omega)]; exact b3
      · rw [old p 20 _ (by omega) (by omega)]; exact b4
      · unfold comC
        rw [gI_ne (by omega), gI_st5, if_neg (by omega), gI_ne (by omega), gI_ne (by omega), gI_ne (by omega), gI_ne (by omega)]
        exact (F1.I rfl).trans (d1 s hs)
      · rw [old p 21 _ (by omega) (by omega)]; exact d2 s hs
