/-! PURE PART: pupil -/
def comC (S : ST) (p : Nat) (a : Int32) (d : Nat) : ST := sI (st5 (sI (sI (sI (sI S 41 0 p a) 42 0 p (nI (d / 100))) 43 0 p (nI (d / 10 % 10))) 44 0 p (nI (d % 10))) 45 0 (5 * p) (fun s => if s = 0 then 1 else 0)) 1 0 0 (nI (p + 1))
theorem s_comes {E : EN} {S : ST} {p d : Nat} {a : Int32} (hN : 10 ≤ E.1) (hp : p < 8) (hd : d < 2147483648) (hm : gI S 1 0 0 = nI p) : f_X7_comes E S a (nI d) = some (comC S p a d) := by
  have st : ∀ (n k : Nat) (S : ST), k < 5 → gI S 1 0 0 = nI p → f_X7_comes_b54 E (n + 1) S (nI k) = f_X7_comes_b54 E n (sI S 45 0 (5 * p + k) (if k = 0 then 1 else 0)) (nI (k + 1)) := fun n k S hk hm => by
    show g_X7_comes_b54 E (f_X7_comes_b54 E n) S (nI k) = _
    unfold g_X7_comes_b54
    rw [if_neg (by rw [q_leL 5 (by decide) (by omega)]; omega), hm, q_i5]
    by_cases z : k = 0
    · rw [if_pos (by rw [z]; rfl), if_pos z]
      unfold f_X7_comes_b80
      rw [ck_in (ib_nI (by omega) (by decide)), q_cl (by omega)]
      simp only [lt_]
      rw [nI_1]
    · rw [if_neg (by rw [q_eqR 0 (by decide) (by omega)]; exact z), if_neg z]
      unfold f_X7_comes_b80
      rw [ck_in (ib_nI (by omega) (by decide)), q_cl (by omega)]
      simp only [lt_]
      rw [nI_1]
  have en : ∀ (n : Nat) (S : ST), gI S 1 0 0 = nI p → f_X7_comes_b54 E (n + 1) S (nI 5) = some (sI S 1 0 0 (nI (p + 1))) := fun n S hm => by
    show g_X7_comes_b54 E (f_X7_comes_b54 E n) S (nI 5) = _
    unfold g_X7_comes_b54
    rw [if_pos (by decide)]
    unfold f_X7_comes_b87
    simp only [lt_]
    rw [hm, nI_1]
  obtain ⟨m, hm2⟩ : ∃ m, E.1 = m + 6 := ⟨E.1 - 6, by omega⟩
  have g0 : ∀ (T : ST) (K j : Nat) (v : Int32), K ≠ 1 → gI T 1 0 0 = nI p → gI (sI T K 0 j v) 1 0 0 = nI p := fun T K j v h1 h2 => by
    rw [gI_ne (by omega), h2]
  unfold f_X7_comes
  rw [hm, ck_in (ib_nI hp (by decide)), q_cl (by omega), lt_e, g0 _ _ _ _ (by decide) hm, ck_in (ib_nI hp (by decide)), q_cl (by omega), lt_e, g0 _ _ _ _ (by decide) (g0 _ _ _ _ (by decide) hm), ck_in (ib_nI hp (by decide)), q_cl (by omega), lt_e,
    g0 _ _ _ _ (by decide) (g0 _ _ _ _ (by decide) (g0 _ _ _ _ (by decide) hm)), ck_in (ib_nI hp (by decide)), q_cl (by omega), lt_e, q_dv100 hd, q_dv10 hd, q_rm10 (by omega), q_rm10 hd]
  have h4 : gI (sI (sI (sI (sI S 41 0 p a) 42 0 p (nI (d / 100))) 43 0 p (nI (d / 10 % 10))) 44 0 p (nI (d % 10))) 1 0 0 = nI p := g0 _ _ _ _ (by decide) (g0 _ _ _ _ (by decide) (g0 _ _ _ _ (by decide) (g0 _ _ _ _ (by decide) hm)))
  rw [hm2, show (0 : Int32) = nI 0 from rfl, st _ 0 _ (by decide) h4, st _ 1 _ (by decide) (g0 _ _ _ _ (by decide) h4), st _ 2 _ (by decide) (g0 _ _ _ _ (by decide) (g0 _ _ _ _ (by decide) h4)), st _ 3 _ (by decide) (g0 _ _ _ _ (by decide) (g0 _ _ _ _ (by decide) (g0 _ _ _ _ (by decide) h4))),
    st _ 4 _ (by decide) (g0 _ _ _ _ (by decide) (g0 _ _ _ _ (by decide) (g0 _ _ _ _ (by decide) (g0 _ _ _ _ (by decide) h4)))), en _ _ (g0 _ _ _ _ (by decide) (g0 _ _ _ _ (by decide) (g0 _ _ _ _ (by decide) (g0 _ _ _ _ (by decide) (g0 _ _ _ _ (by decide) h4)))))]
  rfl
theorem gI_comC {S : ST} {p : Nat} {a : Int32} {d K i j : Nat} (h : K ≠ 1 ∧ K ≠ 41 ∧ K ≠ 42 ∧ K ≠ 43 ∧ K ≠ 44 ∧ K ≠ 45) : gI (comC S p a d) K i j = gI S K i j := by
  unfold comC
  rw [gI_ne (by omega), gI_st5, if_neg (by omega), gI_ne (by omega), gI_ne (by omega), gI_ne (by omega), gI_ne (by omega)]
theorem gI_pupC {S : ST} {p : Nat} {k c so n : Int32} {K i j : Nat} (h : ¬ ((K = 20 ∨ K = 21 ∨ K = 22) ∧ i = p)) : gI (pupC S p k c so n) K i j = gI S K i j := congrFun (pupC_o K i h).1 j
/-- the class' state behind a pupil -/
def pupS (S : ST) (p : Nat) (k c so n : Int32) : ST := sI (sR (pupC S p k c so n) 3 0 p (some p)) 2 0 1 (nI (p + 1))
theorem gI_pupS {S : ST} {p : Nat} {k c so n : Int32} {K i j : Nat} (h : ¬ ((K = 20 ∨ K = 21 ∨ K = 22) ∧ i = p)) (h2 : K ≠ 2) : gI (pupS S p k c so n) K i j = gI S K i j := by
  unfold pupS
  rw [gI_ne (by omega), gI_sR, gI_pupC h]
theorem pupS_F {S : ST} {p : Nat} {k c so n : Int32} : Fm [(2, 2), (3, 0), (20, 0), (21, 0), (22, 0)] S (pupS S p k c so n) := fun K i j hw => by
  have hK : K ≠ 3 ∧ K ≠ 20 ∧ K ≠ 21 ∧ K ≠ 22 ∧ ¬ (K = 2 ∧ j = 1) := by
    refine ⟨?_, ?_, ?_, ?_, ?_⟩ <;> intro e <;> (try obtain ⟨e, e2⟩ := e) <;> (try subst e2) <;> subst e <;> simp [wq] at hw
  refine ⟨?_, rfl, ?_⟩
  · show gI (pupS S p k c so n) K i j = gI S K i j
    unfold pupS
    rw [gI_ne (by omega), gI_sR, gI_pupC (by omega)]
  · show ct S.2.2 3 0 (va_up (S.2.2 3 0) p (some p)) K i j = S.2.2 K i j
    rw [ct_ne _ _ _ _ (by omega)]
theorem RI.up {E : EN} {S S1 : ST} (h : RI E S) (hR : ∀ p K, p < E.2.1 → K = 20 ∨ K = 22 → ∀ j, gI S1 K p j = gI S K p j) (a : Ag [(2, 13), (2, 14), (2, 15), (1, 39), (1, 40), (1, 41), (81, 0), (82, 0)] S S1) : RI (E.1, E.2.1 + 1, E.2.2) S1 := by
  rcases h with ⟨h1, h2⟩ | ⟨h1, h2, n, t, h3, h4, h5, h6, h7, h8, h9⟩
  · exact Or.inl ⟨(a.I rfl).trans h1, (a.I rfl).trans h2⟩
  · refine Or.inr ⟨(a.I rfl).trans h1, (a.I rfl).trans h2, n, t, Nat.le_succ_of_le h3, h4, (a.I rfl).trans h5, (a.I rfl).trans h6, (a.I rfl).trans h7, (a.I rfl).trans h8, fun p hp => ?_⟩
    obtain ⟨g, w, q1, q2, q3, q4, q5, q6⟩ := h9 p hp
    exact ⟨g, w, q1, q2, q3, (hR p 20 (by omega) (Or.inl rfl) 5).trans q4, (a.I rfl).trans q5, fun s hs => ⟨(hR p 22 (by omega) (Or.inr rfl) s).trans (q6 s hs).1, (a.I rfl).trans (q6 s hs).2⟩⟩
