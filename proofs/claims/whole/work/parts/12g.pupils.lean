/-! PURE PART: pupils -/
theorem pup_step {E : EN} (h8 : E.2.1 ≤ 8) (a b : Int32) :
    (∃ r : Int32, r < 0 ∧ (∀ S, gI S 2 0 1 = nI E.2.1 → pup6 E S a b = (r, E, S)) ∧ (∀ (EZ : EN) (S : ST), gI S 1 0 0 = nI E.2.1 → f_X7_isNew EZ S a b = some 0 ∨ (f_X7_isNew EZ S a b = some 1 ∧ gI S 1 0 0 = 8))) ∨
    (E.2.1 < 8 ∧ ∃ k d : Nat, a = nI k ∧ b = nI d ∧ d < 2147483648 ∧ (∀ S, gI S 2 0 1 = nI E.2.1 → pup6 E S a b = (nI E.2.1, (E.1, E.2.1 + 1, E.2.2), pupS S E.2.1 (nI k) (nI (d / 100)) (nI (d / 10 % 10)) (nI (d % 10)))) ∧ ∀ (EZ : EN) (S : ST), f_X7_isNew EZ S a b = some 1) := by
  rcases q_or a with ha | ⟨k, hk, rfl⟩
  · refine Or.inl ⟨-2, by decide, fun S _ => by unfold pup6; rw [if_pos ha], fun EZ S _ => Or.inl ?_⟩
    unfold f_X7_isNew
    rw [bd_some (s_in0 (Or.inl ha)), if_pos rfl]
  by_cases k6 : k < 6
  rotate_left
  · refine Or.inl ⟨-2, by decide, fun S _ => by unfold pup6; rw [if_neg (q_n0 hk), if_pos (by rw [q_leL 6 (by decide) hk]; omega)], fun EZ S _ => Or.inl ?_⟩
    unfold f_X7_isNew
    rw [bd_some (s_in0 (Or.inr (by rw [q_ltL 5 (by decide) hk]; omega))), if_pos rfl]
  have i1 : ∀ (E : EN) (S : ST), f_X7_in E S (nI k) (0 : Int32) (5 : Int32) = some 1 := fun _ _ => s_in1 (by
    rintro (q1 | q1)
    · exact q_n0 hk q1
    · rw [q_ltL 5 (by decide) hk] at q1; omega)
  rcases q_or b with hb | ⟨d, hd, rfl⟩
  · refine Or.inl ⟨-2, by decide, fun S _ => by unfold pup6; rw [if_neg (q_n0 hk), if_neg (by rw [q_leL 6 (by decide) hk]; omega), if_neg (fun y => by
      have := Int32.lt_iff_toInt_lt.mp hb
      have := Int32.le_iff_toInt_le.mp y
      omega)], fun EZ S _ => Or.inl ?_⟩
    unfold f_X7_isNew
    rw [bd_some (i1 _ _), if_neg (by decide), bd_some (s_in0 (Or.inl hb)), if_pos rfl]
  have b0 : (0 : Int32) ≤ nI d := by rw [q_leL 0 (by decide) hd]; omega
  have b5 : ((5 : Int32) ≤ nI d / 100) ↔ 5 ≤ d / 100 := by rw [q_dv100 hd, q_leL 5 (by decide) (by omega)]
  have b4 : (rmI (nI d / 10) 10 < 4) ↔ d / 10 % 10 < 4 := by rw [q_dv10 hd, q_rm10 (by omega), q_ltR 4 (by decide) (by omega)]
  have b6 : ((4 : Int32) ≤ rmI (nI d / 10) 10) ↔ 4 ≤ d / 10 % 10 := by rw [q_dv10 hd, q_rm10 (by omega), q_leL 4 (by decide) (by omega)]
  by_cases d5 : 5 ≤ d / 100
  · refine Or.inl ⟨-2, by decide, fun S _ => by unfold pup6; rw [if_neg (q_n0 hk), if_neg (by rw [q_leL 6 (by decide) hk]; omega), if_pos b0, if_pos (b5.mpr d5)], fun EZ S _ => Or.inl ?_⟩
    unfold f_X7_isNew
    rw [bd_some (i1 _ _), if_neg (by decide), bd_some (s_in0 (Or.inr (by rw [q_ltL 439 (by decide) hd]; omega))), if_pos rfl]
  by_cases d4 : d / 10 % 10 < 4
  rotate_left
  · refine Or.inl ⟨-2, by decide, fun S _ => by unfold pup6; rw [if_neg (q_n0 hk), if_neg (by rw [q_leL 6 (by decide) hk]; omega), if_pos b0, if_neg (fun y => d5 (b5.mp y)), if_neg (fun y => d4 (b4.mp y))], fun EZ S _ => Or.inl ?_⟩
    unfold f_X7_isNew
    rw [bd_some (i1 _ _), if_neg (by decide)]
    by_cases d9 : d ≤ 439
    · rw [bd_some (s_in1 (by
        rintro (q1 | q1)
        · exact q_n0 hd q1
        · rw [q_ltL 439 (by decide) hd] at q1; omega)), if_neg (by decide), if_pos (b6.mpr (by omega))]
    · rw [bd_some (s_in0 (Or.inr (by rw [q_ltL 439 (by decide) hd]; omega))), if_pos rfl]
  have i2 : ∀ (E : EN) (S : ST), f_X7_isNew E S (nI k) (nI d) = some 1 := fun E S => by
    unfold f_X7_isNew
    rw [bd_some (i1 _ _), if_neg (by decide), bd_some (s_in1 (by
        rintro (q1 | q1)
        · exact q_n0 hd q1
        · rw [q_ltL 439 (by decide) hd] at q1; omega)), if_neg (by decide), if_neg (fun y => by have := b6.mp y; omega)]
  by_cases n8 : E.2.1 = 8
  · refine Or.inl ⟨-4, by decide, fun S hc => ?_, fun EZ S hm => Or.inr ⟨i2 _ _, by rw [hm, n8]; rfl⟩⟩
    unfold pup6
    rw [if_neg (q_n0 hk), if_neg (by rw [q_leL 6 (by decide) hk]; omega), if_pos b0, if_neg (fun y => d5 (b5.mp y)), if_pos (b4.mpr d4), if_neg (by rw [hc, n8]; decide)]
  refine Or.inr ⟨by omega, k, d, rfl, rfl, hd, fun S hc => ?_, i2⟩
  unfold pup6
  rw [if_neg (q_n0 hk), if_neg (by rw [q_leL 6 (by decide) hk]; omega), if_pos b0, if_neg (fun y => d5 (b5.mp y)), if_pos (b4.mpr d4), if_pos (by rw [hc, q_ltR 8 (by decide) (by omega)]; omega), q_dv100 hd, q_dv10 hd, q_rm10 (by omega), q_rm10 hd, hc, nI_1, gI_same, nI_pred]
  rfl
/-- alike on the class' side; on the reference's -/
def EC (A M : ST) : Prop := ∀ K : Nat, ¬ (K = 1 ∨ 40 < K) → A.1 K = M.1 K ∧ A.2.1 K = M.2.1 K ∧ A.2.2 K = M.2.2 K
def EM (A M : ST) : Prop := ∀ K : Nat, (K = 1 ∨ 40 < K) → A.1 K = M.1 K ∧ A.2.1 K = M.2.1 K ∧ A.2.2 K = M.2.2 K
theorem EC.I {A M : ST} (h : EC A M) {K i j : Nat} (hK : ¬ (K = 1 ∨ 40 < K)) : gI A K i j = gI M K i j := by
  show A.1 K i j = M.1 K i j
  rw [(h K hK).1]
theorem EM.I {A M : ST} (h : EM A M) {K i j : Nat} (hK : K = 1 ∨ 40 < K) : gI A K i j = gI M K i j := by
  show A.1 K i j = M.1 K i j
  rw [(h K hK).1]
theorem ECM {A M : ST} (h1 : EC A M) (h2 : EM A M) : A = M := by
  have h : ∀ K, A.1 K = M.1 K ∧ A.2.1 K = M.2.1 K ∧ A.2.2 K = M.2.2 K := fun K => by
    by_cases y : K = 1 ∨ 40 < K
    · exact h2 K y
    · exact h1 K y
  obtain ⟨a1, a2, a3⟩ := A
  obtain ⟨m1, m2, m3⟩ := M
  have e1 : a1 = m1 := funext fun K => (h K).1
  have e2 : a2 = m2 := funext fun K => (h K).2.1
  have e3 : a3 = m3 := funext fun K => (h K).2.2
  rw [e1, e2, e3]
theorem comC_cong {A M : ST} {p d : Nat} {a : Int32} {K : Nat} (h : A.1 K = M.1 K) : (comC A p a d).1 K = (comC M p a d).1 K := by
  funext i j
  show gI (comC A p a d) K i j = gI (comC M p a d) K i j
  unfold comC
  rw [gI_sI, gI_sI, gI_st5, gI_st5, gI_sI, gI_sI, gI_sI, gI_sI, gI_sI, gI_sI, gI_sI, gI_sI, show gI A K i j = gI M K i j from congrFun (congrFun h i) j]
theorem comC_C {S : ST} {p d : Nat} {a : Int32} : EC S (comC S p a d) := fun K hK => ⟨by
  funext i j
  exact (gI_comC (by omega)).symm, rfl, rfl⟩
theorem pupS_M {S : ST} {p : Nat} {k c so n : Int32} : EM S (pupS S p k c so n) := fun K hK => by
  refine ⟨?_, rfl, ?_⟩
  · funext i j
    exact (gI_pupS (by omega) (by omega)).symm
  · funext i j
    show S.2.2 K i j = ct S.2.2 3 0 (va_up (S.2.2 3 0) p (some p)) K i j
    rw [ct_ne _ _ _ _ (by omega)]
theorem pupS_cong {A M : ST} {p : Nat} {k c so n : Int32} (h : EC A M) : EC (pupS A p k c so n) (pupS M p k c so n) := fun K hK => by
  obtain ⟨h1, h2, h3⟩ := h K hK
  have hc : ∀ {α : Type} (f g : Nat → Nat → α) (K2 i : Nat) (x : α), f K = g K → ct f K2 i x K = ct g K2 i x K := fun f g K2 i x e => by
    funext i'
    unfold ct
    rw [e]
  refine ⟨?_, h2, ?_⟩
  · funext i j
    show gI (pupS A p k c so n) K i j = gI (pupS M p k c so n) K i j
    unfold pupS
    rw [gI_sI, gI_sI, gI_sR, gI_sR]
    have : gI (pupC A p k c so n) K i j = gI (pupC M p k c so n) K i j := by
      unfold pupC
      rw [gI_aI, gI_aI, gI_aI, gI_aI, gI_aI, gI_aI, show gI A K i j = gI M K i j from congrFun (congrFun h1 i) j]
    rw [this]
  · show ct A.2.2 3 0 (va_up (A.2.2 3 0) p (some p)) K = ct M.2.2 3 0 (va_up (M.2.2 3 0) p (some p)) K
    rw [(h 3 (by omega)).2.2]
    exact hc _ _ _ _ _ h3
theorem EC.tr {A M N : ST} (h : EC A M) (h2 : EC M N) : EC A N := fun K hK => ⟨(h K hK).1.trans (h2 K hK).1, (h K hK).2.1.trans (h2 K hK).2.1, (h K hK).2.2.trans (h2 K hK).2.2⟩
theorem EM.tr {A M N : ST} (h : EM A M) (h2 : EM M N) : EM A N := fun K hK => ⟨(h K hK).1.trans (h2 K hK).1, (h K hK).2.1.trans (h2 K hK).2.1, (h K hK).2.2.trans (h2 K hK).2.2⟩
theorem comC_congM {A M : ST} {p d : Nat} {a : Int32} (h : EM A M) : EM (comC A p a d) (comC M p a d) := fun K hK => ⟨comC_cong (h K hK).1, (h K hK).2.1, (h K hK).2.2⟩
theorem q_pl (d i : Nat) : nI d + (2 : Int32) * nI i = nI (d + 2 * i) := by rw [show (2 : Int32) = nI 2 from rfl, pk_mul, nI_add]
theorem q_szs : ∀ n, n < 41 → ∀ i, i < 9 → ((nI n - (2 : Int32) * nI i - 1).toInt = (n : Int) - 2 * i - 1 ∧ (nI n - (2 : Int32) * nI i - 2).toInt = (n : Int) - 2 * i - 2) := by decide +kernel
