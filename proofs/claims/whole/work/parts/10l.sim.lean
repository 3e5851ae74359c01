/-! PURE PART: reader and stack side by side: ONE, TERM, SUM, NOT, AND, E -/
section SIN
variable {E : EN} {B : Nat → Nat} {n : Nat} {Sb Tb : ST} {b k0 bc : Nat}
def EX7 : EXT := fun _ _ _ => True
def EX6 (B : Nat → Nat) (n : Nat) : EXT := fun k oR wt => EX7 k oR wt ∧ ¬ tT B n k = 42
def EX5 (B : Nat → Nat) (n : Nat) : EXT := fun k oR wt => EX6 B n k oR wt ∧ ¬ (tT B n k = 43 ∨ tT B n k = 45)
def EX3 (B : Nat → Nat) (n : Nat) : EXT := fun k oR wt => EX5 B n k oR wt ∧ (tT B n k = 60 ∨ tT B n k = 61 → tpS (stl 5 oR wt).2 = 4)
def EX2 (B : Nat → Nat) (n : Nat) : EXT := fun k oR wt => EX3 B n k oR wt ∧ ¬ tT B n k = 260
def EX1 (B : Nat → Nat) (n : Nat) : EXT := fun k oR wt => EX2 B n k oR wt ∧ ¬ tT B n k = 259
def SOne (E : EN) (B : Nat → Nat) (n : Nat) (Sb : ST) (bc : Nat) (Tb : ST) (b k0 e : Nat) : Prop := ∀ (d k : Nat) (S T : ST) (σ : List Nat) (out : List (Nat × Nat)) (mn : Int32), 1 + 6 * e ≤ d → opc σ + e = 5 → CL B n Sb bc S k out (opc σ) → MR B n Tb b k0 T k out σ → (tT B n k = 261 → mn = 0) → Res E B n Sb bc Tb b k0 (f_X3_readOne E d) 7 EX7 1 S T k σ out 1 mn
def STerm (E : EN) (B : Nat → Nat) (n : Nat) (Sb : ST) (bc : Nat) (Tb : ST) (b k0 e : Nat) : Prop := ∀ (d k : Nat) (S T : ST) (σ : List Nat) (out : List (Nat × Nat)) (mn : Int32), 2 + 6 * e ≤ d → opc σ + e = 5 → tpS σ < 6 → CL B n Sb bc S k out (opc σ) → MR B n Tb b k0 T k out σ → (tT B n k = 261 → mn = 0) → Res E B n Sb bc Tb b k0 (f_X3_readTerm E d) 6 (EX6 B n) 1 S T k σ out 1 mn
def SSum (E : EN) (B : Nat → Nat) (n : Nat) (Sb : ST) (bc : Nat) (Tb : ST) (b k0 e : Nat) : Prop := ∀ (d k : Nat) (S T : ST) (σ : List Nat) (out : List (Nat × Nat)) (mn : Int32), 3 + 6 * e ≤ d → opc σ + e = 5 → tpS σ < 5 → CL B n Sb bc S k out (opc σ) → MR B n Tb b k0 T k out σ → (tT B n k = 261 → mn = 0) → Res E B n Sb bc Tb b k0 (f_X3_readSum E d) 5 (EX5 B n) 1 S T k σ out 1 mn
def SNot (E : EN) (B : Nat → Nat) (n : Nat) (Sb : ST) (bc : Nat) (Tb : ST) (b k0 e : Nat) : Prop := ∀ (d k : Nat) (S T : ST) (σ : List Nat) (out : List (Nat × Nat)), 4 + 6 * e ≤ d → opc σ + e = 5 → tpS σ ≤ 3 → CL B n Sb bc S k out (opc σ) → MR B n Tb b k0 T k out σ → Res E B n Sb bc Tb b k0 (f_X3_readNot E d) 3 (EX3 B n) 1 S T k σ out 1 1
def SAnd (E : EN) (B : Nat → Nat) (n : Nat) (Sb : ST) (bc : Nat) (Tb : ST) (b k0 e : Nat) : Prop := ∀ (d k : Nat) (S T : ST) (σ : List Nat) (out : List (Nat × Nat)), 5 + 6 * e ≤ d → opc σ + e = 5 → tpS σ < 2 → CL B n Sb bc S k out (opc σ) → MR B n Tb b k0 T k out σ → Res E B n Sb bc Tb b k0 (f_X3_readAnd E d) 2 (EX2 B n) 1 S T k σ out 1 1
def SOr (E : EN) (B : Nat → Nat) (n : Nat) (Sb : ST) (bc : Nat) (Tb : ST) (b k0 e : Nat) : Prop := ∀ (d k : Nat) (S T : ST) (σ : List Nat) (out : List (Nat × Nat)), 6 + 6 * e ≤ d → opc σ + e = 5 → tpS σ < 1 → CL B n Sb bc S k out (opc σ) → MR B n Tb b k0 T k out σ → Res E B n Sb bc Tb b k0 (f_X3_readOr E d) 1 (EX1 B n) 1 S T k σ out 1 1
theorem q_160 {i : Nat} (h : i < 160) : ¬ (160 : Int32) ≤ nI i := by rw [q_leL 160 (by decide) (by omega)]; omega
theorem k_fuel {T : ST} {k c : Nat} {out : List (Nat × Nat)} {wt : List Nat} (h : MRc B n Tb b k0 T k c out wt) : 161 ≤ k + 161 := by omega
theorem sim_term (hN : 300 ≤ E.1) (hb : bc ≤ k0) {e : Nat} (h : SOne E B n Sb bc Tb b k0 e) : STerm E B n Sb bc Tb b k0 e := by
  intro d k S T σ out mn hd ho hσ C M hm
  obtain ⟨d, rfl⟩ : ∃ q, d = q + 1 := ⟨d - 1, by omega⟩
  obtain ⟨m1, hm1⟩ : ∃ m, E.1 = m + 1 := ⟨E.1 - 1, by omega⟩
  have ef : f_X3_readTerm E (d + 1) = fun S => bd_ (f_X3_readOne E d S) fun S5 => f_X3_readTerm_b6 E (f_X3_readOr E d) (f_X3_readAnd E d) (f_X3_readNot E d) (f_X3_readSum E d) (f_X3_readTerm E d) (f_X3_readOne E d) E.1 S5 (0 : Int32) := by
    rw [term_s]
    rfl
  rw [ef]
  refine s_chain (L' := 7) (EX := EX7) hN (by decide) hσ (h d k S T σ out mn (by omega) ho C M hm) ?_ ?_
  · intro k S T out oR wt mn C M es ex hh
    refine s_loop (L' := 7) (EX := EX7) (rc := f_X3_readOne E d) (opP := fun t => t = 42) hN hb (fun t ht => ?_) (by decide) (by decide) hσ ?_ ?_ ?_ ?_ ?_ 161 k 0 E.1 S T out oR wt mn (by omega) (by omega) (by omega) C M es ex hh
    · subst ht; unfold isB2; decide
    · intro m i k S hi hz ht
      have hz : tT B n k = 42 := hz
      rw [rdTerm_s]
      unfold g_X3_readTerm_b6
      rw [if_neg (q_160 hi), ht, hz, if_pos (show tC 42 = (42 : Int32) from rfl), nI_1]
      rfl
    · intro m i k S hi hz ht
      rw [rdTerm_s]
      unfold g_X3_readTerm_b6
      by_cases y : i < 160
      · rw [if_neg (q_160 y), ht, if_neg (show ¬ tC (tT B n k) = (42 : Int32) from fun w => hz ((tC_eq (vT_k B n k) (by decide) (by decide)).mp w))]
      · rw [if_pos (by rw [q_leL 160 (by decide) (by omega)]; omega)]
    · intro m i S hi ht
      rw [rdTerm_s]
      unfold g_X3_readTerm_b6
      by_cases y : i < 160
      · rw [if_neg (q_160 y), ht, if_neg (by decide)]
      · rw [if_pos (by rw [q_leL 160 (by decide) (by omega)]; omega)]
    · intro k s S T out mn hs hopc C M h0 h1
      exact h d k S T (s :: σ) out mn (by omega) (by omega) C M (fun _ => h0 (Or.inl rfl))
    · intro t ht
      have ht : t = 42 := ht
      exact ⟨fun _ => by omega, fun y => absurd y (by decide)⟩
  · intro S f D
    rw [hm1, rdTerm_s]
    unfold g_X3_readTerm_b6
    rw [if_neg (by decide), D.2.1, if_neg (by decide)]
theorem sim_sum (hN : 300 ≤ E.1) (hb : bc ≤ k0) {e : Nat} (h : STerm E B n Sb bc Tb b k0 e) : SSum E B n Sb bc Tb b k0 e := by
  intro d k S T σ out mn hd ho hσ C M hm
  obtain ⟨d, rfl⟩ : ∃ q, d = q + 1 := ⟨d - 1, by omega⟩
  obtain ⟨m1, hm1⟩ : ∃ m, E.1 = m + 1 := ⟨E.1 - 1, by omega⟩
  have ef : f_X3_readSum E (d + 1) = fun S => bd_ (f_X3_readTerm E d S) fun S5 => f_X3_readSum_b6 E (f_X3_readOr E d) (f_X3_readAnd E d) (f_X3_readNot E d) (f_X3_readSum E d) (f_X3_readTerm E d) (f_X3_readOne E d) E.1 S5 (0 : Int32) := by
    rw [sum_s]
    rfl
  rw [ef]
  refine s_chain (L' := 6) (EX := EX6 B n) hN (by decide) hσ (h d k S T σ out mn (by omega) ho (by omega) C M hm) ?_ ?_
  · intro k S T out oR wt mn C M es ex hh
    refine s_loop (L' := 6) (EX := EX6 B n) (rc := f_X3_readTerm E d) (opP := fun t => t = 43 ∨ t = 45) hN hb (fun t ht => ?_) (by decide) (by decide) hσ ?_ ?_ ?_ ?_ ?_ 161 k 0 E.1 S T out oR wt mn (by omega) (by omega) (by omega) C M es ex hh
    · rcases ht with ht | ht <;> subst ht <;> unfold isB2 <;> decide
    · intro m i k S hi hz ht
      have hz : tT B n k = 43 ∨ tT B n k = 45 := hz
      rw [rdSum_s]
      unfold g_X3_readSum_b6 f_X3_readSum_b31
      rcases hz with hz | hz
      · rw [if_neg (q_160 hi), ht, hz, if_pos (show tC 43 = (43 : Int32) from rfl), nI_1]
        rfl
      · rw [if_neg (q_160 hi), ht, hz, if_neg (show ¬ tC 45 = (43 : Int32) by decide), if_pos (show tC 45 = (45 : Int32) from rfl), nI_1]
        rfl
    · intro m i k S hi hz ht
      rw [rdSum_s]
      unfold g_X3_readSum_b6
      by_cases y : i < 160
      · rw [if_neg (q_160 y), ht, if_neg (show ¬ tC (tT B n k) = (43 : Int32) from fun w => hz (Or.inl ((tC_eq (vT_k B n k) (by decide) (by decide)).mp w))), if_neg (show ¬ tC (tT B n k) = (45 : Int32) from fun w => hz (Or.inr ((tC_eq (vT_k B n k) (by decide) (by decide)).mp w)))]
      · rw [if_pos (by rw [q_leL 160 (by decide) (by omega)]; omega)]
    · intro m i S hi ht
      rw [rdSum_s]
      unfold g_X3_readSum_b6
      by_cases y : i < 160
      · rw [if_neg (q_160 y), ht, if_neg (by decide), if_neg (by decide)]
      · rw [if_pos (by rw [q_leL 160 (by decide) (by omega)]; omega)]
    · intro k s S T out mn hs hopc C M h0 h1
      exact h d k S T (s :: σ) out mn (by omega) (by omega) (show stg s < 6 by omega) C M (fun _ => h0 (Or.inr rfl))
    · intro t ht
      have ht : t = 43 ∨ t = 45 := ht
      exact ⟨fun _ => by omega, fun y => absurd y (by decide)⟩
  · intro S f D
    rw [hm1, rdSum_s]
    unfold g_X3_readSum_b6
    rw [if_neg (by decide), D.2.1, if_neg (by decide), if_neg (by decide)]
theorem sim_and (hN : 300 ≤ E.1) (hb : bc ≤ k0) {e : Nat} (h : SNot E B n Sb bc Tb b k0 e) : SAnd E B n Sb bc Tb b k0 e := by
  intro d k S T σ out hd ho hσ C M
  obtain ⟨d, rfl⟩ : ∃ q, d = q + 1 := ⟨d - 1, by omega⟩
  obtain ⟨m1, hm1⟩ : ∃ m, E.1 = m + 1 := ⟨E.1 - 1, by omega⟩
  have ef : f_X3_readAnd E (d + 1) = fun S => bd_ (f_X3_readNot E d S) fun S5 => f_X3_readAnd_b6 E (f_X3_readOr E d) (f_X3_readAnd E d) (f_X3_readNot E d) (f_X3_readSum E d) (f_X3_readTerm E d) (f_X3_readOne E d) E.1 S5 (0 : Int32) := by
    rw [and_s]
    rfl
  rw [ef]
  refine s_chain (L' := 3) (EX := EX3 B n) hN (by decide) hσ (h d k S T σ out (by omega) ho (by omega) C M) ?_ ?_
  · intro k S T out oR wt mn C M es ex hh
    refine s_loop (L' := 3) (EX := EX3 B n) (rc := f_X3_readNot E d) (opP := fun t => t = 260) hN hb (fun t ht => ?_) (by decide) (by decide) hσ ?_ ?_ ?_ ?_ ?_ 161 k 0 E.1 S T out oR wt mn (by omega) (by omega) (by omega) C M es ex hh
    · subst ht; unfold isB2; decide
    · intro m i k S hi hz ht
      have hz : tT B n k = 260 := hz
      rw [rdAnd_s]
      unfold g_X3_readAnd_b6
      rw [if_neg (q_160 hi), ht, hz, if_pos (show tC 260 = (260 : Int32) from rfl), nI_1]
      rfl
    · intro m i k S hi hz ht
      rw [rdAnd_s]
      unfold g_X3_readAnd_b6
      by_cases y : i < 160
      · rw [if_neg (q_160 y), ht, if_neg (show ¬ tC (tT B n k) = (260 : Int32) from fun w => hz ((tC_eq (vT_k B n k) (by decide) (by decide)).mp w))]
      · rw [if_pos (by rw [q_leL 160 (by decide) (by omega)]; omega)]
    · intro m i S hi ht
      rw [rdAnd_s]
      unfold g_X3_readAnd_b6
      by_cases y : i < 160
      · rw [if_neg (q_160 y), ht, if_neg (by decide)]
      · rw [if_pos (by rw [q_leL 160 (by decide) (by omega)]; omega)]
    · intro k s S T out mn hs hopc C M h0 h1
      rw [h1 (Or.inl rfl)]
      exact h d k S T (s :: σ) out (by omega) (by omega) (show stg s ≤ 3 by omega) C M
    · intro t ht
      have ht : t = 260 := ht
      exact ⟨fun y => absurd y (by decide), fun _ => by omega⟩
  · intro S f D
    rw [hm1, rdAnd_s]
    unfold g_X3_readAnd_b6
    rw [if_neg (by decide), D.2.1, if_neg (by decide)]
theorem sim_or (hN : 300 ≤ E.1) (hb : bc ≤ k0) {e : Nat} (h : SAnd E B n Sb bc Tb b k0 e) : SOr E B n Sb bc Tb b k0 e := by
  intro d k S T σ out hd ho hσ C M
  obtain ⟨d, rfl⟩ : ∃ q, d = q + 1 := ⟨d - 1, by omega⟩
  obtain ⟨m1, hm1⟩ : ∃ m, E.1 = m + 1 := ⟨E.1 - 1, by omega⟩
  have ef : f_X3_readOr E (d + 1) = fun S => bd_ (f_X3_readAnd E d S) fun S5 => f_X3_readOr_b6 E (f_X3_readOr E d) (f_X3_readAnd E d) (f_X3_readNot E d) (f_X3_readSum E d) (f_X3_readTerm E d) (f_X3_readOne E d) E.1 S5 (0 : Int32) := by
    rw [or_s]
    rfl
  rw [ef]
  refine s_chain (L' := 2) (EX := EX2 B n) hN (by decide) hσ (h d k S T σ out (by omega) ho (by omega) C M) ?_ ?_
  · intro k S T out oR wt mn C M es ex hh
    refine s_loop (L' := 2) (EX := EX2 B n) (rc := f_X3_readAnd E d) (opP := fun t => t = 259) hN hb (fun t ht => ?_) (by decide) (by decide) hσ ?_ ?_ ?_ ?_ ?_ 161 k 0 E.1 S T out oR wt mn (by omega) (by omega) (by omega) C M es ex hh
    · subst ht; unfold isB2; decide
    · intro m i k S hi hz ht
      have hz : tT B n k = 259 := hz
      rw [rdOr_s]
      unfold g_X3_readOr_b6
      rw [if_neg (q_160 hi), ht, hz, if_pos (show tC 259 = (259 : Int32) from rfl), nI_1]
      rfl
    · intro m i k S hi hz ht
      rw [rdOr_s]
      unfold g_X3_readOr_b6
      by_cases y : i < 160
      · rw [if_neg (q_160 y), ht, if_neg (show ¬ tC (tT B n k) = (259 : Int32) from fun w => hz ((tC_eq (vT_k B n k) (by decide) (by decide)).mp w))]
      · rw [if_pos (by rw [q_leL 160 (by decide) (by omega)]; omega)]
    · intro m i S hi ht
      rw [rdOr_s]
      unfold g_X3_readOr_b6
      by_cases y : i < 160
      · rw [if_neg (q_160 y), ht, if_neg (by decide)]
      · rw [if_pos (by rw [q_leL 160 (by decide) (by omega)]; omega)]
    · intro k s S T out mn hs hopc C M h0 h1
      rw [h1 (Or.inr rfl)]
      exact h d k S T (s :: σ) out (by omega) (by omega) (show stg s < 2 by omega) C M
    · intro t ht
      have ht : t = 259 := ht
      exact ⟨fun y => absurd y (by decide), fun _ => by omega⟩
  · intro S f D
    rw [hm1, rdOr_s]
    unfold g_X3_readOr_b6
    rw [if_neg (by decide), D.2.1, if_neg (by decide)]
end SIN
