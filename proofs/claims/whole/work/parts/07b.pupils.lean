/-! PURE PART: pupils -/
def wsum (w : Nat → Nat) : Nat := w 0 + w 1 + w 2 + w 3 + w 4
/-- what is known of one pupil: kind, class, sort, number, weights, alike on both sides -/
def PD (S : ST) (p k g c n : Nat) (w : Nat → Nat) : Prop :=
  (k < 6 ∧ g < 5 ∧ c < 4 ∧ n < 10 ∧ 1 ≤ wsum w ∧ wsum w ≤ 9999) ∧
  (gI S 41 0 p = nI k ∧ gI S 42 0 p = nI g ∧ gI S 43 0 p = nI c ∧ gI S 44 0 p = nI n) ∧
  (gI S 20 p 0 = nI k ∧ gI S 20 p 3 = nI g ∧ gI S 20 p 1 = nI c ∧ gI S 20 p 2 = nI n) ∧
  (∀ s, s < 5 → gI S 45 0 (5 * p + s) = nI (w s)) ∧ (∀ s, s < 5 → gI S 21 p s = nI (w s))
def RP (E : EN) (S : ST) : Prop :=
  E.2.1 ≤ 8 ∧ gI S 2 0 1 = nI E.2.1 ∧ gI S 1 0 0 = nI E.2.1 ∧ (∀ j, gR S 3 0 j = if j < E.2.1 then some j else none) ∧
  ∀ p, p < E.2.1 → ∃ (k g c n : Nat) (w : Nat → Nat), PD S p k g c n w
/-- the places of the pupils -/
def dRP : List (Nat × Nat) := [(2, 2), (1, 1), (3, 0), (41, 0), (42, 0), (43, 0), (44, 0), (45, 0), (20, 1), (20, 2), (20, 3), (20, 4), (21, 0)]
theorem PD.keep {S S1 : ST} {p k g c n : Nat} {w : Nat → Nat} (h : PD S p k g c n w) (a : Ag dRP S S1) : PD S1 p k g c n w := by
  obtain ⟨h1, ⟨a1, a2, a3, a4⟩, ⟨b1, b2, b3, b4⟩, c1, c2⟩ := h
  exact ⟨h1, ⟨(a.I rfl).trans a1, (a.I rfl).trans a2, (a.I rfl).trans a3, (a.I rfl).trans a4⟩, ⟨(a.I rfl).trans b1, (a.I rfl).trans b2, (a.I rfl).trans b3, (a.I rfl).trans b4⟩, fun s hs => (a.I rfl).trans (c1 s hs), fun s hs => (a.I rfl).trans (c2 s hs)⟩
theorem RP.keep {E : EN} {S S1 : ST} (h : RP E S) (a : Ag dRP S S1) : RP E S1 := by
  obtain ⟨h1, h2, h3, h4, h5⟩ := h
  refine ⟨h1, (a.I rfl).trans h2, (a.I rfl).trans h3, fun j => (a.R rfl).trans (h4 j), fun p hp => ?_⟩
  obtain ⟨k, g, c, n, w, q⟩ := h5 p hp
  exact ⟨k, g, c, n, w, q.keep a⟩
theorem PD.w9 {S : ST} {p k g c n : Nat} {w : Nat → Nat} (h : PD S p k g c n w) : ∀ s, s < 5 → w s ≤ 9999 := fun s hs => by
  have h1 := h.1.2.2.2.2.2
  unfold wsum at h1
  match s, hs with
  | 0, _ => omega
  | 1, _ => omega
  | 2, _ => omega
  | 3, _ => omega
  | 4, _ => omega
/-! ## isPupil, known -/
theorem s_isPupil1 {E : EN} {S : ST} {p : Nat} (h : gI S 1 0 0 = nI E.2.1) (hp : p < E.2.1) (h8 : E.2.1 ≤ 8) : f_X7_isPupil E S (nI p) = some 1 := by
  unfold f_X7_isPupil
  obtain ⟨m, hm⟩ : ∃ m, E.2.1 = m + 1 := ⟨E.2.1 - 1, by omega⟩
  rw [h, hm, q_m1, bd_some (s_inN (by omega) (by omega) rfl), if_pos (by omega)]
  rfl
theorem s_isPupil0 {E : EN} {S : ST} {x : Int32} (h : gI S 1 0 0 = nI E.2.1) (hp : ∀ p, p < E.2.1 → x ≠ nI p) (h8 : E.2.1 ≤ 8) : f_X7_isPupil E S x = some 0 := by
  unfold f_X7_isPupil
  rcases q_or x with q | ⟨n, hn, rfl⟩
  · rw [bd_some (s_inS q)]
    rfl
  · have h1 : ¬ n < E.2.1 := fun q => hp n q rfl
    rw [h]
    rcases hq : E.2.1 with _ | m
    · rw [q_z1, bd_some (s_in0 (Or.inr ((show (-1 : Int32) < nI n from by
        have : ¬ nI n < 0 := q_n0 hn
        rw [Int32.lt_iff_toInt_lt] at this ⊢
        have e0 : (0 : Int32).toInt = 0 := by decide
        have e1 : (-1 : Int32).toInt = -1 := by decide
        rw [e0] at this
        rw [e1]
        omega))))]
      rfl
    · rw [q_m1, bd_some (s_inN hn (by omega) rfl), if_neg (by omega)]
      rfl
theorem s_known1 {E : EN} {S : ST} {p : Nat} (h : gI S 2 0 1 = nI E.2.1) (hR : ∀ j, gR S 3 0 j = if j < E.2.1 then some j else none) (hp : p < E.2.1) (h8 : E.2.1 ≤ 8) : f_X6_known E S (nI p) = some (some p) := by
  unfold f_X6_known
  rw [if_neg (q_n0 (by omega)), h, if_neg (by rw [q_le (by omega) (by omega)]; omega), ck_in (ib_nI (by omega) (by decide)), q_cl (by omega), hR, if_pos hp]
theorem s_known0 {E : EN} {S : ST} {x : Int32} (h : gI S 2 0 1 = nI E.2.1) (hp : ∀ p, p < E.2.1 → x ≠ nI p) (h8 : E.2.1 ≤ 8) : f_X6_known E S x = some none := by
  unfold f_X6_known
  rcases q_or x with q | ⟨n, hn, rfl⟩
  · rw [if_pos q]
  · have h1 : ¬ n < E.2.1 := fun q => hp n q rfl
    rw [if_neg (q_n0 hn), h, if_pos (by rw [q_le (by omega) hn]; omega)]
/-- a pupil's number, or none -/
theorem q_pup (E : EN) (h8 : E.2.1 ≤ 8) (x : Int32) : (∃ p, p < E.2.1 ∧ x = nI p) ∨ ∀ p, p < E.2.1 → x ≠ nI p := by
  by_cases h : ∃ p, p < E.2.1 ∧ x = nI p
  · exact Or.inl h
  · exact Or.inr (fun p hp e => h ⟨p, hp, e⟩)
/-! ## sums of weights -/
theorem s_sumOf {E : EN} {S : ST} {p : Nat} {w : Nat → Nat} (hN : 10 ≤ E.1) (hp : p < 8) (hw : ∀ s, s < 5 → gI S 45 0 (5 * p + s) = nI (w s)) : f_X7_sumOf E S (nI p) = some (nI (wsum w)) := by
  have st : ∀ (n a k : Nat), k < 5 → f_X7_sumOf_b4 E (n + 1) S (nI p) (nI a) (nI k) = f_X7_sumOf_b4 E n S (nI p) (nI (a + w k)) (nI (k + 1)) := fun n a k hk => by
    show g_X7_sumOf_b4 E (f_X7_sumOf_b4 E n) S (nI p) (nI a) (nI k) = _
    unfold g_X7_sumOf_b4
    rw [if_neg (by rw [q_leL 5 (by decide) (by omega)]; omega), q_i5, ck_in (ib_nI (by omega) (by decide)), q_cl (by omega), hw k hk]
    simp only [lt_]
    rw [nI_add, nI_1]
  have en : ∀ (n : Nat) (a : Int32), f_X7_sumOf_b4 E (n + 1) S (nI p) a (nI 5) = some a := fun n a => by
    show g_X7_sumOf_b4 E (f_X7_sumOf_b4 E n) S (nI p) a (nI 5) = _
    unfold g_X7_sumOf_b4
    rw [if_pos (by decide)]
  obtain ⟨m, hm⟩ : ∃ m, E.1 = m + 6 := ⟨E.1 - 6, by omega⟩
  unfold f_X7_sumOf
  rw [hm, show (0 : Int32) = nI 0 from rfl, st _ _ 0 (by decide), st _ _ 1 (by decide), st _ _ 2 (by decide), st _ _ 3 (by decide), st _ _ 4 (by decide), en]
  unfold wsum
  rw [Nat.zero_add]
theorem s_together {E : EN} {S : ST} {p : Nat} {w : Nat → Nat} (hN : 10 ≤ E.1) (hw : ∀ s, s < 5 → gI S 21 p s = nI (w s)) : f_X2_together E p S = some (nI (wsum w)) := by
  have st : ∀ (n a k : Nat), k < 5 → f_X2_together_b4 E p (n + 1) S (nI a) (nI k) = f_X2_together_b4 E p n S (nI (a + w k)) (nI (k + 1)) := fun n a k hk => by
    show g_X2_together_b4 E p (f_X2_together_b4 E p n) S (nI a) (nI k) = _
    unfold g_X2_together_b4
    rw [if_neg (by rw [q_leL 5 (by decide) (by omega)]; omega), ck_in (ib_nI (by omega) (by decide)), q_cl (by omega), hw k hk]
    simp only [lt_]
    rw [nI_add, nI_1]
  have en : ∀ (n : Nat) (a : Int32), f_X2_together_b4 E p (n + 1) S a (nI 5) = some a := fun n a => by
    show g_X2_together_b4 E p (f_X2_together_b4 E p n) S a (nI 5) = _
    unfold g_X2_together_b4
    rw [if_pos (by decide)]
  obtain ⟨m, hm⟩ : ∃ m, E.1 = m + 6 := ⟨E.1 - 6, by omega⟩
  unfold f_X2_together
  rw [hm, show (0 : Int32) = nI 0 from rfl, st _ _ 0 (by decide), st _ _ 1 (by decide), st _ _ 2 (by decide), st _ _ 3 (by decide), st _ _ 4 (by decide), en]
  unfold wsum
  rw [Nat.zero_add]
