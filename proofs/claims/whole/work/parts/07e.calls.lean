/-! PURE PART: count, image, back -/
def sm (f : Nat → Nat) : Nat → Nat
  | 0 => 0
  | n + 1 => sm f n + f n
def wN (S : ST) (p s : Nat) : Nat := (gI S 45 0 (5 * p + s)).toNatClampNeg
def cN (S : ST) (p : Nat) : Nat := (gI S 42 0 p).toNatClampNeg
theorem wsum_cong {w v : Nat → Nat} (h : ∀ s, s < 5 → w s = v s) : wsum w = wsum v := by
  unfold wsum
  rw [h 0 (by decide), h 1 (by decide), h 2 (by decide), h 3 (by decide), h 4 (by decide)]
theorem PD.can {S : ST} {p k g c n : Nat} {w : Nat → Nat} (h : PD S p k g c n w) : PD S p k g c n (wN S p) ∧ g = cN S p := by
  have h9 := h.w9
  have e : ∀ s, s < 5 → wN S p s = w s := fun s hs => by
    unfold wN
    rw [h.2.2.2.1 s hs, q_cl (by have := h9 s hs; omega)]
  refine ⟨⟨?_, h.2.1, h.2.2.1, fun s hs => ?_, fun s hs => ?_⟩, ?_⟩
  · rw [wsum_cong e]
    exact h.1
  · rw [e s hs]
    exact h.2.2.2.1 s hs
  · rw [e s hs]
    exact h.2.2.2.2 s hs
  · unfold cN
    rw [h.2.1.2.1, q_cl (by have := h.1.2.1; omega)]
theorem RP.pd {E : EN} {S : ST} (h : RP E S) {p : Nat} (hp : p < E.2.1) : ∃ k c n : Nat, PD S p k (cN S p) c n (wN S p) := by
  obtain ⟨k, g, c, n, w, q⟩ := h.2.2.2.2 p hp
  obtain ⟨q1, rfl⟩ := q.can
  exact ⟨k, c, n, q1⟩
theorem s_allWeights {E : EN} {S : ST} (hN : 10 ≤ E.1) (h : RP E S) : f_X6_allWeights E S = some (nI (sm (fun p => wsum (wN S p)) E.2.1)) := by
  obtain ⟨h8, hc, hm, hr, hp⟩ := id h
  have lp : ∀ (k v n : Nat), v + k = E.2.1 → k < n → f_X6_allWeights_b4 E n S (nI (sm (fun p => wsum (wN S p)) v)) (nI v) = some (nI (sm (fun p => wsum (wN S p)) E.2.1)) := by
    intro k
    induction k with
    | zero =>
      intro v n hv hn
      obtain ⟨m, rfl⟩ : ∃ m, n = m + 1 := ⟨n - 1, by omega⟩
      show g_X6_allWeights_b4 E (f_X6_allWeights_b4 E m) S _ _ = _
      unfold g_X6_allWeights_b4
      rw [hc, if_pos (by rw [q_le (by omega) (by omega)]; omega), show v = E.2.1 by omega]
    | succ k ih =>
      intro v n hv hn
      obtain ⟨m, rfl⟩ : ∃ m, n = m + 1 := ⟨n - 1, by omega⟩
      obtain ⟨k1, c, n1, q⟩ := h.pd (p := v) (by omega)
      show g_X6_allWeights_b4 E (f_X6_allWeights_b4 E m) S _ _ = _
      unfold g_X6_allWeights_b4
      rw [hc, if_neg (by rw [q_le (by omega) (by omega)]; omega), ck_in (ib_nI (by omega) (by decide)), q_cl (by omega)]
      simp only [lt_]
      rw [hr, if_pos (by omega), nl_so, ck_in (decide_eq_true (by omega)), bd_some (s_together hN q.2.2.2.2), nI_add, nI_1]
      exact ih (v + 1) m (by omega) (by omega)
  unfold f_X6_allWeights
  exact lp E.2.1 0 E.1 (by omega) (by omega)
theorem s_allClasses {E : EN} {S : ST} (hN : 10 ≤ E.1) (h : RP E S) : f_X6_allClasses E S = some (nI (sm (cN S) E.2.1)) := by
  obtain ⟨h8, hc, hm, hr, hp⟩ := id h
  have lp : ∀ (k v n : Nat), v + k = E.2.1 → k < n → f_X6_allClasses_b4 E n S (nI (sm (cN S) v)) (nI v) = some (nI (sm (cN S) E.2.1)) := by
    intro k
    induction k with
    | zero =>
      intro v n hv hn
      obtain ⟨m, rfl⟩ : ∃ m, n = m + 1 := ⟨n - 1, by omega⟩
      show g_X6_allClasses_b4 E (f_X6_allClasses_b4 E m) S _ _ = _
      unfold g_X6_allClasses_b4
      rw [hc, if_pos (by rw [q_le (by omega) (by omega)]; omega), show v = E.2.1 by omega]
    | succ k ih =>
      intro v n hv hn
      obtain ⟨m, rfl⟩ : ∃ m, n = m + 1 := ⟨n - 1, by omega⟩
      obtain ⟨k1, c, n1, q⟩ := h.pd (p := v) (by omega)
      show g_X6_allClasses_b4 E (f_X6_allClasses_b4 E m) S _ _ = _
      unfold g_X6_allClasses_b4
      rw [hc, if_neg (by rw [q_le (by omega) (by omega)]; omega), ck_in (ib_nI (by omega) (by decide)), q_cl (by omega)]
      simp only [lt_]
      rw [hr, if_pos (by omega), nl_so, ck_in (decide_eq_true (by omega)), q.2.2.1.2.1, nI_add, nI_1]
      exact ih (v + 1) m (by omega) (by omega)
  unfold f_X6_allClasses
  exact lp E.2.1 0 E.1 (by omega) (by omega)
theorem s_count {E : EN} {S : ST} (hN : 10 ≤ E.1) (h : RP E S) (ht : RT S) {nt rl : Nat} (r1 : gI S 2 0 3 = nI nt) (r2 : gI S 1 0 6 = nI nt) (r3 : gI S 2 0 4 = nI rl) (r4 : gI S 1 0 7 = nI rl) (a : Int32) : ∃ r : Int32, f_X6_count E S a = some r ∧ f_X7_count E S a = some r := by
  obtain ⟨h8, hc, hm, hr, hp⟩ := id h
  obtain ⟨tn, -, t1, t2, -⟩ := ht
  have lp : ∀ (k v n : Nat), v + k = E.2.1 → k < n → f_X7_count_b7 E n S a (nI (sm (fun p => wsum (wN S p)) v)) (nI (sm (cN S) v)) (nI v) = f_X7_count_b41 E S a (nI (sm (fun p => wsum (wN S p)) E.2.1)) (nI (sm (cN S) E.2.1)) := by
    intro k
    induction k with
    | zero =>
      intro v n hv hn
      obtain ⟨m, rfl⟩ : ∃ m, n = m + 1 := ⟨n - 1, by omega⟩
      show g_X7_count_b7 E (f_X7_count_b7 E m) S _ _ _ _ = _
      unfold g_X7_count_b7
      rw [hm, if_pos (by rw [q_le (by omega) (by omega)]; omega), show v = E.2.1 by omega]
    | succ k ih =>
      intro v n hv hn
      obtain ⟨m, rfl⟩ : ∃ m, n = m + 1 := ⟨n - 1, by omega⟩
      obtain ⟨k1, c, n1, q⟩ := h.pd (p := v) (by omega)
      show g_X7_count_b7 E (f_X7_count_b7 E m) S _ _ _ _ = _
      unfold g_X7_count_b7
      rw [hm, if_neg (by rw [q_le (by omega) (by omega)]; omega), bd_some (s_sumOf hN (by omega) q.2.2.2.1)]
      simp only [lt_]
      rw [ck_in (ib_nI (by omega) (by decide)), q_cl (by omega)]
      rw [q.2.1.2.1, nI_add, nI_add, nI_1]
      exact ih (v + 1) m (by omega) (by omega)
  unfold f_X6_count f_X7_count
  rw [show (0 : Int32) = nI 0 from rfl, show f_X7_count_b7 E E.1 S a (nI 0) (nI 0) (nI 0) = _ from lp E.2.1 0 E.1 (by omega) (by omega)]
  unfold f_X7_count_b41
  rw [bd_some (s_allWeights hN h), bd_some (s_allClasses hN h), hc, hm, t1, t2, r1, r2, r3, r4]
  by_cases e0 : a = nI 0
  · exact ⟨_, by rw [if_pos e0], by rw [show (0 : Int32) = nI 0 from rfl, if_pos e0]⟩
  by_cases e1 : a = 1
  · exact ⟨_, by rw [if_neg e0, if_pos e1], by rw [show (0 : Int32) = nI 0 from rfl, if_neg e0, if_pos e1]⟩
  by_cases e2 : a = 2
  · exact ⟨_, by rw [if_neg e0, if_neg e1, if_pos e2], by rw [show (0 : Int32) = nI 0 from rfl, if_neg e0, if_neg e1, if_pos e2]⟩
  by_cases e3 : a = 3
  · exact ⟨_, by rw [if_neg e0, if_neg e1, if_neg e2, if_pos e3], by rw [show (0 : Int32) = nI 0 from rfl, if_neg e0, if_neg e1, if_neg e2, if_pos e3]⟩
  by_cases e4 : a = 4
  · exact ⟨_, by rw [if_neg e0, if_neg e1, if_neg e2, if_neg e3, if_pos e4], by rw [show (0 : Int32) = nI 0 from rfl, if_neg e0, if_neg e1, if_neg e2, if_neg e3, if_pos e4]⟩
  by_cases e5 : a = 5
  · exact ⟨_, by rw [if_neg e0, if_neg e1, if_neg e2, if_neg e3, if_neg e4, if_pos e5], by rw [show (0 : Int32) = nI 0 from rfl, if_neg e0, if_neg e1, if_neg e2, if_neg e3, if_neg e4, if_pos e5]⟩
  · exact ⟨_, by rw [if_neg e0, if_neg e1, if_neg e2, if_neg e3, if_neg e4, if_neg e5], by rw [show (0 : Int32) = nI 0 from rfl, if_neg e0, if_neg e1, if_neg e2, if_neg e3, if_neg e4, if_neg e5]⟩
