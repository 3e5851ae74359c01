/-! PURE PART: the relation of the two sides, but texts and chances; weigh, told -/
/-- five ints from o on -/
def st5 (S : ST) (K i o : Nat) (v : Nat → Int32) : ST := sI (sI (sI (sI (sI S K i o (v 0)) K i (o + 1) (v 1)) K i (o + 2) (v 2)) K i (o + 3) (v 3)) K i (o + 4) (v 4)
theorem gI_st5 (S : ST) (K i o : Nat) (v : Nat → Int32) (K' i' j : Nat) : gI (st5 S K i o v) K' i' j = if K' = K ∧ i' = i ∧ o ≤ j ∧ j < o + 5 then v (j - o) else gI S K' i' j := by
  unfold st5
  simp only [gI_sI]
  by_cases h : K' = K ∧ i' = i
  · obtain ⟨rfl, rfl⟩ := h
    by_cases h2 : o ≤ j ∧ j < o + 5
    · have e : (K' = K' ∧ i' = i' ∧ o ≤ j ∧ j < o + 5) := ⟨rfl, rfl, h2.1, h2.2⟩
      obtain ⟨m, rfl⟩ : ∃ m, j = o + m := ⟨j - o, by omega⟩
      have hm : m = 0 ∨ m = 1 ∨ m = 2 ∨ m = 3 ∨ m = 4 := by omega
      rcases hm with rfl | rfl | rfl | rfl | rfl <;> simp
    · have e : ¬ (K' = K' ∧ i' = i' ∧ o ≤ j ∧ j < o + 5) := fun q => h2 q.2.2
      have n0 : ¬ (K' = K' ∧ i' = i' ∧ j = o) := by omega
      have n1 : ¬ (K' = K' ∧ i' = i' ∧ j = o + 1) := by omega
      have n2 : ¬ (K' = K' ∧ i' = i' ∧ j = o + 2) := by omega
      have n3 : ¬ (K' = K' ∧ i' = i' ∧ j = o + 3) := by omega
      have n4 : ¬ (K' = K' ∧ i' = i' ∧ j = o + 4) := by omega
      rw [if_neg e, if_neg n0, if_neg n1, if_neg n2, if_neg n3, if_neg n4]
  · have e : ¬ (K' = K ∧ i' = i ∧ o ≤ j ∧ j < o + 5) := fun q => h ⟨q.1, q.2.1⟩
    have n : ∀ z, ¬ (K' = K ∧ i' = i ∧ j = z) := fun z q => h ⟨q.1, q.2.1⟩
    rw [if_neg e, if_neg (n _), if_neg (n _), if_neg (n _), if_neg (n _), if_neg (n _)]
theorem st5_F (S : ST) (K i o : Nat) (v : Nat → Int32) {w : List (Nat × Nat)} (h : ∀ j, wq w K j = true) : Fm w S (st5 S K i o v) :=
  ((((Fm.rf.sI (h _) rfl).sI (h _) rfl).sI (h _) rfl).sI (h _) rfl).sI (h _) rfl
/-- sheets: sort, size, items -/
def dRS : List (Nat × Nat) := [(24, 1), (24, 2), (25, 0), (83, 0), (84, 0), (85, 0)]
def RS (S : ST) : Prop := ∀ t, t < 4 → ∃ (so : Int32) (n : Nat), n ≤ 40 ∧ (so = -1 ∧ n = 0 ∨ so = nI 0 ∨ so = nI 1 ∨ so = nI 2) ∧ gI S 24 t 0 = so ∧ gI S 83 0 t = so ∧ gI S 24 t 1 = nI n ∧ gI S 84 0 t = nI n ∧ ∀ k, k < 40 → gI S 25 t k = gI S 85 0 (40 * t + k)
theorem RS.keep {S S1 : ST} (h : RS S) (a : Ag dRS S S1) : RS S1 := fun t ht => by
  obtain ⟨so, n, h1, h2, h3, h4, h5, h6, h7⟩ := h t ht
  exact ⟨so, n, h1, h2, (a.I rfl).trans h3, (a.I rfl).trans h4, (a.I rfl).trans h5, (a.I rfl).trans h6, fun k hk => (a.I rfl).trans ((h7 k hk).trans (a.I rfl).symm)⟩
/-- the image -/
def dRI : List (Nat × Nat) := [(2, 13), (2, 14), (2, 15), (1, 39), (1, 40), (1, 41), (20, 6), (22, 0), (81, 0), (82, 0)]
def RI (E : EN) (S : ST) : Prop := (gI S 2 0 12 = 0 ∧ gI S 1 0 38 = 0) ∨ (gI S 2 0 12 = 1 ∧ gI S 1 0 38 = 1 ∧ ∃ n t : Nat, n ≤ E.2.1 ∧ t < E.2.2.1 ∧ gI S 2 0 13 = nI n ∧ gI S 1 0 39 = nI n ∧ gI S 2 0 14 = nI t ∧ gI S 1 0 40 = nI t ∧
  ∀ p, p < n → ∃ (g : Nat) (w : Nat → Nat), g < 5 ∧ 1 ≤ wsum w ∧ wsum w ≤ 9999 ∧ gI S 20 p 5 = nI g ∧ gI S 82 0 p = nI g ∧ ∀ s, s < 5 → gI S 22 p s = nI (w s) ∧ gI S 81 0 (5 * p + s) = nI (w s))
theorem RI.keep {E : EN} {S S1 : ST} (h : RI E S) (a : Ag dRI S S1) : RI E S1 := by
  rcases h with ⟨h1, h2⟩ | ⟨h1, h2, n, t, h3, h4, h5, h6, h7, h8, h9⟩
  · exact Or.inl ⟨(a.I rfl).trans h1, (a.I rfl).trans h2⟩
  · refine Or.inr ⟨(a.I rfl).trans h1, (a.I rfl).trans h2, n, t, h3, h4, (a.I rfl).trans h5, (a.I rfl).trans h6, (a.I rfl).trans h7, (a.I rfl).trans h8, fun p hp => ?_⟩
    obtain ⟨g, w, q1, q2, q3, q4, q5, q6⟩ := h9 p hp
    exact ⟨g, w, q1, q2, q3, (a.I rfl).trans q4, (a.I rfl).trans q5, fun s hs => ⟨(a.I rfl).trans (q6 s hs).1, (a.I rfl).trans (q6 s hs).2⟩⟩
/-- the tape -/
def dRT : List (Nat × Nat) := [(2, 7), (1, 9), (5, 0), (56, 0)]
def RT (S : ST) : Prop := ∃ n : Nat, n ≤ 160 ∧ gI S 2 0 6 = nI n ∧ gI S 1 0 8 = nI n ∧ ∀ j, j < n → ∃ b : Nat, b < 256 ∧ gI S 56 0 j = nI b ∧ gI S 5 0 j = (nI b).toInt8.toInt32
theorem RT.keep {S S1 : ST} (h : RT S) (a : Ag dRT S S1) : RT S1 := by
  obtain ⟨n, h1, h2, h3, h4⟩ := h
  refine ⟨n, h1, (a.I rfl).trans h2, (a.I rfl).trans h3, fun j hj => ?_⟩
  obtain ⟨b, q1, q2, q3⟩ := h4 j hj
  exact ⟨b, q1, (a.I rfl).trans q2, (a.I rfl).trans q3⟩
/-! ## weigh -/
def dg (d : Nat) : Nat → Nat
  | 0 => d
  | s + 1 => dg d s / 10
theorem s_weighM {E : EN} {S : ST} {p d : Nat} {r : Int32} (hN : 10 ≤ E.1) (hp : p < 8) (hd : d < 2147483648) : f_X7_weigh_b34 E E.1 S (nI p) r (nI d) (0 : Int32) = some (r, st5 S 45 0 (5 * p) (fun s => nI (dg d s % 10))) := by
  have st : ∀ (n x k : Nat) (S : ST), k < 5 → x < 2147483648 → f_X7_weigh_b34 E (n + 1) S (nI p) r (nI x) (nI k) = f_X7_weigh_b34 E n (sI S 45 0 (5 * p + k) (nI (x % 10))) (nI p) r (nI (x / 10)) (nI (k + 1)) := fun n x k S hk hx => by
    show g_X7_weigh_b34 E (f_X7_weigh_b34 E n) S (nI p) r (nI x) (nI k) = _
    unfold g_X7_weigh_b34
    rw [if_neg (by rw [q_leL 5 (by decide) (by omega)]; omega), q_i5, ck_in (ib_nI (by omega) (by decide)), q_cl (by omega), q_rm10 hx, q_dv10 hx]
    simp only [lt_]
    rw [nI_1]
  have en : ∀ (n : Nat) (x : Int32) (S : ST), f_X7_weigh_b34 E (n + 1) S (nI p) r x (nI 5) = some (r, S) := fun n x S => by
    show g_X7_weigh_b34 E (f_X7_weigh_b34 E n) S (nI p) r x (nI 5) = _
    unfold g_X7_weigh_b34
    rw [if_pos (by decide)]
  obtain ⟨m, hm⟩ : ∃ m, E.1 = m + 6 := ⟨E.1 - 6, by omega⟩
  rw [hm, show (0 : Int32) = nI 0 from rfl, st _ _ 0 _ (by decide) hd, st _ _ 1 _ (by decide) (by omega), st _ _ 2 _ (by decide) (by omega), st _ _ 3 _ (by decide) (by omega), st _ _ 4 _ (by decide) (by omega), en]
  rfl
theorem s_weighC {E : EN} {S : ST} {p d : Nat} {r : Int32} (hN : 10 ≤ E.1) (hd : d < 2147483648) : f_X6_weigh_b35 E E.1 S p r (nI d) (0 : Int32) = some (r, st5 S 21 p 0 (fun s => nI (dg d s % 10))) := by
  have st : ∀ (n x k : Nat) (S : ST), k < 5 → x < 2147483648 → f_X6_weigh_b35 E (n + 1) S p r (nI x) (nI k) = f_X6_weigh_b35 E n (sI S 21 p k (nI (x % 10))) p r (nI (x / 10)) (nI (k + 1)) := fun n x k S hk hx => by
    show g_X6_weigh_b35 E (f_X6_weigh_b35 E n) S p r (nI x) (nI k) = _
    unfold g_X6_weigh_b35
    rw [if_neg (by rw [q_leL 5 (by decide) (by omega)]; omega), ck_in (ib_nI (by omega) (by decide)), q_cl (by omega), q_rm10 hx, q_dv10 hx]
    simp only [lt_]
    rw [nI_1]
  have en : ∀ (n : Nat) (x : Int32) (S : ST), f_X6_weigh_b35 E (n + 1) S p r x (nI 5) = some (r, S) := fun n x S => by
    show g_X6_weigh_b35 E (f_X6_weigh_b35 E n) S p r x (nI 5) = _
    unfold g_X6_weigh_b35
    rw [if_pos (by decide)]
  obtain ⟨m, hm⟩ : ∃ m, E.1 = m + 6 := ⟨E.1 - 6, by omega⟩
  rw [hm, show (0 : Int32) = nI 0 from rfl, st _ _ 0 _ (by decide) hd, st _ _ 1 _ (by decide) (by omega), st _ _ 2 _ (by decide) (by omega), st _ _ 3 _ (by decide) (by omega), st _ _ 4 _ (by decide) (by omega), en]
  rfl
/-- weights of pupil p become w on both sides: what is known of all -/
theorem RP.weights {E : EN} {S S1 : ST} (h : RP E S) {p : Nat} (hp : p < E.2.1) {w : Nat → Nat} (h1 : 1 ≤ wsum w) (h2 : wsum w ≤ 9999) (g : Nat) (hg : g < 5)
    (a : Ag [(2, 2), (1, 1), (3, 0), (41, 0), (43, 0), (44, 0), (20, 1), (20, 2), (20, 3)] S S1)
    (c1 : ∀ q, q < 8 → q ≠ p → gI S1 42 0 q = gI S 42 0 q ∧ gI S1 20 q 3 = gI S 20 q 3 ∧ ∀ s, s < 5 → gI S1 45 0 (5 * q + s) = gI S 45 0 (5 * q + s) ∧ gI S1 21 q s = gI S 21 q s)
    (c2 : gI S1 42 0 p = nI g ∧ gI S1 20 p 3 = nI g ∧ ∀ s, s < 5 → gI S1 45 0 (5 * p + s) = nI (w s) ∧ gI S1 21 p s = nI (w s)) : RP E S1 := by
  obtain ⟨i1, i2, i3, i4, i5⟩ := h
  refine ⟨i1, (a.I rfl).trans i2, (a.I rfl).trans i3, fun j => (a.R rfl).trans (i4 j), fun q hq => ?_⟩
  obtain ⟨k, g0, c, n, w0, ⟨x1, x2, x3, x4, x5, x6⟩, ⟨a1, a2, a3, a4⟩, ⟨b1, b2, b3, b4⟩, d1, d2⟩ := i5 q hq
  by_cases e : q = p
  · subst e
    exact ⟨k, g, c, n, w, ⟨x1, hg, x3, x4, h1, h2⟩, ⟨(a.I rfl).trans a1, c2.1, (a.I rfl).trans a3, (a.I rfl).trans a4⟩, ⟨(a.I rfl).trans b1, c2.2.1, (a.I rfl).trans b3, (a.I rfl).trans b4⟩, fun s hs => (c2.2.2 s hs).1, fun s hs => (c2.2.2 s hs).2⟩
  · obtain ⟨y1, y2, y3⟩ := c1 q (by omega) e
    exact ⟨k, g0, c, n, w0, ⟨x1, x2, x3, x4, x5, x6⟩, ⟨(a.I rfl).trans a1, y1.trans a2, (a.I rfl).trans a3, (a.I rfl).trans a4⟩, ⟨(a.I rfl).trans b1, y2.trans b2, (a.I rfl).trans b3, (a.I rfl).trans b4⟩, fun s hs => (y3 s hs).1.trans (d1 s hs), fun s hs => (y3 s hs).2.trans (d2 s hs)⟩
theorem k_weigh {E : EN} {S : ST} (hN : 10 ≤ E.1) (h : RP E S) (a b : Int32) : ∃ (r : Int32) (S1 S2 : ST), f_X6_weigh E S a b = some (r, S1) ∧ f_X7_weigh E S1 a b = some (r, S2) ∧ RP E S2 := by
  obtain ⟨h8, hc, hm, hr, hp⟩ := id h
  unfold f_X6_weigh f_X7_weigh
  rcases q_pup E h8 a with ⟨p, hp1, rfl⟩ | hno
  · obtain ⟨k, g, c, n, w, q⟩ := hp p hp1
    rcases q_or b with hb | ⟨d, hd, rfl⟩
    · refine ⟨-2, S, S, ?_, ?_, h⟩
      · rw [bd_some (s_known1 hc hr hp1 h8)]
        show ck_ (decide (p < E.2.1)) _ = _
        rw [ck_in (decide_eq_true hp1), if_pos (Int32.le_of_lt hb)]
      · rw [bd_some (s_isPupil1 hm hp1 h8), if_neg (by decide), bd_some (s_in0 (Or.inl (Int32.lt_trans hb (by decide)))), if_pos rfl]
    · by_cases hd1 : 1 ≤ d ∧ d ≤ 99999
      · refine ⟨nI (wsum w), st5 S 21 p 0 (fun s => nI (dg d s % 10)), st5 (st5 S 21 p 0 (fun s => nI (dg d s % 10))) 45 0 (5 * p) (fun s => nI (dg d s % 10)), ?_, ?_, ?_⟩
        · rw [bd_some (s_known1 hc hr hp1 h8)]
          show ck_ (decide (p < E.2.1)) _ = _
          rw [ck_in (decide_eq_true hp1), if_neg (by rw [q_leR 0 (by decide) hd]; omega), if_pos (by rw [q_leR 99999 (by decide) hd]; omega), bd_some (s_together hN q.2.2.2.2), s_weighC hN hd]
        · have F : Fm [(21, 0)] S (st5 S 21 p 0 (fun s => nI (dg d s % 10))) := st5_F _ _ _ _ _ (fun _ => rfl)
          rw [bd_some (s_isPupil1 ((F.I rfl).trans hm) hp1 h8), if_neg (by decide), bd_some (s_in1 (by
            rintro (q1 | q1)
            · rw [q_ltR 1 (by decide) hd] at q1; omega
            · rw [q_ltL 99999 (by decide) hd] at q1; omega)), if_neg (by decide), bd_some (s_sumOf hN (by omega) (fun s hs => (F.I rfl).trans (q.2.2.2.1 s hs))), s_weighM hN (by omega) hd]
        · refine h.weights hp1 (w := fun s => dg d s % 10) ?_ ?_ g q.1.2.1 ?_ ?_ ?_
          · show 1 ≤ d % 10 + d / 10 % 10 + d / 10 / 10 % 10 + d / 10 / 10 / 10 % 10 + d / 10 / 10 / 10 / 10 % 10
            omega
          · show d % 10 + d / 10 % 10 + d / 10 / 10 % 10 + d / 10 / 10 / 10 % 10 + d / 10 / 10 / 10 / 10 % 10 ≤ 9999
            omega
          · exact Fm.ag (w := [(21, 0), (45, 0)]) ((st5_F _ _ _ _ _ (fun _ => rfl)).trans (st5_F _ _ _ _ _ (fun _ => rfl))) rfl
          · intro z hz hzp
            refine ⟨?_, ?_, fun s hs => ⟨?_, ?_⟩⟩
            · rw [gI_st5, if_neg (by omega), gI_st5, if_neg (by omega)]
            · rw [gI_st5, if_neg (by omega), gI_st5, if_neg (by omega)]
            · rw [gI_st5, if_neg (by omega), gI_st5, if_neg (by omega)]
            · rw [gI_st5, if_neg (by omega), gI_st5, if_neg (by omega)]
          · refine ⟨?_, ?_, fun s hs => ⟨?_, ?_⟩⟩
            · rw [gI_st5, if_neg (by omega), gI_st5, if_neg (by omega)]; exact q.2.1.2.1
            · rw [gI_st5, if_neg (by omega), gI_st5, if_neg (by omega)]; exact q.2.2.1.2.1
            · rw [gI_st5, if_pos ⟨rfl, rfl, by omega, by omega⟩, Nat.add_sub_cancel_left]
            · rw [gI_st5, if_neg (by omega), gI_st5, if_pos ⟨rfl, rfl, by omega, by omega⟩]; rfl
      · refine ⟨-2, S, S, ?_, ?_, h⟩
        · rw [bd_some (s_known1 hc hr hp1 h8)]
          show ck_ (decide (p < E.2.1)) _ = _
          rw [ck_in (decide_eq_true hp1)]
          by_cases h0 : d ≤ 0
          · rw [if_pos (by rw [q_leR 0 (by decide) hd]; exact h0)]
          · rw [if_neg (by rw [q_leR 0 (by decide) hd]; exact h0), if_neg (by rw [q_leR 99999 (by decide) hd]; omega)]
        · rw [bd_some (s_isPupil1 hm hp1 h8), if_neg (by decide), bd_some (s_in0 (by
            rw [q_ltR 1 (by decide) hd, q_ltL 99999 (by decide) hd]; omega)), if_pos rfl]
  · refine ⟨-2, S, S, ?_, ?_, h⟩
    · rw [bd_some (s_known0 hc hno h8)]
      rfl
    · rw [bd_some (s_isPupil0 hm hno h8), if_pos rfl]
