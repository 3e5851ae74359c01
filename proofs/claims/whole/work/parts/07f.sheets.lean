/-! PURE PART: rows of writes; sheet, cell -/
def flr (S : ST) (K i o : Nat) (v : Nat → Int32) : Nat → ST
  | 0 => S
  | k + 1 => sI (flr S K i o v k) K i (o + k) (v k)
theorem gI_flr (S : ST) (K i o : Nat) (v : Nat → Int32) (n K' i' j : Nat) : gI (flr S K i o v n) K' i' j = if K' = K ∧ i' = i ∧ o ≤ j ∧ j < o + n then v (j - o) else gI S K' i' j := by
  induction n with
  | zero => rw [if_neg (by omega)]; rfl
  | succ n ih =>
    show gI (sI (flr S K i o v n) K i (o + n) (v n)) K' i' j = _
    rw [gI_sI, ih]
    by_cases h : K' = K ∧ i' = i ∧ j = o + n
    · obtain ⟨rfl, rfl, rfl⟩ := h
      rw [if_pos ⟨rfl, rfl, rfl⟩, if_pos ⟨rfl, rfl, by omega, by omega⟩, Nat.add_sub_cancel_left]
    · rw [if_neg h]
      by_cases h2 : K' = K ∧ i' = i ∧ o ≤ j ∧ j < o + n
      · rw [if_pos h2, if_pos ⟨h2.1, h2.2.1, h2.2.2.1, by omega⟩]
      · rw [if_neg h2, if_neg (by omega)]
theorem flr_F (S : ST) (K i o : Nat) (v : Nat → Int32) {w : List (Nat × Nat)} (h : ∀ j, wq w K j = true) (n : Nat) : Fm w S (flr S K i o v n) := by
  induction n with
  | zero => exact Fm.rf
  | succ n ih => exact ih.sI (h _) rfl
theorem s_isSheet1 {E : EN} {S : ST} {t : Nat} (h : t < 4) : f_X7_isSheet E S (nI t) = some 1 := by
  unfold f_X7_isSheet
  rw [bd_some (s_inY (by omega) (by decide) (show (3 : Int32) = nI 3 from rfl) (by omega))]
  rfl
theorem s_isSheet0 {E : EN} {S : ST} {x : Int32} (h : ∀ t, t < 4 → x ≠ nI t) : f_X7_isSheet E S x = some 0 := by
  unfold f_X7_isSheet
  rcases q_or x with q | ⟨n, hn, rfl⟩
  · rw [bd_some (s_inS q)]
    rfl
  · have h1 : ¬ n < 4 := fun q => h n q rfl
    rw [bd_some (s_inZ hn (by decide) (show (3 : Int32) = nI 3 from rfl) (by omega))]
    rfl
theorem s_laid1 {E : EN} {S : ST} {t : Nat} (h : t < 4) : f_X6_laid E S (nI t) = some (some t) := by
  unfold f_X6_laid
  rw [if_neg (q_n0 (by omega)), if_neg (by rw [q_leL 4 (by decide) (by omega)]; omega), ck_in (ib_nI h (by decide)), q_cl (by omega)]
theorem s_laid0 {E : EN} {S : ST} {x : Int32} (h : ∀ t, t < 4 → x ≠ nI t) : f_X6_laid E S x = some none := by
  unfold f_X6_laid
  rcases q_or x with q | ⟨n, hn, rfl⟩
  · rw [if_pos q]
  · have h1 : ¬ n < 4 := fun q => h n q rfl
    rw [if_neg (q_n0 hn), if_pos (by rw [q_leL 4 (by decide) hn]; omega)]
theorem q_sheet (x : Int32) : (∃ t, t < 4 ∧ x = nI t) ∨ ∀ t, t < 4 → x ≠ nI t := by
  by_cases h : ∃ p, p < 4 ∧ x = nI p
  · exact Or.inl h
  · exact Or.inr (fun p hp e => h ⟨p, hp, e⟩)
theorem s_fillI {E : EN} {S : ST} (hN : 50 ≤ E.1) {t : Nat} {x : Int32} : f_J7_fill_53178 E S t x = some (flr S 25 t 0 (fun _ => x) 40) := by
  have lp : ∀ (k v n : Nat), v + k = 40 → k < n → f_J7_fill_53178_b5 E n (flr S 25 t 0 (fun _ => x) v) t x (nI v) (nI 40) = some (flr S 25 t 0 (fun _ => x) 40) := by
    intro k
    induction k with
    | zero =>
      intro v n hv hn
      obtain ⟨m, rfl⟩ : ∃ m, n = m + 1 := ⟨n - 1, by omega⟩
      show g_J7_fill_53178_b5 E (f_J7_fill_53178_b5 E m) _ _ _ _ _ = _
      unfold g_J7_fill_53178_b5
      rw [if_pos (by rw [q_le (by decide) (by omega)]; omega), show v = 40 by omega]
    | succ k ih =>
      intro v n hv hn
      obtain ⟨m, rfl⟩ : ∃ m, n = m + 1 := ⟨n - 1, by omega⟩
      show g_J7_fill_53178_b5 E (f_J7_fill_53178_b5 E m) _ _ _ _ _ = _
      unfold g_J7_fill_53178_b5
      simp only [lt_]
      rw [if_neg (by rw [q_le (by decide) (by omega)]; omega), ck_in (ib_nI (by omega) (by decide)), q_cl (by omega), nI_1]
      have := ih (v + 1) m (by omega) (by omega)
      rw [show flr S 25 t 0 (fun _ => x) (v + 1) = sI (flr S 25 t 0 (fun _ => x) v) 25 t v x from by
        show sI _ 25 t (0 + v) x = _
        rw [Nat.zero_add]] at this
      exact this
  unfold f_J7_fill_53178
  exact lp 40 0 E.1 (by omega) (by omega)
abbrev shC (S : ST) (t : Nat) (so n : Int32) : ST := flr (sI (sI S 24 t 0 so) 24 t 1 n) 25 t 0 (fun _ => 0) 40
/-- the class' side of sheet -/
theorem s_becomes {E : EN} {S : ST} (hN : 50 ≤ E.1) {t : Nat} {so n : Int32} : f_X4_becomes E t S so n = some (flr (sI (sI S 24 t 0 so) 24 t 1 n) 25 t 0 (fun _ => 0) 40) := by
  unfold f_X4_becomes
  simp only [lt_]
  rw [bd_some (s_fillI hN)]
theorem q_i40 (p k : Nat) : ((40 : Int32) * nI p) + nI k = nI (40 * p + k) := by
  rw [show (40 : Int32) = nI 40 from rfl, pk_mul, nI_add]
/-- the reference's side -/
theorem s_sheetM {E : EN} {S : ST} (hN : 50 ≤ E.1) {t : Nat} (ht : t < 4) {so n : Int32} : f_X7_sheet_b42 E S (nI t) so n = some (1, flr (sI (sI S 83 0 t so) 84 0 t (if 0 ≤ so then n else 0)) 85 0 (40 * t) (fun _ => 0) 40) := by
  have lp : ∀ (k v n : Nat) (S : ST), v + k = 40 → k < n → f_X7_sheet_b67 E n (flr S 85 0 (40 * t) (fun _ => 0) v) (nI t) (nI v) = some (1, flr S 85 0 (40 * t) (fun _ => 0) 40) := by
    intro k
    induction k with
    | zero =>
      intro v n S hv hn
      obtain ⟨m, rfl⟩ : ∃ m, n = m + 1 := ⟨n - 1, by omega⟩
      show g_X7_sheet_b67 E (f_X7_sheet_b67 E m) _ _ _ = _
      unfold g_X7_sheet_b67
      rw [if_pos (by rw [q_leL 40 (by decide) (by omega)]; omega), show v = 40 by omega]
    | succ k ih =>
      intro v n S hv hn
      obtain ⟨m, rfl⟩ : ∃ m, n = m + 1 := ⟨n - 1, by omega⟩
      show g_X7_sheet_b67 E (f_X7_sheet_b67 E m) _ _ _ = _
      unfold g_X7_sheet_b67
      simp only [lt_]
      rw [if_neg (by rw [q_leL 40 (by decide) (by omega)]; omega), q_i40, ck_in (ib_nI (by omega) (by decide)), q_cl (by omega), nI_1]
      exact ih (v + 1) m S (by omega) (by omega)
  unfold f_X7_sheet_b42
  simp only [lt_]
  have hi : ib_ (nI t) 4 = true := ib_nI ht (by decide)
  rw [ck_in hi, q_cl (by omega)]
  by_cases h : 0 ≤ so
  · rw [if_pos h, if_pos h]
    unfold f_X7_sheet_b63
    simp only [lt_]
    rw [ck_in hi, q_cl (by omega)]
    exact lp 40 0 E.1 _ (by omega) (by omega)
  · rw [if_neg h, if_neg h]
    unfold f_X7_sheet_b63
    simp only [lt_]
    rw [ck_in hi, q_cl (by omega)]
    exact lp 40 0 E.1 _ (by omega) (by omega)
/-- a sheet becomes other on both sides -/
theorem RS.set {S S1 : ST} (h : RS S) {t : Nat} (so : Int32) (n : Nat) (hn : n ≤ 40) (hso : so = -1 ∧ n = 0 ∨ so = nI 0 ∨ so = nI 1 ∨ so = nI 2)
    (c1 : ∀ q, q < 4 → q ≠ t → gI S1 24 q 0 = gI S 24 q 0 ∧ gI S1 83 0 q = gI S 83 0 q ∧ gI S1 24 q 1 = gI S 24 q 1 ∧ gI S1 84 0 q = gI S 84 0 q ∧ ∀ k, k < 40 → gI S1 25 q k = gI S 25 q k ∧ gI S1 85 0 (40 * q + k) = gI S 85 0 (40 * q + k))
    (c2 : gI S1 24 t 0 = so ∧ gI S1 83 0 t = so ∧ gI S1 24 t 1 = nI n ∧ gI S1 84 0 t = nI n ∧ ∀ k, k < 40 → gI S1 25 t k = gI S1 85 0 (40 * t + k)) : RS S1 := fun q hq => by
  by_cases e : q = t
  · subst e
    exact ⟨so, n, hn, hso, c2⟩
  · obtain ⟨so0, n0, h1, h2, h3, h4, h5, h6, h7⟩ := h q hq
    obtain ⟨y1, y2, y3, y4, y5⟩ := c1 q hq e
    exact ⟨so0, n0, h1, h2, y1.trans h3, y2.trans h4, y3.trans h5, y4.trans h6, fun k hk => (y5 k hk).1.trans ((h7 k hk).trans (y5 k hk).2.symm)⟩
theorem sheet_set {S : ST} (h : RS S) {t : Nat} (ht : t < 4) {so : Int32} {n : Nat} (hn : n ≤ 40) (hso : so = -1 ∧ n = 0 ∨ so = nI 0 ∨ so = nI 1 ∨ so = nI 2) :
    RS (flr (sI (sI (flr (sI (sI S 24 t 0 so) 24 t 1 (nI n)) 25 t 0 (fun _ => 0) 40) 83 0 t so) 84 0 t (nI n)) 85 0 (40 * t) (fun _ => 0) 40) := by
  refine h.set (t := t) so n hn hso (fun q hq e => ⟨?_, ?_, ?_, ?_, fun k hk => ⟨?_, ?_⟩⟩) ⟨?_, ?_, ?_, ?_, fun k hk => ?_⟩
  all_goals simp only [gI_flr, gI_sI]
  · rw [if_neg (by omega), if_neg (by omega), if_neg (by omega), if_neg (by omega), if_neg (by omega), if_neg (by omega)]
  · rw [if_neg (by omega), if_neg (by omega), if_neg (by omega), if_neg (by omega), if_neg (by omega), if_neg (by omega)]
  · rw [if_neg (by omega), if_neg (by omega), if_neg (by omega), if_neg (by omega), if_neg (by omega), if_neg (by omega)]
  · rw [if_neg (by omega), if_neg (by omega), if_neg (by omega), if_neg (by omega), if_neg (by omega), if_neg (by omega)]
  · rw [if_neg (by omega), if_neg (by omega), if_neg (by omega), if_neg (by omega), if_neg (by omega), if_neg (by omega)]
  · rw [if_neg (by omega), if_neg (by omega), if_neg (by omega), if_neg (by omega), if_neg (by omega), if_neg (by omega)]
  · rw [if_neg (by omega), if_neg (by omega), if_neg (by omega), if_neg (by omega), if_neg (by omega), if_pos (by simp)]
  · rw [if_neg (by omega), if_neg (by omega), if_pos (by simp)]
  · rw [if_neg (by omega), if_neg (by omega), if_neg (by omega), if_neg (by omega), if_pos (by simp)]
  · rw [if_neg (by omega), if_pos (by simp)]
  · rw [if_neg (by omega), if_neg (by omega), if_neg (by omega), if_pos (by simp; omega), if_pos (by simp; omega)]
theorem k_sheet {E : EN} {S : ST} (hN : 50 ≤ E.1) (h : RS S) (a b c : Int32) : ∃ (r : Int32) (S1 S2 : ST), f_X6_sheet E S a b c = some (r, S1) ∧ f_X7_sheet E S1 a b c = some (r, S2) ∧ RS S2 := by
  unfold f_X6_sheet f_X7_sheet
  rcases q_sheet a with ⟨t, ht, rfl⟩ | hno
  · rw [bd_some (s_laid1 ht), nl_so, ck_in (decide_eq_true ht)]
    by_cases hb : b < -1 ∨ (2 : Int32) < b
    · refine ⟨-2, S, S, ?_, ?_, h⟩
      · rcases hb with hb | hb
        · rw [if_pos hb]
        · have h1 : ¬ b < (-1 : Int32) := fun q => absurd (Int32.lt_trans q (by decide)) (Int32.not_lt.mpr (Int32.le_of_lt hb))
          rw [if_neg h1, if_neg (Int32.not_le.mpr hb)]
      · rw [bd_some (s_isSheet1 ht), if_neg (by decide), bd_some (s_in0 hb), if_pos (by decide)]
    · have hb1 : ¬ b < (-1 : Int32) := fun q => hb (Or.inl q)
      have hb2 : b ≤ (2 : Int32) := Int32.not_lt.mp (fun q => hb (Or.inr q))
      rw [if_neg hb1, if_pos hb2]
      have hM : ∀ S1 : ST, f_X7_isSheet E S1 (nI t) = some 1 := fun _ => s_isSheet1 ht
      rcases q_or b with hs | ⟨so, hso, rfl⟩
      · have e : b = -1 := by
          rw [Int32.lt_iff_toInt_lt] at hb1 hs
          have e1 : (-1 : Int32).toInt = -1 := by decide
          have e0 : (0 : Int32).toInt = 0 := by decide
          exact Int32.toInt_inj.mp (by omega)
        subst e
        refine ⟨1, shC S t (-1) (nI 0), _, ?_, ?_, sheet_set h ht (so := -1) (n := 0) (by omega) (Or.inl ⟨rfl, rfl⟩)⟩
        · rw [if_pos rfl]
          unfold f_X6_sheet_b35
          rw [if_pos (by decide), if_pos (by decide), bd_some (s_becomes hN)]
          rfl
        · rw [bd_some (hM _), if_neg (by decide), bd_some (s_in1 (by decide)), if_neg (by decide), if_pos (by decide)]
          unfold f_X7_sheet_b31
          rw [if_pos (by decide), s_sheetM hN ht, if_neg (by decide)]
          rfl
      · have hs2 : so ≤ 2 := (q_leR 2 (by decide) hso).mp hb2
        have hn1 : ¬ nI so = (-1 : Int32) := fun e => absurd (show nI so < 0 from by rw [e]; decide) (q_n0 hso)
        have h0so : ¬ nI so < 0 := q_n0 hso
        rw [if_neg hn1]
        unfold f_X6_sheet_b35
        by_cases hc : c ≤ (40 : Int32)
        · rw [if_pos hc]
          rcases q_or c with hcs | ⟨n, hn, rfl⟩
          · refine ⟨-14, S, S, ?_, ?_, h⟩
            · rw [if_neg (Int32.not_le.mpr hcs)]
            · rw [bd_some (hM _), if_neg (by decide), bd_some (s_in1 hb), if_neg (by decide), if_neg h0so, if_pos hc]
              unfold f_X7_sheet_b31
              rw [if_neg h0so, if_neg (Int32.not_le.mpr hcs)]
          · have hn40 : n ≤ 40 := (q_leR 40 (by decide) hn).mp hc
            have h3 : so = 0 ∨ so = 1 ∨ so = 2 := by omega
            refine ⟨1, shC S t (nI so) (nI n), _, ?_, ?_, sheet_set h ht (so := nI so) (n := n) hn40 (Or.inr (by rcases h3 with rfl | rfl | rfl <;> simp))⟩
            · rw [if_pos (nI_pos' hn), bd_some (s_becomes hN)]
            · rw [bd_some (hM _), if_neg (by decide), bd_some (s_in1 hb), if_neg (by decide), if_neg h0so, if_pos hc]
              unfold f_X7_sheet_b31
              rw [if_neg h0so, if_pos (nI_pos' hn), s_sheetM hN ht, if_pos (nI_pos' hso)]
        · refine ⟨-2, S, S, ?_, ?_, h⟩
          · rw [if_neg hc]
          · rw [bd_some (hM _), if_neg (by decide), bd_some (s_in1 hb), if_neg (by decide), if_neg h0so, if_neg hc]
  · exact ⟨-2, S, S, by rw [bd_some (s_laid0 hno)]; rfl, by rw [bd_some (s_isSheet0 hno), if_pos (by decide)], h⟩
