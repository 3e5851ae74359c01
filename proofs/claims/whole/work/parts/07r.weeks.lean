/-! PURE PART: weeks: longs, rows, sums -/
theorem w_toInt {n : Nat} (h : n < 9223372036854775808) : (lN n).toInt = (n : Int) := lg_ofNat_toInt (by omega)
theorem w_le {a b : Nat} (ha : a < 9223372036854775808) (hb : b < 9223372036854775808) : lN a ≤ lN b ↔ a ≤ b := by
  rw [Int64.le_iff_toInt_le, w_toInt ha, w_toInt hb]; omega
theorem w_lt {a b : Nat} (ha : a < 9223372036854775808) (hb : b < 9223372036854775808) : lN a < lN b ↔ a < b := by
  rw [Int64.lt_iff_toInt_lt, w_toInt ha, w_toInt hb]; omega
theorem w_eq {a b : Nat} (ha : a < 9223372036854775808) (hb : b < 9223372036854775808) : lN a = lN b ↔ a = b := by
  rw [← Int64.toInt_inj, w_toInt ha, w_toInt hb]; omega
/-- the sum of the steps from a on -/
def smf (r : Nat → Nat) (a : Nat) : Nat := (if a ≤ 0 then r 0 else 0) + (if a ≤ 1 then r 1 else 0) + (if a ≤ 2 then r 2 else 0) + (if a ≤ 3 then r 3 else 0) + (if a ≤ 4 then r 4 else 0)
theorem smf_0 (r : Nat → Nat) : smf r 0 = r 0 + r 1 + r 2 + r 3 + r 4 := by simp [smf]
theorem smf_s (r : Nat → Nat) {a : Nat} (h : a < 5) : smf r a = r a + smf r (a + 1) := by
  have ha : a = 0 ∨ a = 1 ∨ a = 2 ∨ a = 3 ∨ a = 4 := by omega
  rcases ha with rfl | rfl | rfl | rfl | rfl <;> simp [smf] <;> omega
theorem smf_5 (r : Nat → Nat) : smf r 5 = 0 := by simp [smf]
theorem smf_le (r : Nat → Nat) (a : Nat) : smf r a ≤ smf r 0 := by
  rw [smf_0]
  unfold smf
  (repeat' split) <;> omega
theorem smf_cong {r q : Nat → Nat} (h : ∀ s, s < 5 → r s = q s) (a : Nat) : smf r a = smf q a := by
  unfold smf
  rw [h 0 (by decide), h 1 (by decide), h 2 (by decide), h 3 (by decide), h 4 (by decide)]
theorem q_5w (w s : Nat) : ((5 : Int32) * nI w) + nI s = nI (5 * w + s) := q_i5 w s
theorem s_sumFrom {E : EN} {S : ST} (hN : 10 ≤ E.1) {w a : Nat} (hw : w < 6) (ha : a ≤ 5) {r : Nat → Nat} (h : ∀ s, s < 5 → gL S 66 0 (5 * w + s) = lN (r s)) : f_X7_sumFrom E S (nI w) (nI a) = some (lN (smf r a)) := by
  have lp : ∀ (q s n v : Nat), s + q = 5 → q < n → f_X7_sumFrom_b5 E n S (nI w) (lN v) (nI s) = some (lN (v + smf r s)) := by
    intro q
    induction q with
    | zero =>
      intro s n v hs hn
      obtain ⟨n, rfl⟩ : ∃ n', n = n' + 1 := ⟨n - 1, by omega⟩
      have e : s = 5 := by omega
      subst e
      rw [show f_X7_sumFrom_b5 E (n + 1) = g_X7_sumFrom_b5 E (f_X7_sumFrom_b5 E n) from rfl]
      unfold g_X7_sumFrom_b5
      rw [if_pos (show (5 : Int32) ≤ nI 5 by decide), smf_5, Nat.add_zero]
    | succ q ih =>
      intro s n v hs hn
      obtain ⟨n, rfl⟩ : ∃ n', n = n' + 1 := ⟨n - 1, by omega⟩
      show g_X7_sumFrom_b5 E (f_X7_sumFrom_b5 E n) S _ _ _ = _
      unfold g_X7_sumFrom_b5
      rw [if_neg (by rw [q_leL 5 (by decide) (by omega)]; omega), q_5w, ck_in (ib_nI (by omega) (by decide)), q_cl (by omega), lt_e, lt_e, h s (by omega), lN_add, nI_1, ih (s + 1) n _ (by omega) (by omega), smf_s r (show s < 5 by omega), Nat.add_assoc]
  unfold f_X7_sumFrom
  have := lp (5 - a) a E.1 0 (by omega) (by omega)
  rw [Nat.zero_add] at this
  exact this
theorem s_sumRow {E : EN} {S : ST} (hN : 10 ≤ E.1) {w : Nat} (hw : w < 6) {r : Nat → Nat} (h : ∀ s, s < 5 → gL S 66 0 (5 * w + s) = lN (r s)) : f_X7_sumRow E S (nI w) = some (lN (smf r 0)) := by
  have lp : ∀ (q s n v : Nat), s + q = 5 → q < n → f_X7_sumRow_b5 E n S (nI w) (lN v) (nI s) = some (lN (v + smf r s)) := by
    intro q
    induction q with
    | zero =>
      intro s n v hs hn
      obtain ⟨n, rfl⟩ : ∃ n', n = n' + 1 := ⟨n - 1, by omega⟩
      have e : s = 5 := by omega
      subst e
      rw [show f_X7_sumRow_b5 E (n + 1) = g_X7_sumRow_b5 E (f_X7_sumRow_b5 E n) from rfl]
      unfold g_X7_sumRow_b5
      rw [if_pos (show (5 : Int32) ≤ nI 5 by decide), smf_5, Nat.add_zero]
    | succ q ih =>
      intro s n v hs hn
      obtain ⟨n, rfl⟩ : ∃ n', n = n' + 1 := ⟨n - 1, by omega⟩
      show g_X7_sumRow_b5 E (f_X7_sumRow_b5 E n) S _ _ _ = _
      unfold g_X7_sumRow_b5
      rw [if_neg (by rw [q_leL 5 (by decide) (by omega)]; omega), q_5w, ck_in (ib_nI (by omega) (by decide)), q_cl (by omega), lt_e, lt_e, h s (by omega), lN_add, nI_1, ih (s + 1) n _ (by omega) (by omega), smf_s r (show s < 5 by omega), Nat.add_assoc]
  unfold f_X7_sumRow
  have := lp 5 0 E.1 0 (by omega) (by omega)
  rw [Nat.zero_add] at this
  exact this
theorem q_bnd {w : Nat} (hw : w < 6) : mxI (0 : Int32) (mnI (5 : Int32) (nI w)) = nI w := by
  have all : ∀ w, w < 6 → mxI (0 : Int32) (mnI (5 : Int32) (nI w)) = nI w := by decide
  exact all w hw
theorem s_bnd {E : EN} {S : ST} {w : Nat} (hw : w < 6) : f_X1_bounded E S (nI w) = some (nI w) := by
  unfold f_X1_bounded
  rw [q_bnd hw]
theorem q_mx0 {a : Nat} (h : a < 6) : mxI (0 : Int32) (nI a) = nI a := by
  have all : ∀ w, w < 6 → mxI (0 : Int32) (nI w) = nI w := by decide
  exact all a h
theorem s_from {E : EN} {S : ST} (hN : 10 ≤ E.1) {w a : Nat} (hw : w < 6) (ha : a ≤ 5) {r : Nat → Nat} (h : ∀ s, s < 5 → gL S 28 w s = lN (r s)) : f_X1_from E S (nI a) (nI w) = some (lN (smf r a)) := by
  have lp : ∀ (q s n v : Nat), s + q = 5 → q < n → f_X1_from_b20 E n S w (lN v) (nI s) = some (lN (v + smf r s)) := by
    intro q
    induction q with
    | zero =>
      intro s n v hs hn
      obtain ⟨n, rfl⟩ : ∃ n', n = n' + 1 := ⟨n - 1, by omega⟩
      have e : s = 5 := by omega
      subst e
      rw [show f_X1_from_b20 E (n + 1) = g_X1_from_b20 E (f_X1_from_b20 E n) from rfl]
      unfold g_X1_from_b20
      rw [if_pos (show (5 : Int32) ≤ nI 5 by decide), smf_5, Nat.add_zero]
    | succ q ih =>
      intro s n v hs hn
      obtain ⟨n, rfl⟩ : ∃ n', n = n' + 1 := ⟨n - 1, by omega⟩
      show g_X1_from_b20 E (f_X1_from_b20 E n) S _ _ _ = _
      unfold g_X1_from_b20
      rw [if_neg (by rw [q_leL 5 (by decide) (by omega)]; omega), ck_in (ib_nI (by omega) (by decide)), q_cl (by omega), lt_e, lt_e, h s (by omega), lN_add, nI_1, ih (s + 1) n _ (by omega) (by omega), smf_s r (show s < 5 by omega), Nat.add_assoc]
  unfold f_X1_from
  rw [bd_some (s_bnd hw), ck_in (ib_nI hw (by decide)), q_cl (by omega), q_mx0 (by omega), lt_e]
  have := lp (5 - a) a E.1 0 (by omega) (by omega)
  rw [Nat.zero_add] at this
  exact this
theorem s_togetherC {E : EN} {S : ST} (hN : 10 ≤ E.1) {w : Nat} (hw : w < 6) {r : Nat → Nat} (h : ∀ s, s < 5 → gL S 28 w s = lN (r s)) : f_X1_together E S (nI w) = some (lN (smf r 0)) := by
  unfold f_X1_together
  rw [show (0 : Int32) = nI 0 from rfl, bd_some (s_from hN hw (by omega) h)]
/-! ## one week -/
/-- a row of weights behind a week: chances L (key, week, class, moved, step), right or wrong b -/
def nxr (L : Nat → Nat → Nat → Nat → Nat → Nat) (w g m b : Nat) (r : Nat → Nat) : Nat → Nat := fun s =>
  (r s * (10 - L 0 w g m s) + (if s = 0 then 0 else r (s - 1) * L 0 w g m (s - 1))) * (if b = 1 then L 1 w g m s else 10 - L 1 w g m s)
theorem nxr_le {L : Nat → Nat → Nat → Nat → Nat → Nat} {w g m b : Nat} {r : Nat → Nat} (h0 : ∀ s, L 0 w g m s ≤ 10) (h1 : ∀ s, L 1 w g m s ≤ 10) : smf (nxr L w g m b r) 0 ≤ 100 * smf r 0 := by
  have k : ∀ s, nxr L w g m b r s ≤ (r s * (10 - L 0 w g m s) + (if s = 0 then 0 else r (s - 1) * L 0 w g m (s - 1))) * 10 := fun s => by
    unfold nxr
    refine Nat.mul_le_mul_left _ ?_
    have := h1 s
    split <;> omega
  have e : ∀ s, r s * (10 - L 0 w g m s) + r s * L 0 w g m s = r s * 10 := fun s => by
    have := h0 s
    rw [← Nat.mul_add, show 10 - L 0 w g m s + L 0 w g m s = 10 by omega]
  have k0 := k 0
  have k1 := k 1
  have k2 := k 2
  have k3 := k 3
  have k4 := k 4
  have e0 := e 0
  have e1 := e 1
  have e2 := e 2
  have e3 := e 3
  have e4 := e 4
  rw [smf_0, smf_0]
  simp only [if_neg (show ¬ (1 : Nat) = 0 by decide), if_neg (show ¬ (2 : Nat) = 0 by decide), if_neg (show ¬ (3 : Nat) = 0 by decide), if_neg (show ¬ (4 : Nat) = 0 by decide), if_pos (show (0 : Nat) = 0 from rfl), if_true, show 1 - 1 = 0 from rfl, show 2 - 1 = 1 from rfl, show 3 - 1 = 2 from rfl, show 4 - 1 = 3 from rfl] at k0 k1 k2 k3 k4
  omega
