/-! PURE PART: weeks: how a kind moves, the reference's side; where weeks begin -/
section MOF
variable {E : EN} {S : ST} {w M b bp ch g n k : Nat} {r : Nat → Nat}
theorem s_mo135 (hb : b < 2) (hp : bp < 2) : ∀ (p0 : 0 < w ∨ bp = 0) (hw : w < 5), f_X7_moveOf_b135 E S (nI w) (nI b) (nI bp) = some (if 0 < w ∧ b = 0 ∧ bp = 0 then -1 else 0) := by
  intro p0 hw
  unfold f_X7_moveOf_b135
  by_cases z : b = 0
  · rw [if_pos (show nI b = 0 by rw [z]; rfl)]
    by_cases y : bp = 0
    · rw [if_pos (show nI bp = 0 by rw [y]; rfl)]
      by_cases x : w ≤ 0
      · rw [if_pos (by rw [q_leR 0 (by decide) (by omega)]; exact x), if_neg (by omega)]
      · rw [if_neg (by rw [q_leR 0 (by decide) (by omega)]; exact x), if_pos (by omega)]
    · rw [if_neg (by rw [q_eqR 0 (by decide) (by omega)]; exact y), if_neg (by omega)]
  · rw [if_neg (by rw [q_eqR 0 (by decide) (by omega)]; exact z), if_neg (by omega)]
theorem s_mo38 (hN : 10 ≤ E.1) (hw : w < 5) (hk : k < 6) (hn : n < 10) (hg : g < 5) (hb : b < 2) (hp : bp < 2) (hp0 : 0 < w ∨ bp = 0) (h69 : gI S 69 0 w = nI ch) (hch : ch < 2) (h67 : gI S 67 0 w = nI g) (hr : ∀ s, s < 5 → gL S 66 0 (5 * (w + 1) + s) = lN (r s)) (hB : smf r 0 ≤ 10000000000000000) :
    f_X7_moveOf_b38 E S (nI k) (nI n) (nI w) (nI b) (nI bp) = some (wis k n w b bp ch g r) := by
  have hle := smf_le r g
  have hn9 : n * smf r 0 ≤ 9 * smf r 0 := Nat.mul_le_mul_right _ (by omega)
  have eA := s_sumRow (E := E) (S := S) hN (w := w + 1) (by omega) hr
  have eG := s_sumFrom (E := E) (S := S) hN (w := w + 1) (a := g) (by omega) (by omega) hr
  have m135 := s_mo135 (E := E) (S := S) hb hp hp0 hw
  have zi : ib_ (nI w) 6 = true := ib_nI (by omega) (by decide)
  have zc : (nI w).toNatClampNeg = w := q_cl (by omega)
  unfold f_X7_moveOf_b38
  have long : ∀ (h3 : k = 3 ∨ k = 5), (bd_ (f_X7_sumRow E S (nI w + (1 : Int32))) fun r4 => ck_ (ib_ (nI w) 6) <| bd_ (f_X7_sumFrom E S (nI w + (1 : Int32)) (gI S 67 0 (nI w).toNatClampNeg)) fun r6 =>
          (if r4 = (0 : Int64) then some (0 : Int32) else (if ((10 : Int64) * r6) < ((nI n).toInt64 * r4) then (if nI k = (5 : Int32) then (if ((nI n).toInt64 * r4) ≤ ((20 : Int64) * r6) then some (0 : Int32) else some (-1 : Int32)) else some (0 : Int32)) else some (1 : Int32)))) = some (wis k n w b bp ch g r) := fun h3 => by
    rw [nI_1, bd_some eA, ck_in zi, zc, h67, bd_some eG]
    unfold wis
    rw [if_neg (show ¬ k = 0 by omega), if_neg (show ¬ k = 1 by omega), if_neg (show ¬ k = 2 by omega), if_neg (show ¬ k = 4 by omega), nI_l (by omega), show (10 : Int64) = lN 10 from rfl, show (20 : Int64) = lN 20 from rfl, lN_mul, lN_mul, lN_mul]
    by_cases z : smf r 0 = 0
    · rw [if_pos z, z, if_pos (by decide)]
    · rw [if_neg z, if_neg (by rw [show (0 : Int64) = lN 0 from rfl, w_eq (by omega) (by omega)]; exact z)]
      by_cases y : n * smf r 0 ≤ 10 * smf r g
      · rw [if_neg (by rw [w_lt (by omega) (by omega)]; omega), if_pos y]
      · rw [if_pos (by rw [w_lt (by omega) (by omega)]; omega), if_neg y]
        by_cases k5 : k = 5
        · rw [if_pos (show nI k = (5 : Int32) by rw [k5]; rfl)]
          by_cases x : 20 * smf r g < n * smf r 0
          · rw [if_neg (by rw [w_le (by omega) (by omega)]; omega), if_pos ⟨k5, x⟩]
          · rw [if_pos (by rw [w_le (by omega) (by omega)]; omega), if_neg (fun q => x q.2)]
        · rw [if_neg (by rw [q_eqR 5 (by decide) (by omega)]; exact k5), if_neg (fun q => k5 q.1)]
  have hkk : k = 0 ∨ k = 1 ∨ k = 2 ∨ k = 3 ∨ k = 4 ∨ k = 5 := by omega
  rcases hkk with rfl | rfl | rfl | rfl | rfl | rfl
  · rw [if_pos (by decide)]
    unfold wis
    rw [if_pos rfl]
    by_cases z : b = 1
    · rw [if_pos z, z, if_neg (by decide)]
    · have : b = 0 := by omega
      rw [if_neg z, this, if_pos (by decide)]
  · rw [if_neg (by decide), if_pos (by decide)]
    unfold wis twi
    rw [if_neg (show ¬ (1 : Nat) = 0 by decide), if_pos (show (1 : Nat) = 1 from rfl)]
    by_cases z : b = 0
    · rw [if_pos (show nI b = 0 by rw [z]; rfl), if_neg (by omega)]
    · rw [if_neg (by rw [q_eqR 0 (by decide) (by omega)]; exact z)]
      by_cases y : bp = 0
      · rw [if_pos (show nI bp = 0 by rw [y]; rfl), if_neg (by omega)]
      · rw [if_neg (by rw [q_eqR 0 (by decide) (by omega)]; exact y), ck_in zi, zc, h69]
        by_cases x : ch = 0
        · rw [if_pos (show nI ch = 0 by rw [x]; rfl), if_pos (by omega)]
        · rw [if_neg (by rw [q_eqR 0 (by decide) (by omega)]; exact x), if_neg (by omega)]
  · rw [if_neg (by decide), if_neg (by decide), if_pos (by decide)]
    unfold wis
    rw [if_neg (show ¬ (2 : Nat) = 0 by decide), if_neg (show ¬ (2 : Nat) = 1 by decide), if_pos (show (2 : Nat) = 2 from rfl)]
    by_cases z : n ≤ 0
    · rw [if_pos (by rw [q_leR 0 (by decide) (by omega)]; exact z), if_neg (fun q => absurd q.1 (by omega))]
    · rw [if_neg (by rw [q_leR 0 (by decide) (by omega)]; exact z), ck_in (by rw [decide_eq_false (by rw [q_eqR 0 (by decide) (by omega)]; omega)]; rfl), nI_1, q_rm (by omega) (by omega) (by omega)]
      have hlt : (w + 1) % n < 10 := Nat.lt_of_lt_of_le (Nat.mod_lt _ (by omega)) (by omega)
      by_cases y : (w + 1) % n = 0
      · rw [if_pos (by rw [q_eqR 0 (by decide) (by omega)]; exact y), if_pos ⟨by omega, y⟩]
      · rw [if_neg (by rw [q_eqR 0 (by decide) (by omega)]; exact y), if_neg (fun q => y q.2)]
  · rw [if_neg (by decide), if_neg (by decide), if_neg (by decide), if_neg (by decide)]
    exact long (Or.inl rfl)
  · rw [if_neg (by decide), if_neg (by decide), if_neg (by decide), if_pos (by decide)]
    unfold wis
    rw [if_neg (show ¬ (4 : Nat) = 0 by decide), if_neg (show ¬ (4 : Nat) = 1 by decide), if_neg (show ¬ (4 : Nat) = 2 by decide), if_pos (show (4 : Nat) = 4 from rfl)]
    by_cases z : b = 0
    · rw [if_pos (show nI b = 0 by rw [z]; rfl), m135, if_neg (show ¬ (0 < w ∧ b = 1 ∧ bp = 1 ∧ ch = 0) by omega)]
    · rw [if_neg (by rw [q_eqR 0 (by decide) (by omega)]; exact z)]
      by_cases y : bp = 0
      · rw [if_pos (show nI bp = 0 by rw [y]; rfl), m135, if_neg (show ¬ (0 < w ∧ b = 1 ∧ bp = 1 ∧ ch = 0) by omega)]
      · rw [if_neg (by rw [q_eqR 0 (by decide) (by omega)]; exact y), ck_in zi, zc, h69]
        by_cases x : ch = 0
        · rw [if_pos (show nI ch = 0 by rw [x]; rfl), if_pos (show (0 < w ∧ b = 1 ∧ bp = 1 ∧ ch = 0) by omega)]
        · rw [if_neg (by rw [q_eqR 0 (by decide) (by omega)]; exact x), m135, if_neg (show ¬ (0 < w ∧ b = 1 ∧ bp = 1 ∧ ch = 0) by omega)]
  · rw [if_neg (by decide), if_neg (by decide), if_neg (by decide), if_neg (by decide)]
    exact long (Or.inr rfl)
theorem s_moveOf (hN : 10 ≤ E.1) (hw : w < 5) (hk : k < 6) (hn : n < 10) (hg : g < 5) (hM : M < 32) (hb : M / 2 ^ w % 2 = b) (hbp : 0 < w → M / 2 ^ (w - 1) % 2 = bp) (hp : bp < 2) (h69 : gI S 69 0 w = nI ch) (hch : ch < 2) (h67 : gI S 67 0 w = nI g) (hr : ∀ s, s < 5 → gL S 66 0 (5 * (w + 1) + s) = lN (r s)) (hB : smf r 0 ≤ 10000000000000000) :
    f_X7_moveOf E S (nI k) (nI n) (nI w) (nI M) = some (wis k n w b bp ch g r) := by
  have hb2 : b < 2 := by rw [← hb]; exact Nat.mod_lt _ (by decide)
  unfold f_X7_moveOf
  rw [q_bit hM hw, hb]
  have b15 : f_X7_moveOf_b15 E S (nI k) (nI n) (nI w) (nI M) (nI b) = some (wis k n w b bp ch g r) := by
    unfold f_X7_moveOf_b15 f_X7_moveOf_b37
    rcases w with _ | v
    · rw [if_pos (by decide)]
      have := s_mo38 (E := E) (S := S) (w := 0) (k := k) (n := n) (b := b) (bp := 0) (ch := ch) (g := g) (r := r) hN hw hk hn hg hb2 (by decide) (Or.inr rfl) h69 hch h67 hr hB
      rw [show (0 : Int32) = nI 0 from rfl, this]
      unfold wis twi
      simp
    · have hbp' := hbp (by omega)
      rw [Nat.add_sub_cancel] at hbp'
      rw [if_neg (by rw [q_leR 0 (by decide) (by omega)]; omega), q_m1, q_bit hM (show v < 5 by omega), hbp']
      have := s_mo38 (E := E) (S := S) (w := v + 1) (k := k) (n := n) (b := b) (bp := bp) (ch := ch) (g := g) (r := r) hN hw hk hn hg hb2 hp (Or.inl (by omega)) h69 hch h67 hr hB
      by_cases z : bp = 1
      · rw [if_pos (show nI bp = (1 : Int32) by rw [z]; rfl), ← this, z]
        rfl
      · have z0 : bp = 0 := by omega
        rw [if_neg (by rw [q_eqR 1 (by decide) (by omega)]; exact z), ← this, z0]
        rfl
  by_cases z : b = 1
  · rw [if_pos (show nI b = (1 : Int32) by rw [z]; rfl), ← b15, z]
    rfl
  · have z0 : b = 0 := by omega
    rw [if_neg (by rw [q_eqR 1 (by decide) (by omega)]; exact z), ← b15, z0]
    rfl
end MOF
/-! ## where weeks begin -/
def rowL (S : ST) (K i o : Nat) (v : Nat → Int64) : Nat → ST
  | 0 => S
  | k + 1 => sL (rowL S K i o v k) K i (o + k) (v k)
theorem gL_rowL (S : ST) (K i o : Nat) (v : Nat → Int64) (n K' i' j : Nat) : gL (rowL S K i o v n) K' i' j = if K' = K ∧ i' = i ∧ o ≤ j ∧ j < o + n then v (j - o) else gL S K' i' j := by
  induction n with
  | zero => rw [if_neg (by omega)]; rfl
  | succ n ih =>
    show gL (sL (rowL S K i o v n) K i (o + n) (v n)) K' i' j = _
    rw [gL_sL, ih]
    by_cases h : K' = K ∧ i' = i ∧ j = o + n
    · obtain ⟨rfl, rfl, rfl⟩ := h
      rw [if_pos ⟨rfl, rfl, rfl⟩, if_pos ⟨rfl, rfl, by omega, by omega⟩, Nat.add_sub_cancel_left]
    · rw [if_neg h]
      by_cases h2 : K' = K ∧ i' = i ∧ o ≤ j ∧ j < o + n
      · rw [if_pos h2, if_pos ⟨h2.1, h2.2.1, h2.2.2.1, by omega⟩]
      · rw [if_neg h2, if_neg (by omega)]
theorem rowL_F (S : ST) (K i o : Nat) (v : Nat → Int64) {w : List (Nat × Nat)} (h : ∀ j, wq w K j = true) (n : Nat) : Fm w S (rowL S K i o v n) := by
  induction n with
  | zero => exact Fm.rf
  | succ n ih => exact ih.sL (h _) rfl
theorem s_beginC {E : EN} {S : ST} (hN : 10 ≤ E.1) {p : Nat} {r : Nat → Nat} (hr : ∀ s, s < 5 → gI S 21 p s = nI (r s)) (h9 : ∀ s, s < 5 → r s < 2147483648) (g k n : Int32) :
    ∃ S2, f_X1_begin E S p g k n = some S2 ∧ Fm [(28, 0), (18, 0), (19, 0), (16, 5), (16, 6), (16, 7)] S S2 ∧ (∀ s, s < 5 → gL S2 28 0 s = lN (r s)) ∧ gI S2 18 0 0 = g ∧ gI S2 19 0 0 = nI 0 ∧ gI S2 16 0 4 = k ∧ gI S2 16 0 5 = n ∧ gI S2 16 0 6 = nI 0 := by
  have F0 : Fm [(28, 0)] S (rowL S 28 0 0 (fun s => lN (r s)) 5) := rowL_F _ _ _ _ _ (fun _ => rfl) _
  have e : f_X1_begin E S p g k n = f_X1_begin_b29 E (rowL S 28 0 0 (fun s => lN (r s)) 5) g k n := by
    unfold f_X1_begin
    refine lpN (σ := ST × Nat) (φ := fun m y => f_X1_begin_b3 E m y.1 p g k n (nI y.2)) (T := fun v => (rowL S 28 0 0 (fun s => lN (r s)) v, v)) (N := 5) (fun m v hv => ?_) (fun m => ?_) (by omega)
    · show g_X1_begin_b3 E (f_X1_begin_b3 E m) _ _ _ _ _ _ = _
      unfold g_X1_begin_b3
      have Fv : Fm [(28, 0)] S (rowL S 28 0 0 (fun s => lN (r s)) v) := rowL_F _ _ _ _ _ (fun _ => rfl) _
      rw [if_neg (by rw [q_leL 5 (by decide) (by omega)]; omega), ck_in (ib_nI (by omega) (by decide)), q_cl (by omega), Fv.I rfl, hr v hv, nI_l (h9 v hv), lt_e, lt_e, nI_1]
      show _ = f_X1_begin_b3 E m (sL (rowL S 28 0 0 (fun s => lN (r s)) v) 28 0 (0 + v) (lN (r v))) p g k n (nI (v + 1))
      rw [Nat.zero_add]
    · rw [show f_X1_begin_b3 E (m + 1) = g_X1_begin_b3 E (f_X1_begin_b3 E m) from rfl]
      unfold g_X1_begin_b3
      rw [if_pos (show (5 : Int32) ≤ nI 5 by decide)]
  rw [e]
  unfold f_X1_begin_b29
  rw [lt_e, lt_e, lt_e, lt_e, lt_e]
  refine ⟨_, rfl, (((((F0.mono rfl).sI rfl rfl).sI rfl rfl).sI rfl rfl).sI rfl rfl).sI rfl rfl, fun s hs => ?_, ?_, ?_, ?_, ?_, ?_⟩
  · show gL (rowL S 28 0 0 (fun s => lN (r s)) 5) 28 0 s = _
    rw [gL_rowL, if_pos ⟨rfl, rfl, by omega, by omega⟩, Nat.sub_zero]
  all_goals simp [gI_sI]
  rfl
  rfl
theorem s_beginM {E : EN} {S : ST} (hN : 10 ≤ E.1) {p : Nat} (hp : p < 8) {r : Nat → Nat} (hr : ∀ s, s < 5 → gI S 45 0 (5 * p + s) = nI (r s)) (h9 : ∀ s, s < 5 → r s < 2147483648) (g : Int32) :
    ∃ S2, f_X7_begin E S (nI p) g = some S2 ∧ Fm [(66, 0), (67, 0), (68, 0), (69, 0), (1, 31)] S S2 ∧ (∀ s, s < 5 → gL S2 66 0 s = lN (r s)) ∧ gI S2 67 0 0 = g ∧ gI S2 68 0 0 = nI 0 ∧ gI S2 69 0 0 = nI 0 ∧ gI S2 1 0 30 = nI 0 := by
  have F0 : Fm [(66, 0)] S (rowL S 66 0 0 (fun s => lN (r s)) 5) := rowL_F _ _ _ _ _ (fun _ => rfl) _
  have e : f_X7_begin E S (nI p) g = f_X7_begin_b30 E (rowL S 66 0 0 (fun s => lN (r s)) 5) g := by
    unfold f_X7_begin
    refine lpN (σ := ST × Nat) (φ := fun m y => f_X7_begin_b2 E m y.1 (nI p) g (nI y.2)) (T := fun v => (rowL S 66 0 0 (fun s => lN (r s)) v, v)) (N := 5) (fun m v hv => ?_) (fun m => ?_) (by omega)
    · show g_X7_begin_b2 E (f_X7_begin_b2 E m) _ _ _ _ = _
      unfold g_X7_begin_b2
      have Fv : Fm [(66, 0)] S (rowL S 66 0 0 (fun s => lN (r s)) v) := rowL_F _ _ _ _ _ (fun _ => rfl) _
      rw [if_neg (by rw [q_leL 5 (by decide) (by omega)]; omega), q_i5, ck_in (ib_nI (by omega) (by decide)), ck_in (ib_nI (by omega) (by decide)), q_cl (show v < 2147483648 by omega), q_cl (show 5 * p + v < 2147483648 by omega), Fv.I rfl, hr v hv, nI_l (h9 v hv), lt_e, lt_e, nI_1]
      show _ = f_X7_begin_b2 E m (sL (rowL S 66 0 0 (fun s => lN (r s)) v) 66 0 (0 + v) (lN (r v))) (nI p) g (nI (v + 1))
      rw [Nat.zero_add]
    · rw [show f_X7_begin_b2 E (m + 1) = g_X7_begin_b2 E (f_X7_begin_b2 E m) from rfl]
      unfold g_X7_begin_b2
      rw [if_pos (show (5 : Int32) ≤ nI 5 by decide)]
  rw [e]
  unfold f_X7_begin_b30
  rw [lt_e, lt_e, lt_e, lt_e]
  refine ⟨_, rfl, ((((F0.mono rfl).sI rfl rfl).sI rfl rfl).sI rfl rfl).sI rfl rfl, fun s hs => ?_, ?_, ?_, ?_, ?_⟩
  · show gL (rowL S 66 0 0 (fun s => lN (r s)) 5) 66 0 s = _
    rw [gL_rowL, if_pos ⟨rfl, rfl, by omega, by omega⟩, Nat.sub_zero]
  all_goals simp [gI_sI]
  rfl
  rfl
  rfl
