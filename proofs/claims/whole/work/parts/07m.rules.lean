/-! PURE PART: rules: the reference's evaluation, what is asked -/
theorem s_tells {E : EN} {S : ST} {t k n o : Nat} {f : Nat → Nat × Nat} (hN : 200 ≤ E.1) (ht : t < 6) (hk : k < 3) (hR : gI S 1 0 7 = nI t) (h : RK S t k n o f) {fc : Nat → Int32} (hf : ∀ j, j < 6 → gI S 62 0 j = fc j) :
    ∃ S2, f_X7_tellsRule E S (nI k) = some (evN fc f n, S2) ∧ Fm [(61, 0)] S S2 := by
  obtain ⟨hn, ⟨ok1, ok2⟩, m1, c1, c2, -, hs⟩ := h
  have e3 : ((3 : Int32) * nI t) + nI k = nI (3 * t + k) := by rw [show (3 : Int32) = nI 3 from rfl, pk_mul, nI_add]
  have lp : ∀ (q i : Nat) (m : Nat) (S1 : ST), i + q = n → q < m → Fm [(61, 0)] S S1 → stk S1 61 (evF fc f i) → ∃ S2, f_X7_tellsRule_b20 E m S1 (nI k) (nI (480 * t + 160 * k)) (nI (hF f i)) (nI (480 * t + 160 * k + i)) = some (evN fc f n, S2) ∧ Fm [(61, 0)] S S2 := by
    intro q
    induction q with
    | zero =>
      intro i m S1 hi hm F hst
      obtain ⟨m, rfl⟩ : ∃ m', m = m' + 1 := ⟨m - 1, by omega⟩
      refine ⟨S1, ?_, F⟩
      rw [show f_X7_tellsRule_b20 E (m + 1) = g_X7_tellsRule_b20 E (f_X7_tellsRule_b20 E m) from rfl]
      unfold g_X7_tellsRule_b20
      rw [F.I rfl, hR, e3, ck_in (ib_nI (by omega) (by decide)), q_cl (by omega), F.I rfl, m1, nI_add, if_pos (by rw [q_le (by omega) (by omega)]; omega)]
      unfold f_X7_tellsRule_b195
      have hi2 : i = n := by omega
      subst hi2
      rw [show gI S1 61 0 0 = evN fc f i from hst 0 (by rw [evF_h]; exact ok2)]
    | succ q ih =>
      intro i m S1 hi hm F hst
      obtain ⟨m, rfl⟩ : ∃ m', m = m' + 1 := ⟨m - 1, by omega⟩
      have hle := hF_le f i
      have hin : i < n := by omega
      have hst2 : stk S1 61 ((evF fc f i).1, hF f i) := by rw [← evF_h fc f i]; exact hst
      obtain ⟨S2, e2, F2, st2⟩ := s_tsign (E := E) (kh := f_X7_tellsRule_b20 E m) (x := f i) (h := hF f i) (by omega) (ok1 i hin) (fc := fc) (fun j hj => (F.I rfl).trans (hf j hj)) hst2 (v1 := nI k) (v2 := nI (480 * t + 160 * k)) (i := 480 * t + 160 * k + i) (by omega) ((F.I rfl).trans (hs i hin).2.2)
      have hev : evF fc f (i + 1) = evS fc (f i) ((evF fc f i).1, hF f i) := by
        rw [← evF_h fc f i]
        rfl
      obtain ⟨S3, e4, F3⟩ := ih (i + 1) m S2 (by omega) (by omega) (F.trans F2) (hev ▸ st2)
      refine ⟨S3, ?_, F3⟩
      rw [← e4, show f_X7_tellsRule_b20 E (m + 1) = g_X7_tellsRule_b20 E (f_X7_tellsRule_b20 E m) from rfl]
      unfold g_X7_tellsRule_b20
      rw [F.I rfl, hR, e3, ck_in (ib_nI (by omega) (by decide)), q_cl (by omega), F.I rfl, m1, nI_add, if_neg (by rw [q_le (by omega) (by omega)]; omega), ck_in (ib_nI (by omega) (by decide)), q_cl (by omega), F.I rfl, (hs i hin).2.1, lt_e]
      rw [show f_X7_tellsRule_b20 E m S2 (nI k) (nI (480 * t + 160 * k)) (nI (hF f (i + 1))) (nI (480 * t + 160 * k + (i + 1))) = f_X7_tellsRule_b189 E (f_X7_tellsRule_b20 E m) S2 (nI k) (nI (480 * t + 160 * k)) (nI (hS (f i) (hF f i))) (nI (480 * t + 160 * k + i)) from by
        unfold f_X7_tellsRule_b189
        rw [lt_e, nI_1]
        rfl, ← e2]
      rfl
  unfold f_X7_tellsRule
  rw [hR, show (480 : Int32) = nI 480 from rfl, show (160 : Int32) = nI 160 from rfl, pk_mul, pk_mul, nI_add, lt_e]
  exact lp n 0 E.1 S (by omega) (by omega) Fm.rf (fun j hj => absurd hj (Nat.not_lt_zero j))
/-- held between 0 and most -/
def clN (most : Nat) (x : Int32) : Nat := if x.toNatClampNeg ≤ most then x.toNatClampNeg else most
theorem clN_le (most : Nat) (x : Int32) : clN most x ≤ most := by
  unfold clN
  split <;> omega
theorem q_cl0 {x : Int32} (h : x < 0) : x.toNatClampNeg = 0 := by
  have e0 : (0 : Int32).toInt = 0 := by decide
  rw [Int32.lt_iff_toInt_lt, e0] at h
  show x.toInt.toNat = 0
  omega
theorem clN_C {most : Nat} (hm : most < 128) (x : Int32) : (mxI (0 : Int32) (mnI (nI most) x)).toInt8.toInt32 = nI (clN most x) ∧ (mxI (0 : Int32) (mnI (nI most) x)) = nI (clN most x) := by
  have h1 : mxI (0 : Int32) (mnI (nI most) x) = nI (clN most x) := by
    unfold mxI mnI clN
    rcases q_or x with h | ⟨n, hn, rfl⟩
    · have h2 : x < nI most := Int32.lt_of_lt_of_le h (nI_pos' (by omega))
      rw [if_pos h2, if_neg (fun q => absurd (Int32.lt_trans h q) (by simp)), q_cl0 h, if_pos (Nat.zero_le _)]
      rfl
    · rw [q_cl hn]
      by_cases z : n < most
      · rw [if_pos ((q_lt hn (by omega)).mpr z), if_pos (Nat.le_of_lt z)]
        by_cases y : (0 : Int32) < nI n
        · rw [if_pos y]
        · rw [if_neg y]
          rw [q_ltL 0 (by decide) hn] at y
          have : n = 0 := by omega
          subst this
          rfl
      · rw [if_neg (fun q => z ((q_lt hn (by omega)).mp q))]
        have e : (if n ≤ most then n else most) = most := by split <;> omega
        rw [e]
        by_cases y : (0 : Int32) < nI most
        · rw [if_pos y]
        · rw [if_neg y]
          rw [q_ltL 0 (by decide) (by omega)] at y
          have : most = 0 := by omega
          subst this
          rfl
  refine ⟨?_, h1⟩
  rw [h1]
  have := clN_le most x
  generalize clN most x = c at this
  have all : ∀ c, c < 128 → (nI c).toInt8.toInt32 = nI c := by decide
  exact all c (by omega)
theorem clN_M {most : Nat} (hm : most < 128) (x : Int32) (S : ST) : (if (0 : Int32) ≤ x then (if x ≤ nI most then some (x, S) else some (nI most, S)) else some ((0 : Int32), S)) = some (nI (clN most x), S) := by
  unfold clN
  rcases q_or x with h | ⟨n, hn, rfl⟩
  · rw [if_neg (Int32.not_le.mpr h), q_cl0 h, if_pos (Nat.zero_le _)]
    rfl
  · rw [if_pos (nI_pos' hn), q_cl hn]
    by_cases z : n ≤ most
    · rw [if_pos ((q_le hn (by omega)).mpr z), if_pos z]
    · rw [if_neg (fun q => z ((q_le hn (by omega)).mp q)), if_neg z]
/-- what a rule is told -/
def fcI (st g w so m : Nat) : Nat → Int32
  | 0 => nI st
  | 1 => nI g
  | 2 => nI w
  | 3 => nI so
  | 4 => nI m
  | _ => nI (4 - w)
def mst (key : Nat) : Nat := if key = 2 then 99 else 10
theorem mst_lt (key : Nat) : mst key < 128 := by unfold mst; split <;> decide
/-- what a row of signs says of a key -/
def rv (f : Nat → Nat × Nat) (n key st g w so m : Nat) : Nat := if key = 0 ∧ st = 4 then 0 else clN (mst key) (evN (fcI st g w so m) f n)
theorem rv_le (f : Nat → Nat × Nat) (n key st g w so m : Nat) : rv f n key st g w so m ≤ mst key := by
  unfold rv
  split
  · exact Nat.zero_le _
  · exact clN_le _ _
def fN (S : ST) (t k : Nat) : Nat → Nat × Nat := fun i => ((gI S 57 0 (480 * t + 160 * k + i)).toNatClampNeg, (gI S 58 0 (480 * t + 160 * k + i)).toNatClampNeg)
def nN (S : ST) (t k : Nat) : Nat := (gI S 59 0 (3 * t + k)).toNatClampNeg
theorem hF_cong {f g : Nat → Nat × Nat} {n : Nat} (h : ∀ i, i < n → f i = g i) : ∀ i, i ≤ n → hF f i = hF g i
  | 0, _ => rfl
  | i + 1, hi => by
    show hS (f i) (hF f i) = hS (g i) (hF g i)
    rw [h i (by omega), hF_cong h i (by omega)]
theorem okF_cong {f g : Nat → Nat × Nat} {n : Nat} (h : ∀ i, i < n → f i = g i) (ok : okF f n) : okF g n := by
  obtain ⟨h1, h2⟩ := ok
  refine ⟨fun i hi => ?_, ?_⟩
  · rw [← h i hi, ← hF_cong h i (by omega)]
    exact h1 i hi
  · rw [← hF_cong h n (Nat.le_refl _)]
    exact h2
theorem RK.can {S : ST} {t k n o : Nat} {f : Nat → Nat × Nat} (h : RK S t k n o f) : RK S t k (nN S t k) o (fN S t k) := by
  obtain ⟨hn, ok, m1, c1, c2, c3, hs⟩ := h
  have en : nN S t k = n := by
    unfold nN
    rw [m1, q_cl (by omega)]
  have hf : ∀ i, i < n → f i = fN S t k i := fun i hi => by
    obtain ⟨k1, k2, k3, -, -⟩ := ok.1 i hi
    show f i = ((gI S 57 0 (480 * t + 160 * k + i)).toNatClampNeg, (gI S 58 0 (480 * t + 160 * k + i)).toNatClampNeg)
    rw [(hs i hi).2.1, (hs i hi).2.2, q_cl (by omega), q_cl (by omega)]
  rw [en]
  exact ⟨hn, okF_cong hf ok, m1, c1, c2, c3, fun i hi => by rw [← hf i hi]; exact hs i hi⟩
