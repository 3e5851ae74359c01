/-! PURE PART: greatest divisors, lowest terms -/
theorem w_cl {n : Nat} (h : n < 9223372036854775808) : ¬ lN n < (0 : Int64) := by
  rw [show (0 : Int64) = lN 0 from rfl, w_lt h (by omega)]
  omega
theorem w_div {a b : Nat} (ha : a < 9223372036854775808) (hb : b < 9223372036854775808) : lN a / lN b = lN (a / b) := by
  apply Int64.toInt_inj.mp
  have hd : a / b ≤ a := Nat.div_le_self _ _
  rw [Int64.toInt_div, w_toInt ha, w_toInt hb, w_toInt (by omega)]
  rw [show ((a : Int).tdiv (b : Int)) = ((a / b : Nat) : Int) from rfl]
  generalize a / b = q at hd
  rw [Int.bmod_eq_of_le (by omega) (by omega)]
theorem w_rem {a b : Nat} (ha : a < 9223372036854775808) (hb : b < 9223372036854775808) : rmL (lN a) (lN b) = lN (a % b) := by
  unfold rmL
  rw [w_div ha hb, lN_mul, lN_sub (Nat.div_mul_le_self a b)]
  congr 1
  have := Nat.div_add_mod a b
  rw [Nat.mul_comm] at this
  omega
theorem w_e0 {n : Nat} (h : n < 9223372036854775808) : lN n = (0 : Int64) ↔ n = 0 := by
  rw [show (0 : Int64) = lN 0 from rfl, w_eq h (by omega)]
/-- Fibonacci's row -/
def fib : Nat → Nat
  | 0 => 0
  | 1 => 1
  | n + 2 => fib n + fib (n + 1)
/-- k turns of Euclid's way at most, from (a, b) -/
def eu : Nat → Nat → Nat → Nat
  | 0, a, _ => a
  | k + 1, a, b => if b = 0 then a else eu k b (a % b)
theorem fib_mono (n : Nat) : fib n ≤ fib (n + 1) := by
  induction n with
  | zero => decide
  | succ n ih =>
    show fib (n + 1) ≤ fib n + fib (n + 1)
    omega
/-- Euclid's way comes to its end within k turns -/
def zr : Nat → Nat → Nat → Prop
  | 0, _, b => b = 0
  | k + 1, a, b => b = 0 ∨ zr k b (a % b)
/-- within k turns, where b is below fib (k + 1) -/
theorem eu_two (k : Nat) : (∀ a b : Nat, b < fib (k + 1) → b ≤ a → zr k a b) ∧ (∀ a b : Nat, b < fib (k + 2) → b ≤ a → zr (k + 1) a b) := by
  induction k with
  | zero =>
    have f1 : fib (0 + 1) = 1 := rfl
    have f2 : fib (0 + 2) = 1 := rfl
    exact ⟨fun a b hb hle => by show b = 0; omega, fun a b hb hle => Or.inl (by omega)⟩
  | succ k ih =>
    obtain ⟨i1, i2⟩ := ih
    refine ⟨i2, fun a b hb hle => ?_⟩
    have f3 : fib (k + 1 + 2) = fib (k + 1) + fib (k + 2) := rfl
    rw [f3] at hb
    by_cases z : b = 0
    · exact Or.inl z
    · refine Or.inr ?_
      have hm := Nat.mod_lt a (show b > 0 by omega)
      by_cases y : a % b < fib (k + 2)
      · exact i2 b (a % b) y (by omega)
      · generalize a % b = r at hm y
        by_cases x : r = 0
        · exact Or.inl x
        · have hm2 := Nat.mod_lt b (show r > 0 by omega)
          refine Or.inr (i1 r (b % r) ?_ (by omega))
          have e : b % r = (b - r) % r := Nat.mod_eq_sub_mod (by omega)
          have hle2 : (b - r) % r ≤ b - r := Nat.mod_le _ _
          omega
theorem zr_s (k : Nat) : ∀ a b : Nat, zr k a b → zr (k + 1) a b := by
  induction k with
  | zero => exact fun a b h => Or.inl h
  | succ k ih =>
    intro a b h
    rcases h with h | h
    · exact Or.inl h
    · exact Or.inr (ih _ _ h)
theorem fib_5 (m : Nat) : 5 ^ m ≤ fib (4 * m + 1) := by
  induction m with
  | zero => decide
  | succ m ih =>
    have h1 : fib (4 * m + 5) = fib (4 * m + 3) + fib (4 * m + 4) := rfl
    have h2 : fib (4 * m + 4) = fib (4 * m + 2) + fib (4 * m + 3) := rfl
    have h3 : fib (4 * m + 3) = fib (4 * m + 1) + fib (4 * m + 2) := rfl
    have h4 : fib (4 * m + 1) ≤ fib (4 * m + 2) := fib_mono (4 * m + 1)
    rw [show 4 * (m + 1) + 1 = 4 * m + 5 by omega, Nat.pow_succ]
    omega
theorem fib_97 : 10000000000000000 < fib 97 := Nat.lt_of_lt_of_le (by decide) (fib_5 24)
/-- a hundred turns are enough -/
theorem zr_100 (a b : Nat) (hb : b ≤ 10000000000000000) : zr 100 a b := by
  have big : b < fib 97 := Nat.lt_of_le_of_lt hb fib_97
  have P : ∀ a b : Nat, b < fib 97 → b ≤ a → zr 99 a b := fun a b h1 h2 => zr_s 98 _ _ (zr_s 97 _ _ (zr_s 96 _ _ ((eu_two 96).1 a b h1 h2)))
  by_cases h : b ≤ a
  · exact zr_s 99 _ _ (P a b big h)
  · refine Or.inr ?_
    rw [Nat.mod_eq_of_lt (by omega)]
    exact P b a (by omega) (by omega)
def gcd' (a b : Nat) : Nat := eu 100 a b
/-- the class' way -/
theorem s_common {E : EN} {S : ST} {a b : Nat} (hN : 300 ≤ E.1) (ha : a < 9223372036854775808) (hb : b < 9223372036854775808) : f_X6_common E S (lN a) (lN b) = some (lN (gcd' a b)) := by
  have lp : ∀ (q v m a b : Nat), v + q = 100 → q < m → a < 9223372036854775808 → b < 9223372036854775808 → f_X6_common_b9 E m S (lN a) (lN b) (nI v) = some (lN (eu q a b)) := by
    intro q
    induction q with
    | zero =>
      intro v m a b hv hm ha hb
      obtain ⟨m, rfl⟩ : ∃ m', m = m' + 1 := ⟨m - 1, by omega⟩
      rw [show f_X6_common_b9 E (m + 1) = g_X6_common_b9 E (f_X6_common_b9 E m) from rfl]
      unfold g_X6_common_b9
      rw [if_pos (by rw [q_leL 100 (by decide) (by omega)]; omega)]
      rfl
    | succ q ih =>
      intro v m a b hv hm ha hb
      obtain ⟨m, rfl⟩ : ∃ m', m = m' + 1 := ⟨m - 1, by omega⟩
      rw [show f_X6_common_b9 E (m + 1) = g_X6_common_b9 E (f_X6_common_b9 E m) from rfl]
      unfold g_X6_common_b9
      rw [if_neg (by rw [q_leL 100 (by decide) (by omega)]; omega)]
      show _ = some (lN (if b = 0 then a else eu q b (a % b)))
      by_cases z : b = 0
      · rw [if_pos ((w_e0 hb).mpr z), if_pos z]
      · have hm2 := Nat.mod_lt a (show b > 0 by omega)
        rw [if_neg (fun y => z ((w_e0 hb).mp y)), if_neg z, ck_in (by rw [decide_eq_false (fun y => z ((w_e0 hb).mp y))]; rfl), w_rem ha hb, lt_e, lt_e, nI_1]
        exact ih (v + 1) m b (a % b) (by omega) (by omega) hb (by omega)
  unfold f_X6_common
  exact lp 100 0 E.1 a b rfl (by omega) ha hb
/-- the reference's way -/
theorem s_divisor {E : EN} {S : ST} {a b : Nat} (hN : 300 ≤ E.1) (ha : a < 9223372036854775808) (hb : b ≤ 10000000000000000) : f_X7_divisor_b17 E E.1 S (lN a) (lN b) = some (lN (gcd' a b)) := by
  have lp : ∀ (q a b m : Nat), a < 9223372036854775808 → b < 9223372036854775808 → zr q a b → q < m → f_X7_divisor_b17 E m S (lN a) (lN b) = some (lN (eu q a b)) := by
    intro q
    induction q with
    | zero =>
      intro a b m ha hb hs hm
      obtain ⟨m, rfl⟩ : ∃ m', m = m' + 1 := ⟨m - 1, by omega⟩
      rw [show f_X7_divisor_b17 E (m + 1) = g_X7_divisor_b17 E (f_X7_divisor_b17 E m) from rfl]
      unfold g_X7_divisor_b17
      rw [if_pos ((w_e0 hb).mpr hs)]
      rfl
    | succ q ih =>
      intro a b m ha hb hs hm
      obtain ⟨m, rfl⟩ : ∃ m', m = m' + 1 := ⟨m - 1, by omega⟩
      rw [show f_X7_divisor_b17 E (m + 1) = g_X7_divisor_b17 E (f_X7_divisor_b17 E m) from rfl]
      unfold g_X7_divisor_b17
      show _ = some (lN (if b = 0 then a else eu q b (a % b)))
      by_cases z : b = 0
      · rw [if_pos ((w_e0 hb).mpr z), if_pos z]
      · have hm2 := Nat.mod_lt a (show b > 0 by omega)
        rw [if_neg (fun y => z ((w_e0 hb).mp y)), if_neg z, ck_in (by rw [decide_eq_false (fun y => z ((w_e0 hb).mp y))]; rfl), w_rem ha hb, lt_e]
        exact ih b (a % b) m hb (by omega) (hs.resolve_left z) (by omega)
  exact lp 100 a b E.1 ha (by omega) (zr_100 a b hb) (by omega)
theorem eu_pos (q : Nat) : ∀ a b : Nat, 0 < a ∨ 0 < b → zr q a b → 0 < eu q a b := by
  induction q with
  | zero =>
    intro a b h hz
    have : b = 0 := hz
    show 0 < a
    omega
  | succ q ih =>
    intro a b h hz
    show 0 < (if b = 0 then a else eu q b (a % b))
    by_cases z : b = 0
    · rw [if_pos z]
      omega
    · rw [if_neg z]
      exact ih b (a % b) (Or.inl (by omega)) (hz.resolve_left z)
theorem eu_le (q : Nat) : ∀ a b : Nat, eu q a b ≤ max a b := by
  induction q with
  | zero => exact fun a b => Nat.le_max_left _ _
  | succ q ih =>
    intro a b
    show (if b = 0 then a else eu q b (a % b)) ≤ _
    by_cases z : b = 0
    · rw [if_pos z]
      exact Nat.le_max_left _ _
    · rw [if_neg z]
      have := ih b (a % b)
      have hm := Nat.mod_lt a (show b > 0 by omega)
      omega
/-- lowest terms of a by b, and what is told of them -/
def lowL (a b : Nat) (part : Int32) : Int64 := if a = 0 ∨ b = 0 then (if part = 0 then 0 else 1) else (if part = 0 then lN (a / gcd' a b) else lN (b / gcd' a b))
theorem gcd_0 {b : Nat} (h : 0 < b) : gcd' 0 b = b := by
  show (if b = 0 then 0 else eu 99 b (0 % b)) = b
  rw [if_neg (by omega), Nat.zero_mod]
  rfl
theorem s_lowestC {E : EN} {S : ST} {a b : Nat} (hN : 300 ≤ E.1) (ha : a ≤ 10000000000000000) (hb : b ≤ 10000000000000000) (part : Int32) : f_X6_lowest E S (lN a) (lN b) part = some (lowL a b part) := by
  unfold f_X6_lowest f_X6_lowest_b12 lowL
  by_cases za : a = 0
  · rw [if_pos ((w_e0 (by omega)).mpr za), if_pos (Or.inl za)]
    by_cases p : part = 0
    · rw [if_pos p, if_pos p]
    · rw [if_neg p, if_neg p]
  · rw [if_neg (fun y => za ((w_e0 (by omega)).mp y))]
    by_cases zb : b = 0
    · rw [if_pos ((w_e0 (by omega)).mpr zb), if_pos (Or.inr zb)]
      by_cases p : part = 0
      · rw [if_pos p, if_pos p]
      · rw [if_neg p, if_neg p]
    · have ab : abL (lN a) = lN a := by
        unfold abL
        rw [if_pos (by rw [show (0 : Int64) = lN 0 from rfl, w_lt (by omega) (by omega)]; omega)]
      have gp := eu_pos 100 a b (Or.inl (by omega)) (zr_100 a b hb)
      have gl := eu_le 100 a b
      have hg : gcd' a b < 9223372036854775808 := by
        show eu 100 a b < _
        omega
      have hg0 : ¬ lN (gcd' a b) = (0 : Int64) := by
        rw [w_e0 hg]
        show ¬ eu 100 a b = 0
        omega
      rw [if_neg (fun y => zb ((w_e0 (by omega)).mp y)), ab, bd_some (s_common hN (by omega) (by omega)), if_neg hg0, if_neg (show ¬ (a = 0 ∨ b = 0) from fun y => y.elim za zb)]
      have hck : (!decide (lN (gcd' a b) = 0)) = true := by rw [decide_eq_false hg0]; rfl
      unfold f_X6_lowest_b54
      rw [ck_in hck, ck_in hck, w_div (by omega) hg, w_div (by omega) hg]
      by_cases p : part = 0
      · rw [if_pos p, if_pos p]
      · rw [if_neg p, if_neg p]
theorem s_lowestM {E : EN} {S : ST} {a b : Nat} (hN : 300 ≤ E.1) (ha : a ≤ 10000000000000000) (hb : b ≤ 10000000000000000) (part : Int32) : f_X7_lowest E S (lN a) (lN b) part = some (lowL a b part) := by
  have core : ∀ a b : Nat, a ≤ 10000000000000000 → b ≤ 10000000000000000 → 0 < b → f_X7_lowest_b24 E S part (lN a) (lN b) = some (if part = 0 then lN (a / gcd' a b) else lN (b / gcd' a b)) := fun a b ha hb h0 => by
    have gp := eu_pos 100 a b (Or.inr h0) (zr_100 a b hb)
    have gl := eu_le 100 a b
    have hg : gcd' a b < 9223372036854775808 := by
      show eu 100 a b < _
      omega
    have hg0 : ¬ lN (gcd' a b) = (0 : Int64) := by
      rw [w_e0 hg]
      show ¬ eu 100 a b = 0
      omega
    have ed : f_X7_divisor E S (lN a) (lN b) = some (lN (gcd' a b)) := by
      unfold f_X7_divisor f_X7_divisor_b12
      rw [if_pos (by rw [show (0 : Int64) = lN 0 from rfl, w_le (by omega) (by omega)]; omega)]
      exact s_divisor hN (by omega) hb
    unfold f_X7_lowest_b24
    rw [bd_some ed, ck_in (by rw [decide_eq_false hg0]; rfl), ck_in (by rw [decide_eq_false hg0]; rfl), w_div (by omega) hg, w_div (by omega) hg]
    by_cases p : part = 0
    · rw [if_pos p, if_pos p]
    · rw [if_neg p, if_neg p]
  unfold f_X7_lowest f_X7_lowest_b11 lowL
  by_cases zb : b = 0
  · rw [if_pos ((w_e0 (by omega)).mpr zb), if_pos ((w_e0 (by omega)).mpr zb), if_pos (Or.inr zb), show (0 : Int64) = lN 0 from rfl, show (1 : Int64) = lN 1 from rfl, core 0 1 (by omega) (by omega) (by omega), gcd_0 (by omega)]
  · rw [if_neg (fun y => zb ((w_e0 (by omega)).mp y)), if_neg (fun y => zb ((w_e0 (by omega)).mp y)), core a b ha hb (by omega)]
    by_cases za : a = 0
    · subst za
      rw [if_pos (Or.inl rfl), gcd_0 (by omega), Nat.zero_div, Nat.div_self (by omega)]
      rfl
    · rw [if_neg (show ¬ (a = 0 ∨ b = 0) from fun y => y.elim za zb)]
