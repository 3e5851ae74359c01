/-! PURE PART: weights taken by what divides them all -/
def dch (r : Nat → Nat) : Nat → Nat
  | 0 => 0
  | s + 1 => gcd' (dch r s) (r s)
theorem gcd_b {a b : Nat} (h : 0 < b) : gcd' a b ≤ b := by
  show (if b = 0 then a else eu 99 b (a % b)) ≤ b
  rw [if_neg (by omega)]
  have := eu_le 99 b (a % b)
  have hm := Nat.mod_lt a h
  omega
theorem gcd_a (a : Nat) : gcd' a 0 = a := by
  show (if (0 : Nat) = 0 then a else eu 99 0 (a % 0)) = a
  rw [if_pos rfl]
theorem dch_le {r : Nat → Nat} {B : Nat} (h : ∀ s, s < 5 → r s ≤ B) : ∀ s, s ≤ 5 → dch r s ≤ B
  | 0, _ => Nat.zero_le _
  | s + 1, hs => by
    have h1 := dch_le h s (by omega)
    have h2 := h s (by omega)
    have := eu_le 100 (dch r s) (r s)
    show eu 100 (dch r s) (r s) ≤ B
    omega
/-- the divisor is 0 where all are, else it is at most one that is not -/
theorem dch_pos {r : Nat → Nat} {B : Nat} (hB : B ≤ 10000000000000000) (h : ∀ s, s < 5 → r s ≤ B) : ∀ s, s ≤ 5 → (dch r s = 0 ∧ ∀ i, i < s → r i = 0) ∨ (0 < dch r s ∧ ∃ i, i < s ∧ 0 < r i ∧ dch r s ≤ r i)
  | 0, _ => Or.inl ⟨rfl, fun i hi => absurd hi (by omega)⟩
  | s + 1, hs => by
    have hz := zr_100 (dch r s) (r s) (Nat.le_trans (h s (by omega)) hB)
    by_cases z : r s = 0
    · have e : dch r (s + 1) = dch r s := by
        show gcd' (dch r s) (r s) = dch r s
        rw [z, gcd_a]
      rcases dch_pos hB h s (by omega) with ⟨q1, q2⟩ | ⟨q1, i, q2, q3, q4⟩
      · refine Or.inl ⟨e.trans q1, fun i hi => ?_⟩
        by_cases y : i = s
        · rw [y]; exact z
        · exact q2 i (by omega)
      · exact Or.inr ⟨by rw [e]; exact q1, i, by omega, q3, by rw [e]; exact q4⟩
    · exact Or.inr ⟨eu_pos 100 (dch r s) (r s) (Or.inr (by omega)) hz, s, by omega, by omega, gcd_b (by omega)⟩
/-- what is taken -/
def tkW (r : Nat → Nat) : Nat → Nat := fun s => r s / dch r 5
def tkI (r : Nat → Nat) : Prop := ¬ smf r 0 = 0 ∧ smf r 0 / dch r 5 ≤ 9999
theorem tk_sum {r : Nat → Nat} {B : Nat} (hB : B ≤ 10000000000000000) (h : ∀ s, s < 5 → r s ≤ B) (t : tkI r) : 1 ≤ wsum (tkW r) ∧ wsum (tkW r) ≤ 9999 ∧ 0 < dch r 5 := by
  obtain ⟨t1, t2⟩ := t
  rcases dch_pos hB h 5 (Nat.le_refl _) with ⟨-, q2⟩ | ⟨q1, i, q2, q3, q4⟩
  · exfalso
    rw [smf_0, q2 0 (by decide), q2 1 (by decide), q2 2 (by decide), q2 3 (by decide), q2 4 (by decide)] at t1
    exact t1 rfl
  · refine ⟨?_, ?_, q1⟩
    · have : 1 ≤ tkW r i := (Nat.le_div_iff_mul_le q1).mpr (by omega)
      unfold wsum
      have hi : i = 0 ∨ i = 1 ∨ i = 2 ∨ i = 3 ∨ i = 4 := by omega
      rcases hi with rfl | rfl | rfl | rfl | rfl <;> omega
    · refine Nat.le_trans ?_ t2
      unfold wsum tkW
      rw [Nat.le_div_iff_mul_le q1, Nat.add_mul, Nat.add_mul, Nat.add_mul, Nat.add_mul, smf_0]
      have e := fun s => Nat.div_mul_le_self (r s) (dch r 5)
      have e0 := e 0
      have e1 := e 1
      have e2 := e 2
      have e3 := e 3
      have e4 := e 4
      omega
