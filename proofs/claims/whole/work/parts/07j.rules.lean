/-! PURE PART: rules: what a row of signs comes to -/
/-- the class' sign for the reference's pair -/
def enc (x : Nat × Nat) : Nat := if x.1 = 0 then 1000 + x.2 else if x.1 = 1 then 262 + x.2 else if x.1 = 2 then 259 else if x.1 = 3 then 260 else if x.1 = 4 then 261 else if x.1 = 5 then 60 else if x.1 = 6 then 61 else if x.1 = 7 then 43 else if x.1 = 8 then 45 else if x.1 = 9 then 42 else 1
def dnI (s : Nat) (a b : Int32) : Int32 := if s = 2 then (if a = 0 then (if b = 0 then 0 else 1) else 1) else if s = 3 then (if a = 0 then 0 else if b = 0 then 0 else 1) else if s = 5 then (if b ≤ a then 0 else 1) else if s = 6 then (if a = b then 1 else 0) else if s = 7 then a + b else if s = 8 then a - b else a * b
def up0 (g : Nat → Int32) (m : Nat) (x : Int32) : Nat → Int32 := fun j => if j = m then x else g j
/-- one sign over a stack of height m -/
def evS (fc : Nat → Int32) (x : Nat × Nat) (q : (Nat → Int32) × Nat) : (Nat → Int32) × Nat :=
  if x.1 = 0 then (up0 q.1 q.2 (nI x.2), q.2 + 1) else if x.1 = 1 then (up0 q.1 q.2 (fc x.2), q.2 + 1)
  else if x.1 = 4 then (up0 q.1 (q.2 - 1) (if q.1 (q.2 - 1) = 0 then 1 else 0), q.2)
  else if x.1 = 10 then (up0 q.1 (q.2 - 1) (- q.1 (q.2 - 1)), q.2)
  else (up0 q.1 (q.2 - 2) (dnI x.1 (q.1 (q.2 - 2)) (q.1 (q.2 - 1))), q.2 - 1)
def evF (fc : Nat → Int32) (f : Nat → Nat × Nat) : Nat → (Nat → Int32) × Nat
  | 0 => (fun _ => 0, 0)
  | i + 1 => evS fc (f i) (evF fc f i)
/-- every sign finds what it joins -/
def okS (x : Nat × Nat) (m : Nat) : Prop := x.1 ≤ 10 ∧ x.2 ≤ 9999 ∧ (x.1 = 1 → x.2 < 6) ∧ (x.1 = 4 ∨ x.1 = 10 → 1 ≤ m) ∧ (x.1 = 0 ∨ x.1 = 1 ∨ x.1 = 4 ∨ x.1 = 10 ∨ 2 ≤ m)
def hS (x : Nat × Nat) (m : Nat) : Nat := if x.1 = 0 ∨ x.1 = 1 then m + 1 else if x.1 = 4 ∨ x.1 = 10 then m else m - 1
def hF (f : Nat → Nat × Nat) : Nat → Nat
  | 0 => 0
  | i + 1 => hS (f i) (hF f i)
def okF (f : Nat → Nat × Nat) (n : Nat) : Prop := (∀ i, i < n → okS (f i) (hF f i)) ∧ 1 ≤ hF f n
theorem evS_h (fc : Nat → Int32) (x : Nat × Nat) (q : (Nat → Int32) × Nat) : (evS fc x q).2 = hS x q.2 := by
  unfold evS hS
  by_cases a : x.1 = 0
  · simp [a]
  · by_cases b : x.1 = 1
    · simp [b]
    · by_cases c : x.1 = 4
      · simp [c]
      · by_cases d : x.1 = 10
        · simp [d]
        · simp [a, b, c, d]
theorem evF_h (fc : Nat → Int32) (f : Nat → Nat × Nat) : ∀ i, (evF fc f i).2 = hF f i
  | 0 => rfl
  | i + 1 => by
    show (evS fc (f i) (evF fc f i)).2 = hS (f i) (hF f i)
    rw [evS_h, evF_h fc f i]
theorem hF_le (f : Nat → Nat × Nat) : ∀ i, hF f i ≤ i
  | 0 => Nat.le_refl _
  | i + 1 => by
    have := hF_le f i
    show hS (f i) (hF f i) ≤ _
    unfold hS
    by_cases a : (f i).1 = 0 ∨ (f i).1 = 1
    · rw [if_pos a]; omega
    · rw [if_neg a]
      by_cases b : (f i).1 = 4 ∨ (f i).1 = 10
      · rw [if_pos b]; omega
      · rw [if_neg b]; omega
/-- what a row of n signs comes to -/
def evN (fc : Nat → Int32) (f : Nat → Nat × Nat) (n : Nat) : Int32 := (evF fc f n).1 0
theorem evF_cong {fc fd : Nat → Int32} {f g : Nat → Nat × Nat} {n : Nat} (h1 : ∀ j, j < 6 → fc j = fd j) (h2 : ∀ i, i < n → f i = g i) (ok : ∀ i, i < n → (f i).1 = 1 → (f i).2 < 6) : ∀ i, i ≤ n → evF fc f i = evF fd g i
  | 0, _ => rfl
  | i + 1, hi => by
    show evS fc (f i) (evF fc f i) = evS fd (g i) (evF fd g i)
    rw [evF_cong h1 h2 ok i (by omega), ← h2 i (by omega)]
    unfold evS
    by_cases a : (f i).1 = 0
    · rw [if_pos a, if_pos a]
    · rw [if_neg a, if_neg a]
      by_cases b : (f i).1 = 1
      · rw [if_pos b, if_pos b, h1 _ (ok i (by omega) b)]
      · rw [if_neg b, if_neg b]
/-! ## the class' side -/
theorem enc_lo {x : Nat × Nat} (h : 2 ≤ x.1) : enc x < 262 ∧ (x.1 = 4 → enc x = 261) ∧ (x.1 = 10 → enc x = 1) ∧ (x.1 ≤ 10 → x.1 ≠ 4 → x.1 ≠ 10 → enc x ≠ 261 ∧ enc x ≠ 1) := by
  unfold enc
  rw [if_neg (by omega), if_neg (by omega)]
  refine ⟨?_, ?_, ?_, ?_⟩
  · (repeat' split) <;> omega
  · (repeat' split) <;> omega
  · (repeat' split) <;> omega
  · (repeat' split) <;> omega
theorem s_joined {E : EN} {S : ST} {x : Nat × Nat} (h1 : x.1 ≤ 10) (h0 : x.1 ≠ 0) (h2 : x.1 ≠ 1) (h3 : x.1 ≠ 4) (h4 : x.1 ≠ 10) (a b : Int32) : f_X0_joined E S (nI (enc x)) a b = some (dnI x.1 a b) := by
  obtain ⟨s, v⟩ := x
  dsimp only at h1 h0 h2 h3 h4
  have h : s = 2 ∨ s = 3 ∨ s = 5 ∨ s = 6 ∨ s = 7 ∨ s = 8 ∨ s = 9 := by omega
  rcases h with rfl | rfl | rfl | rfl | rfl | rfl | rfl
  · show f_X0_joined E S (259 : Int32) a b = _
    by_cases q : a = 0
    · by_cases r : b = 0
      · simp [f_X0_joined, dnI, q, r]
      · simp [f_X0_joined, dnI, q, r, f_X0_joined_b68]
    · simp [f_X0_joined, dnI, q, f_X0_joined_b68]
  · show f_X0_joined E S (260 : Int32) a b = _
    by_cases q : a = 0
    · simp [f_X0_joined, dnI, q]
    · by_cases r : b = 0
      · simp [f_X0_joined, dnI, q, r]
      · simp [f_X0_joined, dnI, q, r]
  · show f_X0_joined E S (60 : Int32) a b = _
    by_cases q : b ≤ a
    · simp [f_X0_joined, dnI, q]
    · simp [f_X0_joined, dnI, q]
  · show f_X0_joined E S (61 : Int32) a b = _
    by_cases q : a = b
    · simp [f_X0_joined, dnI, q]
    · simp [f_X0_joined, dnI, q]
  · rfl
  · rfl
  · rfl
theorem s_done {E : EN} {S : ST} {s : Nat} (h1 : s ≤ 10) (h0 : s ≠ 0) (h2 : s ≠ 1) (h3 : s ≠ 4) (h4 : s ≠ 10) (a b : Int32) : f_X7_done E S (nI s) a b = some (dnI s a b) := by
  have h : s = 2 ∨ s = 3 ∨ s = 5 ∨ s = 6 ∨ s = 7 ∨ s = 8 ∨ s = 9 := by omega
  rcases h with rfl | rfl | rfl | rfl | rfl | rfl | rfl
  · show f_X7_done E S (2 : Int32) a b = _
    by_cases q : a = 0
    · by_cases r : b = 0
      · simp [f_X7_done, dnI, q, r]
      · simp [f_X7_done, dnI, q, r, f_X7_done_b52]
    · simp [f_X7_done, dnI, q, f_X7_done_b52]
  · show f_X7_done E S (3 : Int32) a b = _
    by_cases q : a = 0
    · simp [f_X7_done, dnI, q]
    · by_cases r : b = 0
      · simp [f_X7_done, dnI, q, r]
      · simp [f_X7_done, dnI, q, r]
  · show f_X7_done E S (5 : Int32) a b = _
    by_cases q : b ≤ a
    · simp [f_X7_done, dnI, q]
    · simp [f_X7_done, dnI, q]
  · show f_X7_done E S (6 : Int32) a b = _
    by_cases q : a = b
    · simp [f_X7_done, dnI, q]
    · simp [f_X7_done, dnI, q]
  · rfl
  · rfl
  · rfl
/-- the stack's places below m hold g -/
def stk (S : ST) (K : Nat) (q : (Nat → Int32) × Nat) : Prop := ∀ j, j < q.2 → gI S K 0 j = q.1 j
theorem stk.up {S : ST} {K m : Nat} {g : Nat → Int32} {h : Nat} (a : ∀ j, j < m → j ≠ h → gI S K 0 j = g j) (x : Int32) : stk (sI S K 0 h x) K (up0 g h x, m) := fun j hj => by
  show gI _ K 0 j = up0 g h x j
  unfold up0
  rw [gI_sI]
  by_cases e : j = h
  · rw [if_pos ⟨rfl, rfl, e⟩, if_pos e]
  · rw [if_neg (fun q => e q.2.2), if_neg e]
    exact a j hj e
theorem q_m2 {n : Nat} : nI (n + 2) - (1 : Int32) = nI (n + 1) := nI_pred (n + 1)
theorem q_ad1 (n : Nat) : nI (n + 1) + (-1 : Int32) = nI n := by
  rw [← nI_pred n, Int32.sub_eq_add_neg]
