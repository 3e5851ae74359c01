/-! PURE PART: tokens; the class' reading of one -/
def isL (c : Nat) : Bool := decide (97 ≤ c ∧ c ≤ 122)
def isD (c : Nat) : Bool := decide (48 ≤ c ∧ c ≤ 57)
def isZ (c : Nat) : Bool := decide (c = 32 ∨ c = 10)
def isG (c : Nat) : Bool := decide (c = 40 ∨ c = 41 ∨ c = 59 ∨ c = 43 ∨ c = 45 ∨ c = 42 ∨ c = 60 ∨ c = 61)
def rnn (P : Nat → Bool) (B : Nat → Nat) (n : Nat) : Nat → Nat → Nat
  | 0, p => p
  | u + 1, p => if p < n ∧ P (B p) = true then rnn P B n u (p + 1) else p
/-- behind all that are so, from p on -/
def run (P : Nat → Bool) (B : Nat → Nat) (n p : Nat) : Nat := rnn P B n (n - p) p
theorem run_s {P : Nat → Bool} {B : Nat → Nat} {n p : Nat} (h1 : p < n) (h2 : P (B p) = true) : run P B n p = run P B n (p + 1) := by
  unfold run
  rw [show n - p = (n - (p + 1)) + 1 by omega]
  show (if p < n ∧ P (B p) = true then _ else _) = _
  rw [if_pos ⟨h1, h2⟩]
theorem run_e {P : Nat → Bool} {B : Nat → Nat} {n p : Nat} (h : ¬ (p < n ∧ P (B p) = true)) : run P B n p = p := by
  unfold run
  rcases n - p with _ | u
  · rfl
  · show (if p < n ∧ P (B p) = true then _ else _) = _
    rw [if_neg h]
theorem run_ok {P : Nat → Bool} {B : Nat → Nat} {n : Nat} : ∀ (u p : Nat), p + u = n → p ≤ run P B n p ∧ run P B n p ≤ n ∧ (∀ j, p ≤ j → j < run P B n p → P (B j) = true) ∧ ¬ (run P B n p < n ∧ P (B (run P B n p)) = true)
  | 0, p, h => by
    rw [run_e (show ¬ (p < n ∧ P (B p) = true) from fun q => absurd q.1 (by omega))]
    exact ⟨Nat.le_refl _, by omega, fun j h1 h2 => absurd h2 (by omega), fun q => absurd q.1 (by omega)⟩
  | u + 1, p, h => by
    by_cases z : p < n ∧ P (B p) = true
    · rw [run_s z.1 z.2]
      obtain ⟨i1, i2, i3, i4⟩ := run_ok (P := P) (B := B) (n := n) u (p + 1) (by omega)
      refine ⟨by omega, i2, fun j h1 h2 => ?_, i4⟩
      by_cases y : j = p
      · rw [y]; exact z.2
      · exact i3 j (by omega) h2
    · rw [run_e z]
      exact ⟨Nat.le_refl _, by omega, fun j h1 h2 => absurd h2 (by omega), z⟩
/-- the bytes from p on, so many -/
def seg (B : Nat → Nat) : Nat → Nat → List Nat
  | _, 0 => []
  | p, l + 1 => B p :: seg B (p + 1) l
def wordsN : List (List Nat) := [[108, 101, 97, 114, 110], [114, 105, 103, 104, 116], [101, 110, 100], [111, 114], [97, 110, 100], [110, 111, 116], [115, 116, 101, 112], [99, 108, 97, 115, 115], [119, 101, 101, 107], [115, 111, 114, 116], [109, 111, 118, 101, 100], [108, 101, 102, 116]]
def kwF : List (List Nat) → List Nat → Nat → Nat
  | [], _, _ => 2
  | w :: r, l, i => if l = w then i else kwF r l (i + 1)
def kw (l : List Nat) : Nat := kwF wordsN l 256
/-- a number's worth by its first four digits -/
def nvl : Nat → Nat → List Nat → Nat
  | _, v, [] => v
  | d, v, c :: r => nvl (d + 1) (if 4 ≤ d then v else v * 10 + c - 48) r
/-- a token: its place, what it is, what stands behind it -/
def lx (B : Nat → Nat) (n p : Nat) : Nat × Nat × Nat :=
  if n ≤ run isZ B n p then (run isZ B n p, 0, run isZ B n p)
  else if isL (B (run isZ B n p)) = true then (run isZ B n p, kw (seg B (run isZ B n p) (run isL B n (run isZ B n p) - run isZ B n p)), run isL B n (run isZ B n p))
  else if isD (B (run isZ B n p)) = true then (run isZ B n p, if run isD B n (run isZ B n p) - run isZ B n p ≤ 4 then 1000 + nvl 0 0 (seg B (run isZ B n p) (run isD B n (run isZ B n p) - run isZ B n p)) else 2, run isD B n (run isZ B n p))
  else (run isZ B n p, if isG (B (run isZ B n p)) = true then B (run isZ B n p) else 2, run isZ B n p + 1)
def sgn (b : Nat) : Int32 := (nI b).toInt8.toInt32
def tC (t : Nat) : Int32 := if t = 2 then -1 else nI t
theorem kwF_b (l : List Nat) : ∀ (ws : List (List Nat)) (i : Nat), kwF ws l i = 2 ∨ (i ≤ kwF ws l i ∧ kwF ws l i < i + ws.length)
  | [], i => Or.inl rfl
  | w :: r, i => by
    show (if l = w then i else kwF r l (i + 1)) = 2 ∨ (i ≤ (if l = w then i else kwF r l (i + 1)) ∧ (if l = w then i else kwF r l (i + 1)) < i + (r.length + 1))
    by_cases z : l = w
    · rw [if_pos z]
      exact Or.inr ⟨Nat.le_refl _, by omega⟩
    · rw [if_neg z]
      rcases kwF_b l r (i + 1) with h | h
      · exact Or.inl h
      · exact Or.inr ⟨by omega, by omega⟩
theorem kw_b (l : List Nat) : kw l = 2 ∨ (256 ≤ kw l ∧ kw l < 268) := kwF_b l wordsN 256
theorem nvl_lt : ∀ (l : List Nat) (d v : Nat), (∀ c, c ∈ l → c ≤ 57) → v < 10 ^ (min d 4) → nvl d v l < 10000
  | [], d, v, _, hv => by
    show v < 10000
    refine Nat.lt_of_lt_of_le hv ?_
    exact Nat.le_trans (Nat.pow_le_pow_right (by decide) (Nat.min_le_right d 4)) (by decide)
  | c :: r, d, v, hc, hv => by
    show nvl (d + 1) (if 4 ≤ d then v else v * 10 + c - 48) r < 10000
    refine nvl_lt r (d + 1) _ (fun x hx => hc x (List.mem_cons_of_mem _ hx)) ?_
    have h57 := hc c List.mem_cons_self
    by_cases z : 4 ≤ d
    · rw [if_pos z]
      rw [Nat.min_eq_right z] at hv
      rw [Nat.min_eq_right (by omega)]
      exact hv
    · rw [if_neg z]
      rw [Nat.min_eq_left (by omega)] at hv
      rw [Nat.min_eq_left (by omega), Nat.pow_succ]
      omega
theorem seg_mem {B : Nat → Nat} : ∀ (l p : Nat) (P : Nat → Prop), (∀ j, p ≤ j → j < p + l → P (B j)) → ∀ c, c ∈ seg B p l → P c
  | 0, p, P, _, c, hc => by cases hc
  | l + 1, p, P, h, c, hc => by
    rcases List.mem_cons.mp hc with e | e
    · rw [e]; exact h p (Nat.le_refl _) (by omega)
    · exact seg_mem l (p + 1) P (fun j h1 h2 => h j (by omega) (by omega)) c e
theorem isD_57 {c : Nat} (h : isD c = true) : 48 ≤ c ∧ c ≤ 57 := of_decide_eq_true h
theorem isL_122 {c : Nat} (h : isL c = true) : 97 ≤ c ∧ c ≤ 122 := of_decide_eq_true h
/-- what a token may be -/
theorem lx_ok {B : Nat → Nat} {n p : Nat} (hp : p ≤ n) : p ≤ (lx B n p).1 ∧ (lx B n p).1 ≤ n ∧ (lx B n p).2.2 ≤ n ∧ (lx B n p).1 ≤ (lx B n p).2.2 ∧ ((lx B n p).2.1 = 0 ∨ (lx B n p).1 < (lx B n p).2.2) ∧
    ((lx B n p).2.1 = 0 → (lx B n p).1 = n) ∧ ((lx B n p).2.1 = 0 ∨ (lx B n p).2.1 = 2 ∨ (isG (lx B n p).2.1 = true) ∨ (256 ≤ (lx B n p).2.1 ∧ (lx B n p).2.1 < 268) ∨ (1000 ≤ (lx B n p).2.1 ∧ (lx B n p).2.1 < 11000)) := by
  obtain ⟨r1, r2, r3, r4⟩ := run_ok (P := isZ) (B := B) (n := n) (n - p) p (by omega)
  unfold lx
  obtain ⟨q, hq⟩ : ∃ q, q = run isZ B n p := ⟨_, rfl⟩
  rw [← hq] at r1 r2 r3 r4 ⊢
  by_cases z : n ≤ q
  · rw [if_pos z]
    exact ⟨r1, r2, r2, Nat.le_refl _, Or.inl rfl, fun _ => by show q = n; omega, Or.inl rfl⟩
  rw [if_neg z]
  by_cases y : isL (B q) = true
  · rw [if_pos y]
    obtain ⟨s1, s2, s3, s4⟩ := run_ok (P := isL) (B := B) (n := n) (n - q) q (by omega)
    have s5 : q < run isL B n q := by
      rw [run_s (by omega) y]
      exact (run_ok (P := isL) (B := B) (n := n) (n - (q + 1)) (q + 1) (by omega)).1
    have kb := kw_b (seg B q (run isL B n q - q))
    refine ⟨r1, r2, s2, s1, Or.inr s5, fun h => ?_, ?_⟩
    · have h : kw (seg B q (run isL B n q - q)) = 0 := h
      rcases kb with k | k <;> omega
    · show kw _ = 0 ∨ kw _ = 2 ∨ _ ∨ (256 ≤ kw _ ∧ kw _ < 268) ∨ _
      rcases kb with k | k
      · exact Or.inr (Or.inl k)
      · exact Or.inr (Or.inr (Or.inr (Or.inl k)))
  rw [if_neg y]
  by_cases x : isD (B q) = true
  · rw [if_pos x]
    obtain ⟨s1, s2, s3, s4⟩ := run_ok (P := isD) (B := B) (n := n) (n - q) q (by omega)
    have s5 : q < run isD B n q := by
      rw [run_s (by omega) x]
      exact (run_ok (P := isD) (B := B) (n := n) (n - (q + 1)) (q + 1) (by omega)).1
    have nb := nvl_lt (seg B q (run isD B n q - q)) 0 0 (fun c hc => (isD_57 (seg_mem (run isD B n q - q) q (fun c => isD c = true) (fun j h1 h2 => s3 j h1 (by omega)) c hc)).2) (by decide)
    refine ⟨r1, r2, s2, s1, Or.inr s5, fun h => ?_, ?_⟩
    · have h : (if run isD B n q - q ≤ 4 then 1000 + nvl 0 0 (seg B q (run isD B n q - q)) else 2) = 0 := h
      by_cases w : run isD B n q - q ≤ 4
      · rw [if_pos w] at h; omega
      · rw [if_neg w] at h; omega
    · show (if run isD B n q - q ≤ 4 then 1000 + nvl 0 0 (seg B q (run isD B n q - q)) else 2) = 0 ∨ (if run isD B n q - q ≤ 4 then 1000 + nvl 0 0 (seg B q (run isD B n q - q)) else 2) = 2 ∨ _ ∨ _ ∨ (1000 ≤ (if run isD B n q - q ≤ 4 then 1000 + nvl 0 0 (seg B q (run isD B n q - q)) else 2) ∧ (if run isD B n q - q ≤ 4 then 1000 + nvl 0 0 (seg B q (run isD B n q - q)) else 2) < 11000)
      by_cases w : run isD B n q - q ≤ 4
      · rw [if_pos w]; exact Or.inr (Or.inr (Or.inr (Or.inr ⟨by omega, by omega⟩)))
      · rw [if_neg w]; exact Or.inr (Or.inl rfl)
  rw [if_neg x]
  refine ⟨r1, r2, by show q + 1 ≤ n; omega, by show q ≤ q + 1; omega, Or.inr (by show q < q + 1; omega), fun h => ?_, ?_⟩
  · have h : (if isG (B q) = true then B q else 2) = 0 := h
    by_cases w : isG (B q) = true
    · rw [if_pos w] at h
      rw [h] at w
      exact absurd w (by decide)
    · rw [if_neg w] at h; omega
  · show (if isG (B q) = true then B q else 2) = 0 ∨ (if isG (B q) = true then B q else 2) = 2 ∨ (isG (if isG (B q) = true then B q else 2) = true) ∨ _
    by_cases w : isG (B q) = true
    · rw [if_pos w]; exact Or.inr (Or.inr (Or.inl w))
    · rw [if_neg w]; exact Or.inr (Or.inl rfl)
/-! ## signed bytes -/
theorem sg_L {E : EN} {S : ST} {b : Nat} (h : b < 256) : f_X3_isLetter E S (sgn b) = some (if isL b = true then 1 else 0) := by
  have all : ∀ b, b < 256 → (if sgn b < (97 : Int32) then some (0 : Int32) else (if (122 : Int32) < sgn b then some (0 : Int32) else some (1 : Int32))) = some (if isL b = true then 1 else 0) := by decide +kernel
  exact all b h
theorem sg_D {E : EN} {S : ST} {b : Nat} (h : b < 256) : f_X3_isDigit E S (sgn b) = some (if isD b = true then 1 else 0) := by
  have all : ∀ b, b < 256 → (if sgn b < (48 : Int32) then some (0 : Int32) else (if (57 : Int32) < sgn b then some (0 : Int32) else some (1 : Int32))) = some (if isD b = true then 1 else 0) := by decide +kernel
  exact all b h
theorem sg_G {E : EN} {S : ST} {b : Nat} (h : b < 256) : f_X3_isSign E S (sgn b) = some (if isG b = true then 1 else 0) := by
  have all : ∀ b, b < 256 → (if sgn b = (40 : Int32) then some (1 : Int32) else if sgn b = (41 : Int32) then some (1 : Int32) else if sgn b = (59 : Int32) then some (1 : Int32) else if sgn b = (43 : Int32) then some (1 : Int32) else if sgn b = (45 : Int32) then some (1 : Int32) else if sgn b = (42 : Int32) then some (1 : Int32) else if sgn b = (60 : Int32) then some (1 : Int32) else if sgn b = (61 : Int32) then some (1 : Int32) else some (0 : Int32)) = some (if isG b = true then 1 else 0) := by decide +kernel
  exact all b h
theorem sg_Z {b : Nat} (h : b < 256) : (sgn b = (32 : Int32) ↔ b = 32) ∧ (sgn b = (10 : Int32) ↔ b = 10) := by
  have all : ∀ b, b < 256 → (sgn b = (32 : Int32) ↔ b = 32) ∧ (sgn b = (10 : Int32) ↔ b = 10) := by decide +kernel
  exact all b h
theorem sg_lo {b : Nat} (h : b < 128) : sgn b = nI b := by
  have all : ∀ b, b < 128 → sgn b = nI b := by decide +kernel
  exact all b h
theorem sg_hi {b : Nat} (h : b < 256) (h2 : 128 ≤ b) : sgn b < 0 := by
  have all : ∀ b, b < 256 → 128 ≤ b → sgn b < 0 := by decide +kernel
  exact all b h h2
theorem sg_eq {b c : Nat} (h : b < 256) (hc : c < 128) : sgn b = nI c ↔ b = c := by
  by_cases z : b < 128
  · rw [sg_lo z, nI_eq (by omega) (by omega)]
  · refine ⟨fun e => ?_, fun e => by omega⟩
    have := sg_hi h (by omega)
    rw [e] at this
    exact absurd this (q_n0 (by omega))
