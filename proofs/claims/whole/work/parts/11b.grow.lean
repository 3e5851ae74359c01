/-! THE LAYER, further: cells that come anew -/
theorem entL_cong (cy : Nat → ClassId) {B B' : Nat → Nat → Nat} (K i : Nat) (f : Nat → Int32) (g : Nat → Int64) (r : Nat → Option Nat)
    (h0 : ∀ K2, K2 ≠ 20 → K2 ≠ 21 → K2 ≠ 22 → K2 ≠ 30 → K2 ≠ 31 → K2 ≠ 32 → B' K2 = B K2) (h20 : K = 20 → B' 21 i = B 21 i ∧ B' 22 i = B 22 i) (h30 : K = 30 → B' 31 i = B 31 i ∧ B' 32 i = B 32 i)
    (h3 : K = 3 → ∀ j x, r j = some x → B' 20 x = B 20 x) (h4 : K = 4 → ∀ j x, r j = some x → B' 30 x = B 30 x) (h10 : K = 10 → ∀ x, r 0 = some x → B' 30 x = B 30 x) : entL cy B' K i f g r = entL cy B K i f g r := by
  have mp : ∀ (o : Option Nat) (u v : Nat → Nat), (∀ x, o = some x → u x = v x) → o.map u = o.map v := fun o u v h => by
    cases o with
    | none => rfl
    | some x => exact congrArg some (h x rfl)
  by_cases k3 : K = 3
  · subst k3
    rw [e3, e3, show (fun j => (r j).map (B' 20)) = (fun j => (r j).map (B 20)) from funext fun j => mp _ _ _ (h3 rfl j)]
  by_cases k4 : K = 4
  · subst k4
    rw [e4, e4, show (fun j => (r j).map (B' 30)) = (fun j => (r j).map (B 30)) from funext fun j => mp _ _ _ (h4 rfl j)]
  have b := fun K2 (h : K2 ≠ 20 ∧ K2 ≠ 21 ∧ K2 ≠ 22 ∧ K2 ≠ 30 ∧ K2 ≠ 31 ∧ K2 ≠ 32) => h0 K2 h.1 h.2.1 h.2.2.1 h.2.2.2.1 h.2.2.2.2.1 h.2.2.2.2.2
  by_cases k10 : K = 10
  · subst k10
    rw [e10, e10]
    unfold fl10
    rw [b 11 (by decide), b 12 (by decide), b 13 (by decide), mp (r 0) (B' 30) (B 30) (h10 rfl)]
  by_cases k20 : K = 20
  · subst k20
    rw [e20, e20]
    unfold fl20
    rw [(h20 rfl).1, (h20 rfl).2]
  by_cases k30 : K = 30
  · subst k30
    rw [e30, e30]
    unfold fl30
    rw [(h30 rfl).1, (h30 rfl).2]
  unfold entL
  rw [if_neg k3, if_neg k3, if_neg k4, if_neg k4, if_neg k10, if_neg k10, if_neg k20, if_neg k20, if_neg k30, if_neg k30]
  simp only [fl1, fl2, fl8, fl16, fl24, b 3 (by decide), b 4 (by decide), b 5 (by decide), b 6 (by decide), b 7 (by decide), b 8 (by decide), b 9 (by decide), b 10 (by decide), b 14 (by decide), b 16 (by decide), b 17 (by decide), b 18 (by decide), b 19 (by decide), b 24 (by decide), b 25 (by decide), b 28 (by decide), b 41 (by decide), b 42 (by decide), b 43 (by decide), b 44 (by decide), b 45 (by decide), b 56 (by decide), b 57 (by decide), b 58 (by decide), b 59 (by decide), b 60 (by decide), b 61 (by decide), b 62 (by decide), b 63 (by decide), b 64 (by decide), b 65 (by decide), b 66 (by decide), b 67 (by decide), b 68 (by decide), b 69 (by decide), b 72 (by decide), b 73 (by decide), b 74 (by decide), b 75 (by decide), b 76 (by decide), b 77 (by decide), b 81 (by decide), b 82 (by decide), b 83 (by decide), b 84 (by decide), b 85 (by decide), b 86 (by decide)]
/-- three cells come: B at (K1, j), (K1 + 1, j), (K1 + 2, j) -/
def b3 (B : Nat → Nat → Nat) (K1 j a0 a1 a2 : Nat) : Nat → Nat → Nat := fun K i => if K = K1 ∧ i = j then a0 else if K = K1 + 1 ∧ i = j then a1 else if K = K1 + 2 ∧ i = j then a2 else B K i
theorem b3_0 (B : Nat → Nat → Nat) (K1 j a0 a1 a2 : Nat) : b3 B K1 j a0 a1 a2 K1 j = a0 := by unfold b3; rw [if_pos ⟨rfl, rfl⟩]
theorem b3_1 (B : Nat → Nat → Nat) (K1 j a0 a1 a2 : Nat) : b3 B K1 j a0 a1 a2 (K1 + 1) j = a1 := by unfold b3; rw [if_neg (by omega), if_pos ⟨rfl, rfl⟩]
theorem b3_2 (B : Nat → Nat → Nat) (K1 j a0 a1 a2 : Nat) : b3 B K1 j a0 a1 a2 (K1 + 2) j = a2 := by unfold b3; rw [if_neg (by omega), if_neg (by omega), if_pos ⟨rfl, rfl⟩]
theorem b3_n (B : Nat → Nat → Nat) (K1 j a0 a1 a2 : Nat) {K i : Nat} (h : ¬ ((K = K1 ∨ K = K1 + 1 ∨ K = K1 + 2) ∧ i = j)) : b3 B K1 j a0 a1 a2 K i = B K i := by
  unfold b3
  rw [if_neg (by omega), if_neg (by omega), if_neg (by omega)]
/-- which numbers of cells there are behind it -/
theorem WH.grow {G : GE} {B : Nat → Nat → Nat} {E E' : EN} {S S' : ST} {H H1 : Heap} (h : WH G B E S H) {K1 j a0 a1 a2 : Nat}
    (hc : ∀ K i, i < cnt E' K → i < cnt E K ∨ ((K = K1 ∨ K = K1 + 1 ∨ K = K1 + 2) ∧ i = j)) (hj : ∀ K, (K = K1 ∨ K = K1 + 1 ∨ K = K1 + 2) → ¬ j < cnt E K)
    (hk : ∀ K i, i < cnt E K → H1[B K i]? = H[B K i]?) (hs : ∀ K i, i < cnt E K → S'.1 K i = S.1 K i ∧ S'.2.1 K i = S.2.1 K i ∧ S'.2.2 K i = S.2.2 K i)
    (he : ∀ K i, i < cnt E K → entL (gC G) (b3 B K1 j a0 a1 a2) K i (S.1 K i) (S.2.1 K i) (S.2.2 K i) = entL (gC G) B K i (S.1 K i) (S.2.1 K i) (S.2.2 K i))
    (n0 : va_at (gD G) vwCl (a0, entL (gC G) (b3 B K1 j a0 a1 a2) K1 j (S'.1 K1 j) (S'.2.1 K1 j) (S'.2.2 K1 j)) H1)
    (n1 : va_at (gD G) vwCl (a1, entL (gC G) (b3 B K1 j a0 a1 a2) (K1 + 1) j (S'.1 (K1 + 1) j) (S'.2.1 (K1 + 1) j) (S'.2.2 (K1 + 1) j)) H1)
    (n2 : va_at (gD G) vwCl (a2, entL (gC G) (b3 B K1 j a0 a1 a2) (K1 + 2) j (S'.1 (K1 + 2) j) (S'.2.1 (K1 + 2) j) (S'.2.2 (K1 + 2) j)) H1)
    (ha : a0 ≠ a1 ∧ a0 ≠ a2 ∧ a1 ≠ a2) (hb : ∀ K i, i < cnt E K → B K i ≠ a0 ∧ B K i ≠ a1 ∧ B K i ≠ a2) (hg : gB G ≤ a0 ∧ gB G ≤ a1 ∧ gB G ≤ a2) :
    WH G (b3 B K1 j a0 a1 a2) E' S' H1 := by
  have old : ∀ K i, i < cnt E K → b3 B K1 j a0 a1 a2 K i = B K i := fun K i hi => b3_n _ _ _ _ _ _ (fun y => by
    have := hj K y.1
    rw [y.2] at hi
    exact this hi)
  refine ⟨fun K i hi => ?_, fun K i K2 i2 hi hi2 e => ?_, fun K i hi => ?_⟩
  · rcases hc K i hi with q | ⟨q, rfl⟩
    · obtain ⟨x1, x2, x3⟩ := hs K i q
      rw [x1, x2, x3, he K i q, old K i q]
      exact (h.1 K i q).kept (hk K i q)
    · rcases q with rfl | rfl | rfl
      · rw [b3_0]; exact n0
      · rw [b3_1]; exact n1
      · rw [b3_2]; exact n2
  · rcases hc K i hi with q | ⟨q, rfl⟩
    · rw [old K i q] at e
      obtain ⟨y0, y1, y2⟩ := hb K i q
      rcases hc K2 i2 hi2 with q2 | ⟨q2, rfl⟩
      · rw [old K2 i2 q2] at e
        exact h.2.1 K i K2 i2 q q2 e
      · rcases q2 with rfl | rfl | rfl
        · rw [b3_0] at e; exact absurd e y0
        · rw [b3_1] at e; exact absurd e y1
        · rw [b3_2] at e; exact absurd e y2
    · rcases hc K2 i2 hi2 with q2 | ⟨q2, rfl⟩
      · rw [old K2 i2 q2] at e
        obtain ⟨y0, y1, y2⟩ := hb K2 i2 q2
        rcases q with rfl | rfl | rfl
        · rw [b3_0] at e; exact absurd e.symm y0
        · rw [b3_1] at e; exact absurd e.symm y1
        · rw [b3_2] at e; exact absurd e.symm y2
      · obtain ⟨z1, z2, z3⟩ := ha
        rcases q with rfl | rfl | rfl <;> rcases q2 with rfl | rfl | rfl
        · exact ⟨rfl, rfl⟩
        · rw [b3_0, b3_1] at e; exact absurd e z1
        · rw [b3_0, b3_2] at e; exact absurd e z2
        · rw [b3_1, b3_0] at e; exact absurd e.symm z1
        · exact ⟨rfl, rfl⟩
        · rw [b3_1, b3_2] at e; exact absurd e z3
        · rw [b3_2, b3_0] at e; exact absurd e.symm z2
        · rw [b3_2, b3_1] at e; exact absurd e.symm z3
        · exact ⟨rfl, rfl⟩
  · rcases hc K i hi with q | ⟨q, rfl⟩
    · rw [old K i q]; exact h.2.2 K i q
    · rcases q with rfl | rfl | rfl
      · rw [b3_0]; exact hg.1
      · rw [b3_1]; exact hg.2.1
      · rw [b3_2]; exact hg.2.2
