/-! PURE PART, tools: small numbers, tests, frames read as agreements -/
theorem q_lit (n : Nat) : (OfNat.ofNat n : Int32) = nI n := rfl
theorem q_litL (n : Nat) : (OfNat.ofNat n : Int64) = lN n := rfl
theorem q_lt {a b : Nat} (ha : a < 2 ^ 31) (hb : b < 2 ^ 31) : nI a < nI b ↔ a < b := nI_ltI ha hb
theorem q_le {a b : Nat} (ha : a < 2 ^ 31) (hb : b < 2 ^ 31) : nI a ≤ nI b ↔ a ≤ b := nI_leI ha hb
theorem q_i5 (p k : Nat) : ((5 : Int32) * nI p) + nI k = nI (5 * p + k) := by
  rw [show (5 : Int32) = nI 5 from rfl, pk_mul, nI_add]
theorem q_cl {n : Nat} (h : n < 2147483648) : (nI n).toNatClampNeg = n := nI_clamp h
theorem q_n0 {n : Nat} (h : n < 2147483648) : ¬ nI n < 0 := nI_pos h
theorem q_rm {a d : Nat} (ha : a < 2 ^ 31) (h0 : 0 < d) (hd : d < 2 ^ 31) : rmI (nI a) (nI d) = nI (a % d) := pk_rem ha h0 hd
theorem q_rm10 {a : Nat} (ha : a < 2 ^ 31) : rmI (nI a) (10 : Int32) = nI (a % 10) := pk_rem ha (by decide) (by decide)
theorem q_dv10 {a : Nat} (ha : a < 2 ^ 31) : nI a / (10 : Int32) = nI (a / 10) := pk_div ha (by decide) (by decide)
theorem q_rm100 {a : Nat} (ha : a < 2 ^ 31) : rmI (nI a) (100 : Int32) = nI (a % 100) := pk_rem ha (by decide) (by decide)
theorem q_dv100 {a : Nat} (ha : a < 2 ^ 31) : nI a / (100 : Int32) = nI (a / 100) := pk_div ha (by decide) (by decide)
/-- an int below 0, or a number -/
theorem q_or (x : Int32) : x < 0 ∨ ∃ n : Nat, n < 2 ^ 31 ∧ x = nI n := by
  by_cases h : x < 0
  · exact Or.inl h
  · exact Or.inr (nI_of h)
theorem q_inj {a b : Nat} (ha : a < 2 ^ 31) (hb : b < 2 ^ 31) (h : nI a = nI b) : a = b := (nI_eq ha hb).mp h
/-- the places named by D hold the same -/
def Ag (D : List (Nat × Nat)) (S S1 : ST) : Prop := ∀ K i j : Nat, wq D K j = true → gI S1 K i j = gI S K i j ∧ gL S1 K i j = gL S K i j ∧ gR S1 K i j = gR S K i j
theorem Ag.I {D : List (Nat × Nat)} {S S1 : ST} (h : Ag D S S1) {K i j : Nat} (q : wq D K j = true) : gI S1 K i j = gI S K i j := (h K i j q).1
theorem Ag.L {D : List (Nat × Nat)} {S S1 : ST} (h : Ag D S S1) {K i j : Nat} (q : wq D K j = true) : gL S1 K i j = gL S K i j := (h K i j q).2.1
theorem Ag.R {D : List (Nat × Nat)} {S S1 : ST} (h : Ag D S S1) {K i j : Nat} (q : wq D K j = true) : gR S1 K i j = gR S K i j := (h K i j q).2.2
theorem Ag.rf {D : List (Nat × Nat)} {S : ST} : Ag D S S := fun _ _ _ _ => ⟨rfl, rfl, rfl⟩
theorem Ag.tr {D : List (Nat × Nat)} {S S1 S2 : ST} (a : Ag D S S1) (b : Ag D S1 S2) : Ag D S S2 := fun K i j q => ⟨(b K i j q).1.trans (a K i j q).1, (b K i j q).2.1.trans (a K i j q).2.1, (b K i j q).2.2.trans (a K i j q).2.2⟩
/-- D and w have nothing in common -/
def dj (D w : List (Nat × Nat)) : Bool := D.all (fun x => w.all (fun y => !(x.1 == y.1 && (x.2 == 0 || y.2 == 0 || x.2 == y.2))))
theorem dj_wq {D w : List (Nat × Nat)} (h : dj D w = true) {K j : Nat} (q : wq D K j = true) : wq w K j = false := by
  rw [Bool.eq_false_iff]
  intro q2
  have h1 : ∀ x ∈ D, ∀ y ∈ w, (!(x.1 == y.1 && (x.2 == 0 || y.2 == 0 || x.2 == y.2))) = true := fun x hx y hy => List.all_eq_true.mp (List.all_eq_true.mp h x hx) y hy
  unfold wq at q q2
  rcases (Bool.or_eq_true _ _).mp q with q | q <;> rcases (Bool.or_eq_true _ _).mp q2 with q2 | q2
  · have := h1 _ (List.contains_iff_mem.mp q) _ (List.contains_iff_mem.mp q2)
    simp at this
  · have := h1 _ (List.contains_iff_mem.mp q) _ (List.contains_iff_mem.mp q2)
    simp at this
  · have := h1 _ (List.contains_iff_mem.mp q) _ (List.contains_iff_mem.mp q2)
    simp at this
  · have := h1 _ (List.contains_iff_mem.mp q) _ (List.contains_iff_mem.mp q2)
    simp at this
theorem Fm.ag {D w : List (Nat × Nat)} {S S1 : ST} (F : Fm w S S1) (h : dj D w = true) : Ag D S S1 := fun K i j q => by
  have hq := dj_wq h (j := j) q
  exact ⟨F.I hq, F.L hq, F.R hq⟩
theorem Ag.sub {D D' : List (Nat × Nat)} {S S1 : ST} (a : Ag D S S1) (h : D'.all (fun x => D.contains x || D.contains (x.1, 0)) = true) : Ag D' S S1 := fun K i j q => a K i j (by
  rcases hq : wq D K j with _ | _
  · have := wq_sub h hq
    rw [q] at this
    cases this
  · rfl)
/-- in(v, low, high) -/
theorem s_in (E : EN) (S : ST) (v lo hi : Int32) : f_X7_in E S v lo hi = some (if v < lo ∨ hi < v then 0 else 1) := by
  unfold f_X7_in
  by_cases h : v < lo
  · rw [if_pos h, if_pos (Or.inl h)]
  · rw [if_neg h]
    by_cases h2 : hi < v
    · rw [if_pos h2, if_pos (Or.inr h2)]
    · rw [if_neg h2, if_neg (fun q => q.elim h h2)]
theorem s_in0 {E : EN} {S : ST} {v lo hi : Int32} (h : v < lo ∨ hi < v) : f_X7_in E S v lo hi = some 0 := by rw [s_in, if_pos h]
theorem s_in1 {E : EN} {S : ST} {v lo hi : Int32} (h : ¬ (v < lo ∨ hi < v)) : f_X7_in E S v lo hi = some 1 := by rw [s_in, if_neg h]
/-- in(v, 0, n) of a number, and of what is none -/
theorem s_inN {E : EN} {S : ST} {v n : Nat} {hi : Int32} (hv : v < 2 ^ 31) (hn : n < 2 ^ 31) (e : hi = nI n) : f_X7_in E S (nI v) (0 : Int32) hi = some (if v ≤ n then 1 else 0) := by
  subst e
  by_cases h : v ≤ n
  · rw [s_in1, if_pos h]
    rintro (q | q)
    · exact q_n0 hv q
    · exact absurd ((q_lt hn hv).mp q) (by omega)
  · rw [s_in0, if_neg h]
    exact Or.inr ((q_lt hn hv).mpr (by omega))
theorem s_inS {E : EN} {S : ST} {v hi : Int32} (h : v < 0) : f_X7_in E S v (0 : Int32) hi = some 0 := s_in0 (Or.inl h)
theorem q_m1 (n : Nat) : nI (n + 1) - (1 : Int32) = nI n := nI_pred n
theorem q_z1 : nI 0 - (1 : Int32) = -1 := by decide
theorem bd_some {α β : Type} {o : Option α} {a : α} {k : α → Option β} (h : o = some a) : bd_ o k = k a := by rw [h]; rfl
theorem bd2_some {α γ β : Type} {o : Option (α × γ)} {a : α} {c : γ} {k : α → γ → Option β} (h : o = some (a, c)) : bd2 o k = k a c := by rw [h]; rfl
theorem q_leL (a : Nat) {b : Nat} (ha : a < 2147483648) (hb : b < 2147483648) : ((OfNat.ofNat a : Int32) ≤ nI b) ↔ a ≤ b := q_le ha hb
theorem q_leR (a : Nat) {b : Nat} (ha : a < 2147483648) (hb : b < 2147483648) : (nI b ≤ (OfNat.ofNat a : Int32)) ↔ b ≤ a := q_le hb ha
theorem q_ltL (a : Nat) {b : Nat} (ha : a < 2147483648) (hb : b < 2147483648) : ((OfNat.ofNat a : Int32) < nI b) ↔ a < b := q_lt ha hb
theorem q_ltR (a : Nat) {b : Nat} (ha : a < 2147483648) (hb : b < 2147483648) : (nI b < (OfNat.ofNat a : Int32)) ↔ b < a := q_lt hb ha
theorem q_eqR (a : Nat) {b : Nat} (ha : a < 2147483648) (hb : b < 2147483648) : (nI b = (OfNat.ofNat a : Int32)) ↔ b = a := nI_eq hb ha
theorem s_inY {E : EN} {S : ST} {v n : Nat} {hi : Int32} (hv : v < 2 ^ 31) (hn : n < 2 ^ 31) (e : hi = nI n) (h : v ≤ n) : f_X7_in E S (nI v) (0 : Int32) hi = some 1 := by rw [s_inN hv hn e, if_pos h]
theorem s_inZ {E : EN} {S : ST} {v n : Nat} {hi : Int32} (hv : v < 2 ^ 31) (hn : n < 2 ^ 31) (e : hi = nI n) (h : ¬ v ≤ n) : f_X7_in E S (nI v) (0 : Int32) hi = some 0 := by rw [s_inN hv hn e, if_neg h]
