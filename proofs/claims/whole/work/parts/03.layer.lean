abbrev vwCl : List vw_C := [(RX0, TX0, 6), (RX1, TX1, 7), (RX2, TX2, 7), (RX3, TX3, 10), (RX4, TX4, 3), (RX5, TX5, 2), (RX6, TX6, 15), (RX7, TX7, 47)]
/-! THE LAYER: an abstract memory. A cell is (K, i): its kind and its number; it holds ints, longs and references by place. B K i is its address. -/
/-- ints, longs, references -/
abbrev ST : Type := (Nat → Nat → Nat → Int32) × (Nat → Nat → Nat → Int64) × (Nat → Nat → Nat → Option Nat)
/-- the fuel of loops, how many pupils there are, how many texts, how many references (the law's other object: 0 or 1) -/
abbrev EN : Type := Nat × Nat × Nat × Nat
def gI (S : ST) (K i j : Nat) : Int32 := S.1 K i j
def gL (S : ST) (K i j : Nat) : Int64 := S.2.1 K i j
def gR (S : ST) (K i j : Nat) : Option Nat := S.2.2 K i j
/-- f, but x at (K, i) -/
def ct {α : Type} (f : Nat → Nat → α) (K i : Nat) (x : α) : Nat → Nat → α := fun K' i' => if K' = K ∧ i' = i then x else f K' i'
/-- all ints of a cell -/
def aI (S : ST) (K i : Nat) (f : Nat → Int32) : ST := (ct S.1 K i f, S.2.1, S.2.2)
def aL (S : ST) (K i : Nat) (f : Nat → Int64) : ST := (S.1, ct S.2.1 K i f, S.2.2)
def aR (S : ST) (K i : Nat) (f : Nat → Option Nat) : ST := (S.1, S.2.1, ct S.2.2 K i f)
def sI (S : ST) (K i j : Nat) (v : Int32) : ST := aI S K i (upd (S.1 K i) j v)
def sL (S : ST) (K i j : Nat) (v : Int64) : ST := aL S K i (vp_updL (S.2.1 K i) j v)
def sR (S : ST) (K i j : Nat) (v : Option Nat) : ST := aR S K i (va_up (S.2.2 K i) j v)
theorem ct_at {α : Type} (f : Nat → Nat → α) (K i : Nat) (x : α) : ct f K i x K i = x := by unfold ct; rw [if_pos ⟨rfl, rfl⟩]
theorem ct_ne {α : Type} (f : Nat → Nat → α) (K i : Nat) (x : α) {K' i' : Nat} (h : ¬ (K' = K ∧ i' = i)) : ct f K i x K' i' = f K' i' := by unfold ct; rw [if_neg h]
/-! ## programs: what a method answers, or none where it would not -/
/-- a name for a value -/
def lt_ {α β : Type} (e : α) (k : α → β) : β := k e
theorem lt_out {α β : Type} {e : α} {k : α → β} {z : β} (h : lt_ e k = z) : ∃ y, y = e ∧ k y = z := ⟨e, rfl, h⟩
theorem lt_as {α β : Type} {e y : α} {k : α → β} {z : β} (h : lt_ e k = z) (he : y = e) : k y = z := by subst he; exact h
/-- a test that must hold -/
def ck_ {α : Type} (b : Bool) (k : Option α) : Option α := if b = true then k else none
theorem ck_out {α : Type} {b : Bool} {k : Option α} {z : α} (h : ck_ b k = some z) : b = true ∧ k = some z := by
  unfold ck_ at h
  by_cases q : b = true
  · exact ⟨q, by rw [if_pos q] at h; exact h⟩
  · rw [if_neg q] at h; cases h
theorem ck_in {α : Type} {b : Bool} {k : Option α} (h : b = true) : ck_ b k = k := by unfold ck_; rw [if_pos h]
/-- which way a branch goes (the test's decision is any) -/
theorem if_t {α : Type} {b : Prop} {d : Decidable b} {x y z : α} (h : b) (e : @ite α b d x y = z) : x = z := by rw [if_pos h] at e; exact e
theorem if_f {α : Type} {b : Prop} {d : Decidable b} {x y z : α} (h : ¬ b) (e : @ite α b d x y = z) : y = z := by rw [if_neg h] at e; exact e
/-- a call's answer -/
def bd_ {α β : Type} (o : Option α) (k : α → Option β) : Option β := match o with
  | none => none
  | some a => k a
theorem bd_out {α β : Type} {o : Option α} {k : α → Option β} {z : β} (h : bd_ o k = some z) : ∃ a, o = some a ∧ k a = some z := by
  cases o with
  | none => cases h
  | some a => exact ⟨a, rfl, h⟩
def bd2 {α γ β : Type} (o : Option (α × γ)) (k : α → γ → Option β) : Option β := match o with
  | none => none
  | some a => k a.1 a.2
theorem bd2_out {α γ β : Type} {o : Option (α × γ)} {k : α → γ → Option β} {z : β} (h : bd2 o k = some z) : ∃ a c, o = some (a, c) ∧ k a c = some z := by
  cases o with
  | none => cases h
  | some a => exact ⟨a.1, a.2, rfl, h⟩
/-- a reference that may be null -/
def nl_ {β : Type} (o : Option Nat) (x : β) (k : Nat → β) : β := match o with
  | none => x
  | some a => k a
/-- a loop by fuel -/
def fx_ {τ : Type} (bot : τ) (F : τ → τ) : Nat → τ
  | 0 => bot
  | n + 1 => F (fx_ bot F n)
theorem fx_s {τ : Type} (bot : τ) (F : τ → τ) (n : Nat) : fx_ bot F (n + 1) = F (fx_ bot F n) := rfl
/-- an index in its row -/
def ib_ (j : Int32) (n : Nat) : Bool := decide (0 ≤ j.toInt) && decide (j.toInt < (n : Int))
theorem ib_in {j : Int32} {n : Nat} (h : ib_ j n = true) : vp_in j n := by
  unfold ib_ at h
  rw [Bool.and_eq_true, decide_eq_true_eq, decide_eq_true_eq] at h
  exact vp_in_iff.mpr h
theorem ib_nI {k n : Nat} (h : k < n) (hn : n < 2 ^ 31) : ib_ (nI k) n = true := by
  unfold ib_
  rw [nI_toInt (by omega), Bool.and_eq_true, decide_eq_true_eq, decide_eq_true_eq]
  omega
theorem ib_ok {j : Int32} {n : Nat} (h1 : 0 ≤ j.toInt) (h2 : j.toInt < n) : ib_ j n = true := by
  unfold ib_
  rw [Bool.and_eq_true, decide_eq_true_eq, decide_eq_true_eq]
  exact ⟨h1, h2⟩
/-! ## the world -/
/-- small words of the programs -/
def rmI (x y : Int32) : Int32 := x - x / y * y
def rmL (x y : Int64) : Int64 := x - x / y * y
def mxI (x y : Int32) : Int32 := if x < y then y else x
def mnI (x y : Int32) : Int32 := if y < x then y else x
def mxL (x y : Int64) : Int64 := if y < x then x else y
def abL (x : Int64) : Int64 := if 0 < x then x else -x
def us_ (x y : Int32) : Int32 := (x.toUInt32 >>> (y.toUInt32 &&& Int32.toUInt32 31)).toInt32
def pR_ (j : Nat) : Int32 := ([-1, 0, 0, 0, 1, 3] : List Int32).getD j 0
def vl_ (S : ST) (K i : Nat) : Nat := (S.2.1 K i 0).toInt.toNat
/-- an int that is its own lowest bit -/
def ob_ (x : Int32) : Bool := decide (x = 0) || decide (x = 1)
theorem ob_n {x : Int32} (h : ob_ x = true) : narrow .boolean (.int x) = .int x := by
  unfold ob_ at h
  rw [Bool.or_eq_true, decide_eq_true_eq, decide_eq_true_eq] at h
  rcases h with rfl | rfl <;> rfl
theorem nz_ {p : Prop} {d : Decidable p} (h : (!@decide p d) = true) : ¬ p := by
  simpa using h
theorem ng_ {p : Prop} {d : Decidable p} (h : (!@decide p d) = true) : ¬ p := nz_ h
theorem vp_lt {j : Int32} {n : Nat} (h : vp_in j n) : j.toNatClampNeg < n := Nat.not_le.mp fun q => h (Or.inr q)
theorem nl_n {β : Type} {x : β} {k : Nat → β} {z : β} (h : nl_ none x k = z) : x = z := h
theorem nl_s {β : Type} {a : Nat} {x : β} {k : Nat → β} {z : β} (h : nl_ (some a) x k = z) : k a = z := h
theorem in_seg {L M : List Cond} (p : Nat) (h : (L.drop p).take M.length = M) : ∀ w ∈ M, w ∈ L := fun w hw => by
  rw [← h] at hw
  exact List.mem_of_mem_drop (List.mem_of_mem_take hw)
theorem tb_out {x : Int32} {lo hi : Int} (h1 : -2147483648 ≤ lo) (h2 : hi < 2147483648) (h : ∀ k : Int, lo ≤ k → k ≤ hi → x ≠ Int32.ofInt k) : x.toInt < lo ∨ hi < x.toInt := by
  by_cases a : x.toInt < lo
  · exact Or.inl a
  · by_cases b : hi < x.toInt
    · exact Or.inr b
    · exact absurd (Int32.ofInt_toInt x).symm (h x.toInt (by omega) (by omega))
theorem lk_out {ps : List (Int × Int)} {d : Int} {x : Int32} (h : ∀ q ∈ ps, x.toInt ≠ q.1) : Op.lookupswitch.offset ps d x.toInt = d := by
  induction ps with
  | nil => exact lookupswitch.offset_nil d x.toInt
  | cons a r ih =>
    obtain ⟨a1, a2⟩ := a
    rw [lookupswitch.offset_cons, if_neg (fun q => h (a1, a2) List.mem_cons_self q.symm)]
    exact ih (fun q hq => h q (List.mem_cons_of_mem _ hq))
theorem lk_eq {x y : Int32} {k : Int} (h : x.toInt = k) (e : y.toInt = k) : x = y := Int32.toInt_inj.mp (h.trans e.symm)
/-- D, the array kinds' numbers, where the system begins, the row PARENTS, the two texts and their bytes, the formatter -/
abbrev GE : Type := va_G × (Nat → ClassId) × Nat × Nat × (Nat → Nat) × (Nat → Nat)
def gD (G : GE) : va_G := G.1
def gC (G : GE) : Nat → ClassId := G.2.1
def gB (G : GE) : Nat := G.2.2.1
def gP (G : GE) : Nat := G.2.2.2.1
def gK (G : GE) : Nat → Nat := G.2.2.2.2.1
def gV (G : GE) : Nat → Nat := G.2.2.2.2.2
def tyl (G : GE) : List (ClassId × FieldType) := [(gC G 0, .int), (gC G 1, .long), (gC G 2, .byte), (gC G 3, .boolean), (gC G 4, .object "MovesUp$Pupil"), (gC G 5, .object "MovesUp$Text"), (gC G 6, .object "MovesUp$Row"), (gC G 7, .array .long)]
def AA (G : GE) : Nat → Prop := fun q => gB G ≤ q
/-- which cells there are: how many of a kind -/
def one_kinds : List Nat := [2, 3, 4, 5, 6, 7, 8, 9, 10, 11, 12, 13, 14, 16, 17, 18, 19]
def mdl_kinds : List Nat := [1, 41, 42, 43, 44, 45, 56, 57, 58, 59, 60, 61, 62, 63, 64, 65, 66, 67, 68, 69, 72, 73, 74, 75, 76, 77, 81, 82, 83, 84, 85, 86]
def cnt (E : EN) (K : Nat) : Nat := if one_kinds.contains K then 1 else if mdl_kinds.contains K then E.2.2.2 else if K = 20 ∨ K = 21 ∨ K = 22 then E.2.1 else if K = 30 ∨ K = 31 ∨ K = 32 then E.2.2.1 else if K = 24 ∨ K = 25 then 4 else if K = 28 then 6 else 0
theorem c2 (E : EN) : 0 < cnt E 2 := Nat.zero_lt_one
theorem c3 (E : EN) : 0 < cnt E 3 := Nat.zero_lt_one
theorem c4 (E : EN) : 0 < cnt E 4 := Nat.zero_lt_one
theorem c5 (E : EN) : 0 < cnt E 5 := Nat.zero_lt_one
theorem c6 (E : EN) : 0 < cnt E 6 := Nat.zero_lt_one
theorem c7 (E : EN) : 0 < cnt E 7 := Nat.zero_lt_one
theorem c8 (E : EN) : 0 < cnt E 8 := Nat.zero_lt_one
theorem c9 (E : EN) : 0 < cnt E 9 := Nat.zero_lt_one
theorem c10 (E : EN) : 0 < cnt E 10 := Nat.zero_lt_one
theorem c11 (E : EN) : 0 < cnt E 11 := Nat.zero_lt_one
theorem c12 (E : EN) : 0 < cnt E 12 := Nat.zero_lt_one
theorem c13 (E : EN) : 0 < cnt E 13 := Nat.zero_lt_one
theorem c14 (E : EN) : 0 < cnt E 14 := Nat.zero_lt_one
theorem c16 (E : EN) : 0 < cnt E 16 := Nat.zero_lt_one
theorem c17 (E : EN) : 0 < cnt E 17 := Nat.zero_lt_one
theorem c18 (E : EN) : 0 < cnt E 18 := Nat.zero_lt_one
theorem c19 (E : EN) : 0 < cnt E 19 := Nat.zero_lt_one
theorem c1 {E : EN} (h : 0 < E.2.2.2) : 0 < cnt E 1 := h
theorem c41 {E : EN} (h : 0 < E.2.2.2) : 0 < cnt E 41 := h
theorem c42 {E : EN} (h : 0 < E.2.2.2) : 0 < cnt E 42 := h
theorem c43 {E : EN} (h : 0 < E.2.2.2) : 0 < cnt E 43 := h
theorem c44 {E : EN} (h : 0 < E.2.2.2) : 0 < cnt E 44 := h
theorem c45 {E : EN} (h : 0 < E.2.2.2) : 0 < cnt E 45 := h
theorem c56 {E : EN} (h : 0 < E.2.2.2) : 0 < cnt E 56 := h
theorem c57 {E : EN} (h : 0 < E.2.2.2) : 0 < cnt E 57 := h
theorem c58 {E : EN} (h : 0 < E.2.2.2) : 0 < cnt E 58 := h
theorem c59 {E : EN} (h : 0 < E.2.2.2) : 0 < cnt E 59 := h
theorem c60 {E : EN} (h : 0 < E.2.2.2) : 0 < cnt E 60 := h
theorem c61 {E : EN} (h : 0 < E.2.2.2) : 0 < cnt E 61 := h
theorem c62 {E : EN} (h : 0 < E.2.2.2) : 0 < cnt E 62 := h
theorem c63 {E : EN} (h : 0 < E.2.2.2) : 0 < cnt E 63 := h
theorem c64 {E : EN} (h : 0 < E.2.2.2) : 0 < cnt E 64 := h
theorem c65 {E : EN} (h : 0 < E.2.2.2) : 0 < cnt E 65 := h
theorem c66 {E : EN} (h : 0 < E.2.2.2) : 0 < cnt E 66 := h
theorem c67 {E : EN} (h : 0 < E.2.2.2) : 0 < cnt E 67 := h
theorem c68 {E : EN} (h : 0 < E.2.2.2) : 0 < cnt E 68 := h
theorem c69 {E : EN} (h : 0 < E.2.2.2) : 0 < cnt E 69 := h
theorem c72 {E : EN} (h : 0 < E.2.2.2) : 0 < cnt E 72 := h
theorem c73 {E : EN} (h : 0 < E.2.2.2) : 0 < cnt E 73 := h
theorem c74 {E : EN} (h : 0 < E.2.2.2) : 0 < cnt E 74 := h
theorem c75 {E : EN} (h : 0 < E.2.2.2) : 0 < cnt E 75 := h
theorem c76 {E : EN} (h : 0 < E.2.2.2) : 0 < cnt E 76 := h
theorem c77 {E : EN} (h : 0 < E.2.2.2) : 0 < cnt E 77 := h
theorem c81 {E : EN} (h : 0 < E.2.2.2) : 0 < cnt E 81 := h
theorem c82 {E : EN} (h : 0 < E.2.2.2) : 0 < cnt E 82 := h
theorem c83 {E : EN} (h : 0 < E.2.2.2) : 0 < cnt E 83 := h
theorem c84 {E : EN} (h : 0 < E.2.2.2) : 0 < cnt E 84 := h
theorem c85 {E : EN} (h : 0 < E.2.2.2) : 0 < cnt E 85 := h
theorem c86 {E : EN} (h : 0 < E.2.2.2) : 0 < cnt E 86 := h
theorem c20 {E : EN} {i : Nat} (h : i < E.2.1) : i < cnt E 20 := h
theorem c21 {E : EN} {i : Nat} (h : i < E.2.1) : i < cnt E 21 := h
theorem c22 {E : EN} {i : Nat} (h : i < E.2.1) : i < cnt E 22 := h
theorem c30 {E : EN} {i : Nat} (h : i < E.2.2.1) : i < cnt E 30 := h
theorem c31 {E : EN} {i : Nat} (h : i < E.2.2.1) : i < cnt E 31 := h
theorem c32 {E : EN} {i : Nat} (h : i < E.2.2.1) : i < cnt E 32 := h
theorem c24 (E : EN) {i : Nat} (h : i < 4) : i < cnt E 24 := h
theorem c25 (E : EN) {i : Nat} (h : i < 4) : i < cnt E 25 := h
theorem c28 (E : EN) {i : Nat} (h : i < 6) : i < cnt E 28 := h
theorem cv20_21 {E : EN} {i : Nat} (h : i < cnt E 20) : i < cnt E 21 := h
theorem cv20_22 {E : EN} {i : Nat} (h : i < cnt E 20) : i < cnt E 22 := h
theorem cv24_25 {E : EN} {i : Nat} (h : i < cnt E 24) : i < cnt E 25 := h
theorem cv30_31 {E : EN} {i : Nat} (h : i < cnt E 30) : i < cnt E 31 := h
theorem cv30_32 {E : EN} {i : Nat} (h : i < cnt E 30) : i < cnt E 32 := h
def fl1 (B : Nat → Nat → Nat) (i : Nat) (f : Nat → Int32) (g : Nat → Int64) (r : Nat → Option Nat) : List Value := [.int (f 0), .ref (B 41 0), .ref (B 42 0), .ref (B 43 0), .ref (B 44 0), .ref (B 45 0), .int (f 6), .int (f 7), .int (f 8), .int (f 9), .int (f 10), .int (f 11), .int (f 12), .int (f 13), .int (f 14), .int (f 15), .ref (B 56 0), .ref (B 57 0), .ref (B 58 0), .ref (B 59 0), .ref (B 60 0), .ref (B 61 0), .ref (B 62 0), .ref (B 63 0), .ref (B 64 0), .ref (B 65 0), .ref (B 66 0), .ref (B 67 0), .ref (B 68 0), .ref (B 69 0), .int (f 30), .long (g 31), .ref (B 72 0), .ref (B 73 0), .ref (B 74 0), .ref (B 75 0), .ref (B 76 0), .ref (B 77 0), .int (f 38), .int (f 39), .int (f 40), .ref (B 81 0), .ref (B 82 0), .ref (B 83 0), .ref (B 84 0), .ref (B 85 0), .ref (B 86 0)]
def fl2 (B : Nat → Nat → Nat) (i : Nat) (f : Nat → Int32) (g : Nat → Int64) (r : Nat → Option Nat) : List Value := [.ref (B 3 0), .int (f 1), .ref (B 4 0), .int (f 3), .int (f 4), .ref (B 5 0), .int (f 6), .ref (B 6 0), .ref (B 8 0), .ref (B 10 0), .ref (B 16 0), .ref (B 7 0), .int (f 12), .int (f 13), .int (f 14)]
def fl8 (B : Nat → Nat → Nat) (i : Nat) (f : Nat → Int32) (g : Nat → Int64) (r : Nat → Option Nat) : List Value := [.ref (B 5 0), .int (f 1), .int (f 2), .int (f 3), .int (f 4), .int (f 5), .int (f 6), .ref (B 9 0), .int (f 8), .ref (B 14 0)]
def fl10 (B : Nat → Nat → Nat) (i : Nat) (f : Nat → Int32) (g : Nat → Int64) (r : Nat → Option Nat) : List Value := [va_rf ((r 0).map (B 30)), .int (f 1), .int (f 2), .ref (B 11 0), .ref (B 12 0), .ref (B 13 0)]
def fl16 (B : Nat → Nat → Nat) (i : Nat) (f : Nat → Int32) (g : Nat → Int64) (r : Nat → Option Nat) : List Value := [.ref (B 10 0), .ref (B 17 0), .ref (B 18 0), .ref (B 19 0), .int (f 4), .int (f 5), .int (f 6)]
def fl20 (B : Nat → Nat → Nat) (i : Nat) (f : Nat → Int32) (g : Nat → Int64) (r : Nat → Option Nat) : List Value := [.int (f 0), .int (f 1), .int (f 2), .int (f 3), .ref (B 21 i), .int (f 5), .ref (B 22 i)]
def fl24 (B : Nat → Nat → Nat) (i : Nat) (f : Nat → Int32) (g : Nat → Int64) (r : Nat → Option Nat) : List Value := [.int (f 0), .int (f 1), .ref (B 25 i)]
def fl30 (B : Nat → Nat → Nat) (i : Nat) (f : Nat → Int32) (g : Nat → Int64) (r : Nat → Option Nat) : List Value := [.ref (B 31 i), .ref (B 32 i)]
/-- what a cell is, of what it holds -/
def entL (cy : Nat → ClassId) (B : Nat → Nat → Nat) (K : Nat) (i : Nat) (f : Nat → Int32) (g : Nat → Int64) (r : Nat → Option Nat) : va_E := if K = 1 then .inr (7, fl1 B i f g r) else if K = 2 then .inr (6, fl2 B i f g r) else if K = 3 then .inl (cy 4, 8, .inr (.inr (.inr (.inr (fun j => (r j).map (B 20)))))) else if K = 4 then .inl (cy 5, 6, .inr (.inr (.inr (.inr (fun j => (r j).map (B 30)))))) else if K = 5 then .inl (cy 2, 160, .inl f) else if K = 6 then .inl (cy 6, 4, .inr (.inr (.inr (.inr (fun j => some (B 24 j)))))) else if K = 7 then .inl (cy 1, 8, .inr (.inl g)) else if K = 8 then .inr (3, fl8 B i f g r) else if K = 9 then .inl (cy 0, 160, .inl f) else if K = 10 then .inr (0, fl10 B i f g r) else if K = 11 then .inl (cy 2, 2700, .inl f) else if K = 12 then .inl (cy 0, 6, .inl f) else if K = 13 then .inl (cy 0, 160, .inl f) else if K = 14 then .inl (cy 0, 4, .inl f) else if K = 16 then .inr (1, fl16 B i f g r) else if K = 17 then .inl (cy 7, 6, .inr (.inr (.inr (.inr (fun j => some (B 28 j)))))) else if K = 18 then .inl (cy 0, 6, .inl f) else if K = 19 then .inl (cy 0, 6, .inl f) else if K = 20 then .inr (2, fl20 B i f g r) else if K = 21 then .inl (cy 0, 5, .inl f) else if K = 22 then .inl (cy 0, 5, .inl f) else if K = 24 then .inr (4, fl24 B i f g r) else if K = 25 then .inl (cy 0, 40, .inl f) else if K = 28 then .inl (cy 1, 5, .inr (.inl g)) else if K = 30 then .inr (5, fl30 B i f g r) else if K = 31 then .inl (cy 0, (g 0).toInt.toNat, .inl f) else if K = 32 then .inl (cy 0, 4, .inl f) else if K = 41 then .inl (cy 0, 8, .inl f) else if K = 42 then .inl (cy 0, 8, .inl f) else if K = 43 then .inl (cy 0, 8, .inl f) else if K = 44 then .inl (cy 0, 8, .inl f) else if K = 45 then .inl (cy 0, 40, .inl f) else if K = 56 then .inl (cy 0, 160, .inl f) else if K = 57 then .inl (cy 0, 2880, .inl f) else if K = 58 then .inl (cy 0, 2880, .inl f) else if K = 59 then .inl (cy 0, 18, .inl f) else if K = 60 then .inl (cy 0, 161, .inl f) else if K = 61 then .inl (cy 0, 161, .inl f) else if K = 62 then .inl (cy 0, 6, .inl f) else if K = 63 then .inl (cy 0, 750, .inl f) else if K = 64 then .inl (cy 0, 750, .inl f) else if K = 65 then .inl (cy 0, 150, .inl f) else if K = 66 then .inl (cy 1, 30, .inr (.inl g)) else if K = 67 then .inl (cy 0, 6, .inl f) else if K = 68 then .inl (cy 0, 6, .inl f) else if K = 69 then .inl (cy 3, 6, .inl f) else if K = 72 then .inl (cy 0, 6, .inl f) else if K = 73 then .inl (cy 0, 6, .inl f) else if K = 74 then .inl (cy 1, 6, .inr (.inl g)) else if K = 75 then .inl (cy 1, 6, .inr (.inl g)) else if K = 76 then .inl (cy 1, 8, .inr (.inl g)) else if K = 77 then .inl (cy 1, 5, .inr (.inl g)) else if K = 81 then .inl (cy 0, 40, .inl f) else if K = 82 then .inl (cy 0, 8, .inl f) else if K = 83 then .inl (cy 0, 4, .inl f) else if K = 84 then .inl (cy 0, 4, .inl f) else if K = 85 then .inl (cy 0, 160, .inl f) else if K = 86 then .inl (cy 0, 40, .inl f) else .inr (0, [])
theorem e1 (cy : Nat → ClassId) (B : Nat → Nat → Nat) (i : Nat) (f : Nat → Int32) (g : Nat → Int64) (r : Nat → Option Nat) : entL cy B 1 i f g r = .inr (7, fl1 B i f g r) := rfl
theorem e2 (cy : Nat → ClassId) (B : Nat → Nat → Nat) (i : Nat) (f : Nat → Int32) (g : Nat → Int64) (r : Nat → Option Nat) : entL cy B 2 i f g r = .inr (6, fl2 B i f g r) := rfl
theorem e3 (cy : Nat → ClassId) (B : Nat → Nat → Nat) (i : Nat) (f : Nat → Int32) (g : Nat → Int64) (r : Nat → Option Nat) : entL cy B 3 i f g r = .inl (cy 4, 8, .inr (.inr (.inr (.inr (fun j => (r j).map (B 20)))))) := rfl
theorem e4 (cy : Nat → ClassId) (B : Nat → Nat → Nat) (i : Nat) (f : Nat → Int32) (g : Nat → Int64) (r : Nat → Option Nat) : entL cy B 4 i f g r = .inl (cy 5, 6, .inr (.inr (.inr (.inr (fun j => (r j).map (B 30)))))) := rfl
theorem e5 (cy : Nat → ClassId) (B : Nat → Nat → Nat) (i : Nat) (f : Nat → Int32) (g : Nat → Int64) (r : Nat → Option Nat) : entL cy B 5 i f g r = .inl (cy 2, 160, .inl f) := rfl
theorem e6 (cy : Nat → ClassId) (B : Nat → Nat → Nat) (i : Nat) (f : Nat → Int32) (g : Nat → Int64) (r : Nat → Option Nat) : entL cy B 6 i f g r = .inl (cy 6, 4, .inr (.inr (.inr (.inr (fun j => some (B 24 j)))))) := rfl
theorem e7 (cy : Nat → ClassId) (B : Nat → Nat → Nat) (i : Nat) (f : Nat → Int32) (g : Nat → Int64) (r : Nat → Option Nat) : entL cy B 7 i f g r = .inl (cy 1, 8, .inr (.inl g)) := rfl
theorem e8 (cy : Nat → ClassId) (B : Nat → Nat → Nat) (i : Nat) (f : Nat → Int32) (g : Nat → Int64) (r : Nat → Option Nat) : entL cy B 8 i f g r = .inr (3, fl8 B i f g r) := rfl
theorem e9 (cy : Nat → ClassId) (B : Nat → Nat → Nat) (i : Nat) (f : Nat → Int32) (g : Nat → Int64) (r : Nat → Option Nat) : entL cy B 9 i f g r = .inl (cy 0, 160, .inl f) := rfl
theorem e10 (cy : Nat → ClassId) (B : Nat → Nat → Nat) (i : Nat) (f : Nat → Int32) (g : Nat → Int64) (r : Nat → Option Nat) : entL cy B 10 i f g r = .inr (0, fl10 B i f g r) := rfl
theorem e11 (cy : Nat → ClassId) (B : Nat → Nat → Nat) (i : Nat) (f : Nat → Int32) (g : Nat → Int64) (r : Nat → Option Nat) : entL cy B 11 i f g r = .inl (cy 2, 2700, .inl f) := rfl
theorem e12 (cy : Nat → ClassId) (B : Nat → Nat → Nat) (i : Nat) (f : Nat → Int32) (g : Nat → Int64) (r : Nat → Option Nat) : entL cy B 12 i f g r = .inl (cy 0, 6, .inl f) := rfl
theorem e13 (cy : Nat → ClassId) (B : Nat → Nat → Nat) (i : Nat) (f : Nat → Int32) (g : Nat → Int64) (r : Nat → Option Nat) : entL cy B 13 i f g r = .inl (cy 0, 160, .inl f) := rfl
theorem e14 (cy : Nat → ClassId) (B : Nat → Nat → Nat) (i : Nat) (f : Nat → Int32) (g : Nat → Int64) (r : Nat → Option Nat) : entL cy B 14 i f g r = .inl (cy 0, 4, .inl f) := rfl
theorem e16 (cy : Nat → ClassId) (B : Nat → Nat → Nat) (i : Nat) (f : Nat → Int32) (g : Nat → Int64) (r : Nat → Option Nat) : entL cy B 16 i f g r = .inr (1, fl16 B i f g r) := rfl
theorem e17 (cy : Nat → ClassId) (B : Nat → Nat → Nat) (i : Nat) (f : Nat → Int32) (g : Nat → Int64) (r : Nat → Option Nat) : entL cy B 17 i f g r = .inl (cy 7, 6, .inr (.inr (.inr (.inr (fun j => some (B 28 j)))))) := rfl
theorem e18 (cy : Nat → ClassId) (B : Nat → Nat → Nat) (i : Nat) (f : Nat → Int32) (g : Nat → Int64) (r : Nat → Option Nat) : entL cy B 18 i f g r = .inl (cy 0, 6, .inl f) := rfl
theorem e19 (cy : Nat → ClassId) (B : Nat → Nat → Nat) (i : Nat) (f : Nat → Int32) (g : Nat → Int64) (r : Nat → Option Nat) : entL cy B 19 i f g r = .inl (cy 0, 6, .inl f) := rfl
theorem e20 (cy : Nat → ClassId) (B : Nat → Nat → Nat) (i : Nat) (f : Nat → Int32) (g : Nat → Int64) (r : Nat → Option Nat) : entL cy B 20 i f g r = .inr (2, fl20 B i f g r) := rfl
theorem e21 (cy : Nat → ClassId) (B : Nat → Nat → Nat) (i : Nat) (f : Nat → Int32) (g : Nat → Int64) (r : Nat → Option Nat) : entL cy B 21 i f g r = .inl (cy 0, 5, .inl f) := rfl
theorem e22 (cy : Nat → ClassId) (B : Nat → Nat → Nat) (i : Nat) (f : Nat → Int32) (g : Nat → Int64) (r : Nat → Option Nat) : entL cy B 22 i f g r = .inl (cy 0, 5, .inl f) := rfl
theorem e24 (cy : Nat → ClassId) (B : Nat → Nat → Nat) (i : Nat) (f : Nat → Int32) (g : Nat → Int64) (r : Nat → Option Nat) : entL cy B 24 i f g r = .inr (4, fl24 B i f g r) := rfl
theorem e25 (cy : Nat → ClassId) (B : Nat → Nat → Nat) (i : Nat) (f : Nat → Int32) (g : Nat → Int64) (r : Nat → Option Nat) : entL cy B 25 i f g r = .inl (cy 0, 40, .inl f) := rfl
theorem e28 (cy : Nat → ClassId) (B : Nat → Nat → Nat) (i : Nat) (f : Nat → Int32) (g : Nat → Int64) (r : Nat → Option Nat) : entL cy B 28 i f g r = .inl (cy 1, 5, .inr (.inl g)) := rfl
theorem e30 (cy : Nat → ClassId) (B : Nat → Nat → Nat) (i : Nat) (f : Nat → Int32) (g : Nat → Int64) (r : Nat → Option Nat) : entL cy B 30 i f g r = .inr (5, fl30 B i f g r) := rfl
theorem e31 (cy : Nat → ClassId) (B : Nat → Nat → Nat) (i : Nat) (f : Nat → Int32) (g : Nat → Int64) (r : Nat → Option Nat) : entL cy B 31 i f g r = .inl (cy 0, (g 0).toInt.toNat, .inl f) := rfl
theorem e32 (cy : Nat → ClassId) (B : Nat → Nat → Nat) (i : Nat) (f : Nat → Int32) (g : Nat → Int64) (r : Nat → Option Nat) : entL cy B 32 i f g r = .inl (cy 0, 4, .inl f) := rfl
theorem e41 (cy : Nat → ClassId) (B : Nat → Nat → Nat) (i : Nat) (f : Nat → Int32) (g : Nat → Int64) (r : Nat → Option Nat) : entL cy B 41 i f g r = .inl (cy 0, 8, .inl f) := rfl
theorem e42 (cy : Nat → ClassId) (B : Nat → Nat → Nat) (i : Nat) (f : Nat → Int32) (g : Nat → Int64) (r : Nat → Option Nat) : entL cy B 42 i f g r = .inl (cy 0, 8, .inl f) := rfl
theorem e43 (cy : Nat → ClassId) (B : Nat → Nat → Nat) (i : Nat) (f : Nat → Int32) (g : Nat → Int64) (r : Nat → Option Nat) : entL cy B 43 i f g r = .inl (cy 0, 8, .inl f) := rfl
theorem e44 (cy : Nat → ClassId) (B : Nat → Nat → Nat) (i : Nat) (f : Nat → Int32) (g : Nat → Int64) (r : Nat → Option Nat) : entL cy B 44 i f g r = .inl (cy 0, 8, .inl f) := rfl
theorem e45 (cy : Nat → ClassId) (B : Nat → Nat → Nat) (i : Nat) (f : Nat → Int32) (g : Nat → Int64) (r : Nat → Option Nat) : entL cy B 45 i f g r = .inl (cy 0, 40, .inl f) := rfl
theorem e56 (cy : Nat → ClassId) (B : Nat → Nat → Nat) (i : Nat) (f : Nat → Int32) (g : Nat → Int64) (r : Nat → Option Nat) : entL cy B 56 i f g r = .inl (cy 0, 160, .inl f) := rfl
theorem e57 (cy : Nat → ClassId) (B : Nat → Nat → Nat) (i : Nat) (f : Nat → Int32) (g : Nat → Int64) (r : Nat → Option Nat) : entL cy B 57 i f g r = .inl (cy 0, 2880, .inl f) := rfl
theorem e58 (cy : Nat → ClassId) (B : Nat → Nat → Nat) (i : Nat) (f : Nat → Int32) (g : Nat → Int64) (r : Nat → Option Nat) : entL cy B 58 i f g r = .inl (cy 0, 2880, .inl f) := rfl
theorem e59 (cy : Nat → ClassId) (B : Nat → Nat → Nat) (i : Nat) (f : Nat → Int32) (g : Nat → Int64) (r : Nat → Option Nat) : entL cy B 59 i f g r = .inl (cy 0, 18, .inl f) := rfl
theorem e60 (cy : Nat → ClassId) (B : Nat → Nat → Nat) (i : Nat) (f : Nat → Int32) (g : Nat → Int64) (r : Nat → Option Nat) : entL cy B 60 i f g r = .inl (cy 0, 161, .inl f) := rfl
theorem e61 (cy : Nat → ClassId) (B : Nat → Nat → Nat) (i : Nat) (f : Nat → Int32) (g : Nat → Int64) (r : Nat → Option Nat) : entL cy B 61 i f g r = .inl (cy 0, 161, .inl f) := rfl
theorem e62 (cy : Nat → ClassId) (B : Nat → Nat → Nat) (i : Nat) (f : Nat → Int32) (g : Nat → Int64) (r : Nat → Option Nat) : entL cy B 62 i f g r = .inl (cy 0, 6, .inl f) := rfl
theorem e63 (cy : Nat → ClassId) (B : Nat → Nat → Nat) (i : Nat) (f : Nat → Int32) (g : Nat → Int64) (r : Nat → Option Nat) : entL cy B 63 i f g r = .inl (cy 0, 750, .inl f) := rfl
theorem e64 (cy : Nat → ClassId) (B : Nat → Nat → Nat) (i : Nat) (f : Nat → Int32) (g : Nat → Int64) (r : Nat → Option Nat) : entL cy B 64 i f g r = .inl (cy 0, 750, .inl f) := rfl
theorem e65 (cy : Nat → ClassId) (B : Nat → Nat → Nat) (i : Nat) (f : Nat → Int32) (g : Nat → Int64) (r : Nat → Option Nat) : entL cy B 65 i f g r = .inl (cy 0, 150, .inl f) := rfl
theorem e66 (cy : Nat → ClassId) (B : Nat → Nat → Nat) (i : Nat) (f : Nat → Int32) (g : Nat → Int64) (r : Nat → Option Nat) : entL cy B 66 i f g r = .inl (cy 1, 30, .inr (.inl g)) := rfl
theorem e67 (cy : Nat → ClassId) (B : Nat → Nat → Nat) (i : Nat) (f : Nat → Int32) (g : Nat → Int64) (r : Nat → Option Nat) : entL cy B 67 i f g r = .inl (cy 0, 6, .inl f) := rfl
theorem e68 (cy : Nat → ClassId) (B : Nat → Nat → Nat) (i : Nat) (f : Nat → Int32) (g : Nat → Int64) (r : Nat → Option Nat) : entL cy B 68 i f g r = .inl (cy 0, 6, .inl f) := rfl
theorem e69 (cy : Nat → ClassId) (B : Nat → Nat → Nat) (i : Nat) (f : Nat → Int32) (g : Nat → Int64) (r : Nat → Option Nat) : entL cy B 69 i f g r = .inl (cy 3, 6, .inl f) := rfl
theorem e72 (cy : Nat → ClassId) (B : Nat → Nat → Nat) (i : Nat) (f : Nat → Int32) (g : Nat → Int64) (r : Nat → Option Nat) : entL cy B 72 i f g r = .inl (cy 0, 6, .inl f) := rfl
theorem e73 (cy : Nat → ClassId) (B : Nat → Nat → Nat) (i : Nat) (f : Nat → Int32) (g : Nat → Int64) (r : Nat → Option Nat) : entL cy B 73 i f g r = .inl (cy 0, 6, .inl f) := rfl
theorem e74 (cy : Nat → ClassId) (B : Nat → Nat → Nat) (i : Nat) (f : Nat → Int32) (g : Nat → Int64) (r : Nat → Option Nat) : entL cy B 74 i f g r = .inl (cy 1, 6, .inr (.inl g)) := rfl
theorem e75 (cy : Nat → ClassId) (B : Nat → Nat → Nat) (i : Nat) (f : Nat → Int32) (g : Nat → Int64) (r : Nat → Option Nat) : entL cy B 75 i f g r = .inl (cy 1, 6, .inr (.inl g)) := rfl
theorem e76 (cy : Nat → ClassId) (B : Nat → Nat → Nat) (i : Nat) (f : Nat → Int32) (g : Nat → Int64) (r : Nat → Option Nat) : entL cy B 76 i f g r = .inl (cy 1, 8, .inr (.inl g)) := rfl
theorem e77 (cy : Nat → ClassId) (B : Nat → Nat → Nat) (i : Nat) (f : Nat → Int32) (g : Nat → Int64) (r : Nat → Option Nat) : entL cy B 77 i f g r = .inl (cy 1, 5, .inr (.inl g)) := rfl
theorem e81 (cy : Nat → ClassId) (B : Nat → Nat → Nat) (i : Nat) (f : Nat → Int32) (g : Nat → Int64) (r : Nat → Option Nat) : entL cy B 81 i f g r = .inl (cy 0, 40, .inl f) := rfl
theorem e82 (cy : Nat → ClassId) (B : Nat → Nat → Nat) (i : Nat) (f : Nat → Int32) (g : Nat → Int64) (r : Nat → Option Nat) : entL cy B 82 i f g r = .inl (cy 0, 8, .inl f) := rfl
theorem e83 (cy : Nat → ClassId) (B : Nat → Nat → Nat) (i : Nat) (f : Nat → Int32) (g : Nat → Int64) (r : Nat → Option Nat) : entL cy B 83 i f g r = .inl (cy 0, 4, .inl f) := rfl
theorem e84 (cy : Nat → ClassId) (B : Nat → Nat → Nat) (i : Nat) (f : Nat → Int32) (g : Nat → Int64) (r : Nat → Option Nat) : entL cy B 84 i f g r = .inl (cy 0, 4, .inl f) := rfl
theorem e85 (cy : Nat → ClassId) (B : Nat → Nat → Nat) (i : Nat) (f : Nat → Int32) (g : Nat → Int64) (r : Nat → Option Nat) : entL cy B 85 i f g r = .inl (cy 0, 160, .inl f) := rfl
theorem e86 (cy : Nat → ClassId) (B : Nat → Nat → Nat) (i : Nat) (f : Nat → Int32) (g : Nat → Int64) (r : Nat → Option Nat) : entL cy B 86 i f g r = .inl (cy 0, 40, .inl f) := rfl
theorem pu1_0 (B : Nat → Nat → Nat) (i : Nat) (f : Nat → Int32) (g : Nat → Int64) (r : Nat → Option Nat) (v : Int32) : fl1 B i (upd f 0 v) g r = (fl1 B i f g r).set 0 (.int v) := rfl
theorem pu1_6 (B : Nat → Nat → Nat) (i : Nat) (f : Nat → Int32) (g : Nat → Int64) (r : Nat → Option Nat) (v : Int32) : fl1 B i (upd f 6 v) g r = (fl1 B i f g r).set 6 (.int v) := rfl
theorem pu1_7 (B : Nat → Nat → Nat) (i : Nat) (f : Nat → Int32) (g : Nat → Int64) (r : Nat → Option Nat) (v : Int32) : fl1 B i (upd f 7 v) g r = (fl1 B i f g r).set 7 (.int v) := rfl
theorem pu1_8 (B : Nat → Nat → Nat) (i : Nat) (f : Nat → Int32) (g : Nat → Int64) (r : Nat → Option Nat) (v : Int32) : fl1 B i (upd f 8 v) g r = (fl1 B i f g r).set 8 (.int v) := rfl
theorem pu1_9 (B : Nat → Nat → Nat) (i : Nat) (f : Nat → Int32) (g : Nat → Int64) (r : Nat → Option Nat) (v : Int32) : fl1 B i (upd f 9 v) g r = (fl1 B i f g r).set 9 (.int v) := rfl
theorem pu1_10 (B : Nat → Nat → Nat) (i : Nat) (f : Nat → Int32) (g : Nat → Int64) (r : Nat → Option Nat) (v : Int32) : fl1 B i (upd f 10 v) g r = (fl1 B i f g r).set 10 (.int v) := rfl
theorem pu1_11 (B : Nat → Nat → Nat) (i : Nat) (f : Nat → Int32) (g : Nat → Int64) (r : Nat → Option Nat) (v : Int32) : fl1 B i (upd f 11 v) g r = (fl1 B i f g r).set 11 (.int v) := rfl
theorem pu1_12 (B : Nat → Nat → Nat) (i : Nat) (f : Nat → Int32) (g : Nat → Int64) (r : Nat → Option Nat) (v : Int32) : fl1 B i (upd f 12 v) g r = (fl1 B i f g r).set 12 (.int v) := rfl
theorem pu1_13 (B : Nat → Nat → Nat) (i : Nat) (f : Nat → Int32) (g : Nat → Int64) (r : Nat → Option Nat) (v : Int32) : fl1 B i (upd f 13 v) g r = (fl1 B i f g r).set 13 (.int v) := rfl
theorem pu1_14 (B : Nat → Nat → Nat) (i : Nat) (f : Nat → Int32) (g : Nat → Int64) (r : Nat → Option Nat) (v : Int32) : fl1 B i (upd f 14 v) g r = (fl1 B i f g r).set 14 (.int v) := rfl
theorem pu1_15 (B : Nat → Nat → Nat) (i : Nat) (f : Nat → Int32) (g : Nat → Int64) (r : Nat → Option Nat) (v : Int32) : fl1 B i (upd f 15 v) g r = (fl1 B i f g r).set 15 (.int v) := rfl
theorem pu1_30 (B : Nat → Nat → Nat) (i : Nat) (f : Nat → Int32) (g : Nat → Int64) (r : Nat → Option Nat) (v : Int32) : fl1 B i (upd f 30 v) g r = (fl1 B i f g r).set 30 (.int v) := rfl
theorem pu1_31 (B : Nat → Nat → Nat) (i : Nat) (f : Nat → Int32) (g : Nat → Int64) (r : Nat → Option Nat) (v : Int64) : fl1 B i f (vp_updL g 31 v) r = (fl1 B i f g r).set 31 (.long v) := rfl
theorem pu1_38 (B : Nat → Nat → Nat) (i : Nat) (f : Nat → Int32) (g : Nat → Int64) (r : Nat → Option Nat) (v : Int32) : fl1 B i (upd f 38 v) g r = (fl1 B i f g r).set 38 (.int v) := rfl
theorem pu1_39 (B : Nat → Nat → Nat) (i : Nat) (f : Nat → Int32) (g : Nat → Int64) (r : Nat → Option Nat) (v : Int32) : fl1 B i (upd f 39 v) g r = (fl1 B i f g r).set 39 (.int v) := rfl
theorem pu1_40 (B : Nat → Nat → Nat) (i : Nat) (f : Nat → Int32) (g : Nat → Int64) (r : Nat → Option Nat) (v : Int32) : fl1 B i (upd f 40 v) g r = (fl1 B i f g r).set 40 (.int v) := rfl
theorem pu2_1 (B : Nat → Nat → Nat) (i : Nat) (f : Nat → Int32) (g : Nat → Int64) (r : Nat → Option Nat) (v : Int32) : fl2 B i (upd f 1 v) g r = (fl2 B i f g r).set 1 (.int v) := rfl
theorem pu2_3 (B : Nat → Nat → Nat) (i : Nat) (f : Nat → Int32) (g : Nat → Int64) (r : Nat → Option Nat) (v : Int32) : fl2 B i (upd f 3 v) g r = (fl2 B i f g r).set 3 (.int v) := rfl
theorem pu2_4 (B : Nat → Nat → Nat) (i : Nat) (f : Nat → Int32) (g : Nat → Int64) (r : Nat → Option Nat) (v : Int32) : fl2 B i (upd f 4 v) g r = (fl2 B i f g r).set 4 (.int v) := rfl
theorem pu2_6 (B : Nat → Nat → Nat) (i : Nat) (f : Nat → Int32) (g : Nat → Int64) (r : Nat → Option Nat) (v : Int32) : fl2 B i (upd f 6 v) g r = (fl2 B i f g r).set 6 (.int v) := rfl
theorem pu2_12 (B : Nat → Nat → Nat) (i : Nat) (f : Nat → Int32) (g : Nat → Int64) (r : Nat → Option Nat) (v : Int32) : fl2 B i (upd f 12 v) g r = (fl2 B i f g r).set 12 (.int v) := rfl
theorem pu2_13 (B : Nat → Nat → Nat) (i : Nat) (f : Nat → Int32) (g : Nat → Int64) (r : Nat → Option Nat) (v : Int32) : fl2 B i (upd f 13 v) g r = (fl2 B i f g r).set 13 (.int v) := rfl
theorem pu2_14 (B : Nat → Nat → Nat) (i : Nat) (f : Nat → Int32) (g : Nat → Int64) (r : Nat → Option Nat) (v : Int32) : fl2 B i (upd f 14 v) g r = (fl2 B i f g r).set 14 (.int v) := rfl
theorem pu8_1 (B : Nat → Nat → Nat) (i : Nat) (f : Nat → Int32) (g : Nat → Int64) (r : Nat → Option Nat) (v : Int32) : fl8 B i (upd f 1 v) g r = (fl8 B i f g r).set 1 (.int v) := rfl
theorem pu8_2 (B : Nat → Nat → Nat) (i : Nat) (f : Nat → Int32) (g : Nat → Int64) (r : Nat → Option Nat) (v : Int32) : fl8 B i (upd f 2 v) g r = (fl8 B i f g r).set 2 (.int v) := rfl
theorem pu8_3 (B : Nat → Nat → Nat) (i : Nat) (f : Nat → Int32) (g : Nat → Int64) (r : Nat → Option Nat) (v : Int32) : fl8 B i (upd f 3 v) g r = (fl8 B i f g r).set 3 (.int v) := rfl
theorem pu8_4 (B : Nat → Nat → Nat) (i : Nat) (f : Nat → Int32) (g : Nat → Int64) (r : Nat → Option Nat) (v : Int32) : fl8 B i (upd f 4 v) g r = (fl8 B i f g r).set 4 (.int v) := rfl
theorem pu8_5 (B : Nat → Nat → Nat) (i : Nat) (f : Nat → Int32) (g : Nat → Int64) (r : Nat → Option Nat) (v : Int32) : fl8 B i (upd f 5 v) g r = (fl8 B i f g r).set 5 (.int v) := rfl
theorem pu8_6 (B : Nat → Nat → Nat) (i : Nat) (f : Nat → Int32) (g : Nat → Int64) (r : Nat → Option Nat) (v : Int32) : fl8 B i (upd f 6 v) g r = (fl8 B i f g r).set 6 (.int v) := rfl
theorem pu8_8 (B : Nat → Nat → Nat) (i : Nat) (f : Nat → Int32) (g : Nat → Int64) (r : Nat → Option Nat) (v : Int32) : fl8 B i (upd f 8 v) g r = (fl8 B i f g r).set 8 (.int v) := rfl
theorem pu10_0 (B : Nat → Nat → Nat) (i : Nat) (f : Nat → Int32) (g : Nat → Int64) (r : Nat → Option Nat) (v : Option Nat) : fl10 B i f g (va_up r 0 v) = (fl10 B i f g r).set 0 (va_rf (v.map (B 30))) := rfl
theorem pu10_1 (B : Nat → Nat → Nat) (i : Nat) (f : Nat → Int32) (g : Nat → Int64) (r : Nat → Option Nat) (v : Int32) : fl10 B i (upd f 1 v) g r = (fl10 B i f g r).set 1 (.int v) := rfl
theorem pu10_2 (B : Nat → Nat → Nat) (i : Nat) (f : Nat → Int32) (g : Nat → Int64) (r : Nat → Option Nat) (v : Int32) : fl10 B i (upd f 2 v) g r = (fl10 B i f g r).set 2 (.int v) := rfl
theorem pu16_4 (B : Nat → Nat → Nat) (i : Nat) (f : Nat → Int32) (g : Nat → Int64) (r : Nat → Option Nat) (v : Int32) : fl16 B i (upd f 4 v) g r = (fl16 B i f g r).set 4 (.int v) := rfl
theorem pu16_5 (B : Nat → Nat → Nat) (i : Nat) (f : Nat → Int32) (g : Nat → Int64) (r : Nat → Option Nat) (v : Int32) : fl16 B i (upd f 5 v) g r = (fl16 B i f g r).set 5 (.int v) := rfl
theorem pu16_6 (B : Nat → Nat → Nat) (i : Nat) (f : Nat → Int32) (g : Nat → Int64) (r : Nat → Option Nat) (v : Int32) : fl16 B i (upd f 6 v) g r = (fl16 B i f g r).set 6 (.int v) := rfl
theorem pu20_0 (B : Nat → Nat → Nat) (i : Nat) (f : Nat → Int32) (g : Nat → Int64) (r : Nat → Option Nat) (v : Int32) : fl20 B i (upd f 0 v) g r = (fl20 B i f g r).set 0 (.int v) := rfl
theorem pu20_1 (B : Nat → Nat → Nat) (i : Nat) (f : Nat → Int32) (g : Nat → Int64) (r : Nat → Option Nat) (v : Int32) : fl20 B i (upd f 1 v) g r = (fl20 B i f g r).set 1 (.int v) := rfl
theorem pu20_2 (B : Nat → Nat → Nat) (i : Nat) (f : Nat → Int32) (g : Nat → Int64) (r : Nat → Option Nat) (v : Int32) : fl20 B i (upd f 2 v) g r = (fl20 B i f g r).set 2 (.int v) := rfl
theorem pu20_3 (B : Nat → Nat → Nat) (i : Nat) (f : Nat → Int32) (g : Nat → Int64) (r : Nat → Option Nat) (v : Int32) : fl20 B i (upd f 3 v) g r = (fl20 B i f g r).set 3 (.int v) := rfl
theorem pu20_5 (B : Nat → Nat → Nat) (i : Nat) (f : Nat → Int32) (g : Nat → Int64) (r : Nat → Option Nat) (v : Int32) : fl20 B i (upd f 5 v) g r = (fl20 B i f g r).set 5 (.int v) := rfl
theorem pu24_0 (B : Nat → Nat → Nat) (i : Nat) (f : Nat → Int32) (g : Nat → Int64) (r : Nat → Option Nat) (v : Int32) : fl24 B i (upd f 0 v) g r = (fl24 B i f g r).set 0 (.int v) := rfl
theorem pu24_1 (B : Nat → Nat → Nat) (i : Nat) (f : Nat → Int32) (g : Nat → Int64) (r : Nat → Option Nat) (v : Int32) : fl24 B i (upd f 1 v) g r = (fl24 B i f g r).set 1 (.int v) := rfl
/-- the heap holds the abstract memory -/
def WH (G : GE) (B : Nat → Nat → Nat) (E : EN) (S : ST) (H : Heap) : Prop :=
  (∀ K i : Nat, i < cnt E K → va_at (gD G) vwCl (B K i, entL (gC G) B K i (S.1 K i) (S.2.1 K i) (S.2.2 K i)) H) ∧
  (∀ K i K' i' : Nat, i < cnt E K → i' < cnt E K' → B K i = B K' i' → K = K' ∧ i = i') ∧ ∀ K i : Nat, i < cnt E K → gB G ≤ B K i
theorem WH.one {G : GE} {B : Nat → Nat → Nat} {E : EN} {S : ST} {H : Heap} (h : WH G B E S H) {K i : Nat} (hd : i < cnt E K) : va_P (gD G) vwCl [(B K i, entL (gC G) B K i (S.1 K i) (S.2.1 K i) (S.2.2 K i))] H := fun k q hq => by
  match k, hq with
  | 0, hq => cases hq; exact h.1 K i hd
  | k + 1, hq => simp at hq
theorem WH.two {G : GE} {B : Nat → Nat → Nat} {E : EN} {S : ST} {H : Heap} (h : WH G B E S H) {K i K2 i2 : Nat} (hd : i < cnt E K) (hd2 : i2 < cnt E K2) : va_P (gD G) vwCl [(B K i, entL (gC G) B K i (S.1 K i) (S.2.1 K i) (S.2.2 K i)), (B K2 i2, entL (gC G) B K2 i2 (S.1 K2 i2) (S.2.1 K2 i2) (S.2.2 K2 i2))] H := fun k q hq => by
  match k, hq with
  | 0, hq => cases hq; exact h.1 K i hd
  | 1, hq => cases hq; exact h.1 K2 i2 hd2
  | k + 2, hq => simp at hq
/-- one cell is other than it was -/
theorem WH.up {G : GE} {B : Nat → Nat → Nat} {E : EN} {S S1 : ST} {H H1 : Heap} (h : WH G B E S H) {K i : Nat} (hd : i < cnt E K)
    (ho : ∀ K' i' : Nat, ¬ (K' = K ∧ i' = i) → S1.1 K' i' = S.1 K' i' ∧ S1.2.1 K' i' = S.2.1 K' i' ∧ S1.2.2 K' i' = S.2.2 K' i')
    (he : va_at (gD G) vwCl (B K i, entL (gC G) B K i (S1.1 K i) (S1.2.1 K i) (S1.2.2 K i)) H1) (oq : ∀ q : Nat, q ≠ B K i → H1[q]? = H[q]?) : WH G B E S1 H1 := by
  refine ⟨fun K' i' h' => ?_, fun K1 i1 K2 i2 h1 h2 e => h.2.1 K1 i1 K2 i2 h1 h2 e, fun K' i' h' => h.2.2 K' i' h'⟩
  by_cases e : K' = K ∧ i' = i
  · obtain ⟨rfl, rfl⟩ := e
    exact he
  · obtain ⟨e1, e2, e3⟩ := ho K' i' e
    rw [e1, e2, e3]
    exact (h.1 K' i' h').kept (oq _ (fun q => e (h.2.1 K' i' K i h' hd q)))
theorem aI_o {S : ST} {K i : Nat} {f : Nat → Int32} : ∀ K' i' : Nat, ¬ (K' = K ∧ i' = i) → (aI S K i f).1 K' i' = S.1 K' i' ∧ (aI S K i f).2.1 K' i' = S.2.1 K' i' ∧ (aI S K i f).2.2 K' i' = S.2.2 K' i' := fun _ _ h => ⟨ct_ne _ _ _ _ h, rfl, rfl⟩
theorem aL_o {S : ST} {K i : Nat} {f : Nat → Int64} : ∀ K' i' : Nat, ¬ (K' = K ∧ i' = i) → (aL S K i f).1 K' i' = S.1 K' i' ∧ (aL S K i f).2.1 K' i' = S.2.1 K' i' ∧ (aL S K i f).2.2 K' i' = S.2.2 K' i' := fun _ _ h => ⟨rfl, ct_ne _ _ _ _ h, rfl⟩
theorem aR_o {S : ST} {K i : Nat} {f : Nat → Option Nat} : ∀ K' i' : Nat, ¬ (K' = K ∧ i' = i) → (aR S K i f).1 K' i' = S.1 K' i' ∧ (aR S K i f).2.1 K' i' = S.2.1 K' i' ∧ (aR S K i f).2.2 K' i' = S.2.2 K' i' := fun _ _ h => ⟨rfl, rfl, ct_ne _ _ _ _ h⟩
section LAYER
variable {p : Program} {l : Launch} {e : Env} {R : Room} {s : State} {m : MethodId} {args : Array Value} {below : List Frame} {meth : Method} {c : Code} {H : Heap} {locs : List Loc} {cells slots : Nat} {Q : State → Prop}
variable {cc : ByteArray} {pc : Nat} {ls : Array Slot} {rest : List Value} {G : GE} {B : Nat → Nat → Nat} {E : EN} {S S1 : ST} {K i : Nat}
theorem x_get (hx : p.tables.exec = Jvm.exec) (hb : c.code = cc) {own ref C : String} {T : u_T} {N ci index : Nat} {Ts : List Cond} (hts : ∀ w ∈ Ts, w.before args s = true) (hin : ∀ w ∈ u_ws C T N, w ∈ Ts) (hown : s.vm.findClass own = some m.cls) (hK : va_K (gD G) vwCl (tyl G) s) (hW : WH G B E S H) (hd : i < cnt E K) {fs : List Value} (he : entL (gC G) B K i (S.1 K i) (S.2.1 K i) (S.2.2 K i) = .inr (ci, fs)) (hc : vwCl[ci]? = some (C, T, N)) (k : Nat) (hk : k < N) (hlink : (Cond.fieldLink own index ref (T k).2.1 (T k).2.2.1).before args s = true) (hsame : ∀ x, s.fieldFound? (T k).1 (T k).2.1 (T k).2.2.1 = some x → s.fieldFound? ref (T k).2.1 (T k).2.2.1 = some x) {v : Value} (hv : fs[k]? = some v) (hdg : decode cc pc = .ok (.getfield index, 3))
    (kk : W p l e R s m args below meth c H locs cells slots Q (F0 m (pc + 3) ls (v :: rest))) : W p l e R s m args below meth c H locs cells slots Q (F0 m pc ls (.ref (B K i) :: rest)) :=
  va_get hx hb hts hin hown hK (he ▸ hW.one hd) 0 rfl hc k hk hlink hsame hv hdg kk
theorem x_getN (hx : p.tables.exec = Jvm.exec) (hb : c.code = cc) {own ref C host : String} {T : u_T} {N ci index : Nat} {Ts : List Cond} (hts : ∀ w ∈ Ts, w.before args s = true) (hin : ∀ w ∈ u_ws C T N, w ∈ Ts) (hown : s.vm.findClass own = some m.cls) (hK : va_K (gD G) vwCl (tyl G) s) (hW : WH G B E S H) (hd : i < cnt E K) {fs : List Value} (he : entL (gC G) B K i (S.1 K i) (S.2.1 K i) (S.2.2 K i) = .inr (ci, fs)) (hc : vwCl[ci]? = some (C, T, N)) (k : Nat) (hk : k < N) (hlink : (Cond.fieldLinkNest own index ref (T k).2.1 (T k).2.2.1 host).before args s = true) (hsame : ∀ x, s.fieldFound? (T k).1 (T k).2.1 (T k).2.2.1 = some x → s.fieldFound? ref (T k).2.1 (T k).2.2.1 = some x) {v : Value} (hv : fs[k]? = some v) (hdg : decode cc pc = .ok (.getfield index, 3))
    (kk : W p l e R s m args below meth c H locs cells slots Q (F0 m (pc + 3) ls (v :: rest))) : W p l e R s m args below meth c H locs cells slots Q (F0 m pc ls (.ref (B K i) :: rest)) :=
  va_getN hx hb hts hin hown hK (he ▸ hW.one hd) 0 rfl hc k hk hlink hsame hv hdg kk
theorem x_put (hx : p.tables.exec = Jvm.exec) (hb : c.code = cc) {own ref C : String} {T : u_T} {N ci index : Nat} {Ts : List Cond} (hts : ∀ w ∈ Ts, w.before args s = true) (hin : ∀ w ∈ u_ws C T N, w ∈ Ts) (ty0 : Nat → FieldType) (hty : ∀ k, k < N → parseFieldDescriptor (T k).2.2.1 = some (ty0 k)) (hnm : ∀ a, a < N → ∀ b, b < N → a ≠ b → (T a).2.1 ≠ (T b).2.1) (hown : s.vm.findClass own = some m.cls) (hK : va_K (gD G) vwCl (tyl G) s) (hW : WH G B E S H) (hS : va_S (AA G) s.heap H locs) (hd : i < cnt E K) {fs : List Value} (he : entL (gC G) B K i (S.1 K i) (S.2.1 K i) (S.2.2 K i) = .inr (ci, fs)) (hc : vwCl[ci]? = some (C, T, N)) (k : Nat) (hk : k < N) (hlink : (Cond.fieldLink own index ref (T k).2.1 (T k).2.2.1).before args s = true) (hsame : ∀ x, s.fieldFound? (T k).1 (T k).2.1 (T k).2.2.1 = some x → s.fieldFound? ref (T k).2.1 (T k).2.2.1 = some x) (hfin : (T k).2.2.2 = false) {ty : FieldType} {v : Value} (hdd : parseFieldDescriptor (T k).2.2.1 = some ty) (hn : narrow ty v = v) (hfit : fits ty v = true) (hl : k < fs.length)
    (ho : ∀ K' i' : Nat, ¬ (K' = K ∧ i' = i) → S1.1 K' i' = S.1 K' i' ∧ S1.2.1 K' i' = S.2.1 K' i' ∧ S1.2.2 K' i' = S.2.2 K' i') (he1 : entL (gC G) B K i (S1.1 K i) (S1.2.1 K i) (S1.2.2 K i) = .inr (ci, fs.set k v))
    (hdg : decode cc pc = .ok (.putfield index, 3)) (kk : ∀ (H : Heap) (locs : List Loc), WH G B E S1 H → va_S (AA G) s.heap H locs → W p l e R s m args below meth c H locs cells slots Q (F0 m (pc + 3) ls rest)) : W p l e R s m args below meth c H locs cells slots Q (F0 m pc ls (v :: .ref (B K i) :: rest)) := by
  have hap := va_apart (own := own) hts hin ty0 hty hnm hK hc
  have hat := hW.1 K i hd
  rw [he] at hat
  obtain ⟨r, h1, cell, q1, q2, q3, q4⟩ := hat
  have hr : r = (C, T, N) := Option.some.inj (h1.symm.trans hc)
  subst hr
  obtain ⟨hS2, hfc, kC, hkC, hkind⟩ := hK.1 ci _ hc
  obtain ⟨cf, kf, fi, f, hi, hsl⟩ := hS2 k hk
  have hlay := hts _ (hin _ (u_in_lay hk))
  unfold u_lay at hlay
  rw [if_neg (by rw [hfin]; decide)] at hlay
  have hst := (u_facts hfc hkC (u_lays hts hin hk) hi).1
  have h6 := u_store hfc hkC hkind hlay hi hdd hn hfit
  refine W.putK hx hb (f := f) ⟨hown, hlink, ⟨_, _, _, hsame _ hi⟩, hst⟩ (by rw [q2]; exact h6) q1 q3 (by rw [hsl]; exact k2_hasslot (q4 k hk)) rfl rfl hdg fun H' e1 e2 e3 => ?_
  rw [hsl] at e1 ⊢
  refine kk H' _ (hW.up hd ho ?_ e3) (hS.put e2 e3 (hW.2.2 K i hd))
  rw [he1]
  exact ⟨_, hc, t_OB.to (V := updV (vp_V fs) k v) ⟨_, e1, q2, q3, t_set q4 hap hk v⟩ (fun j _ => vp_updV_set hl v j)⟩
theorem x_putI (hx : p.tables.exec = Jvm.exec) (hb : c.code = cc) {own ref C : String} {T : u_T} {N ci index : Nat} {Ts : List Cond} (hts : ∀ w ∈ Ts, w.before args s = true) (hin : ∀ w ∈ u_ws C T N, w ∈ Ts) (ty0 : Nat → FieldType) (hty : ∀ k, k < N → parseFieldDescriptor (T k).2.2.1 = some (ty0 k)) (hnm : ∀ a, a < N → ∀ b, b < N → a ≠ b → (T a).2.1 ≠ (T b).2.1) (hown : s.vm.findClass own = some m.cls) (hK : va_K (gD G) vwCl (tyl G) s) (hW : WH G B E S H) (hS : va_S (AA G) s.heap H locs) (hd : i < cnt E K) {fl : (Nat → Int32) → (Nat → Int64) → (Nat → Option Nat) → List Value} (he : ∀ f g r, entL (gC G) B K i f g r = .inr (ci, fl f g r)) (hc : vwCl[ci]? = some (C, T, N)) (k : Nat) (hk : k < N) (hlink : (Cond.fieldLink own index ref (T k).2.1 (T k).2.2.1).before args s = true) (hsame : ∀ x, s.fieldFound? (T k).1 (T k).2.1 (T k).2.2.1 = some x → s.fieldFound? ref (T k).2.1 (T k).2.2.1 = some x) (hfin : (T k).2.2.2 = false) {ty : FieldType} {v : Int32} (hdd : parseFieldDescriptor (T k).2.2.1 = some ty) (hn : narrow ty (.int v) = .int v) (hfit : fits ty (.int v) = true) (hl : k < (fl (S.1 K i) (S.2.1 K i) (S.2.2 K i)).length)
    (hpu : ∀ f g r (v : Int32), fl (upd f k v) g r = (fl f g r).set k (.int v)) (eS : S1 = sI S K i k v)
    (hdg : decode cc pc = .ok (.putfield index, 3)) (kk : ∀ (H : Heap) (locs : List Loc), WH G B E S1 H → va_S (AA G) s.heap H locs → W p l e R s m args below meth c H locs cells slots Q (F0 m (pc + 3) ls rest)) : W p l e R s m args below meth c H locs cells slots Q (F0 m pc ls (.int v :: .ref (B K i) :: rest)) := by
  subst eS
  refine x_put hx hb hts hin ty0 hty hnm hown hK hW hS hd (he _ _ _) hc k hk hlink hsame hfin hdd hn hfit hl (S1 := sI S K i k v) aI_o ?_ hdg kk
  show entL (gC G) B K i (ct S.1 K i (upd (S.1 K i) k v) K i) (S.2.1 K i) (S.2.2 K i) = _
  rw [ct_at, he, hpu]
theorem x_putL (hx : p.tables.exec = Jvm.exec) (hb : c.code = cc) {own ref C : String} {T : u_T} {N ci index : Nat} {Ts : List Cond} (hts : ∀ w ∈ Ts, w.before args s = true) (hin : ∀ w ∈ u_ws C T N, w ∈ Ts) (ty0 : Nat → FieldType) (hty : ∀ k, k < N → parseFieldDescriptor (T k).2.2.1 = some (ty0 k)) (hnm : ∀ a, a < N → ∀ b, b < N → a ≠ b → (T a).2.1 ≠ (T b).2.1) (hown : s.vm.findClass own = some m.cls) (hK : va_K (gD G) vwCl (tyl G) s) (hW : WH G B E S H) (hS : va_S (AA G) s.heap H locs) (hd : i < cnt E K) {fl : (Nat → Int32) → (Nat → Int64) → (Nat → Option Nat) → List Value} (he : ∀ f g r, entL (gC G) B K i f g r = .inr (ci, fl f g r)) (hc : vwCl[ci]? = some (C, T, N)) (k : Nat) (hk : k < N) (hlink : (Cond.fieldLink own index ref (T k).2.1 (T k).2.2.1).before args s = true) (hsame : ∀ x, s.fieldFound? (T k).1 (T k).2.1 (T k).2.2.1 = some x → s.fieldFound? ref (T k).2.1 (T k).2.2.1 = some x) (hfin : (T k).2.2.2 = false) {ty : FieldType} {v : Int64} (hdd : parseFieldDescriptor (T k).2.2.1 = some ty) (hn : narrow ty (.long v) = .long v) (hfit : fits ty (.long v) = true) (hl : k < (fl (S.1 K i) (S.2.1 K i) (S.2.2 K i)).length)
    (hpu : ∀ f g r (v : Int64), fl f (vp_updL g k v) r = (fl f g r).set k (.long v)) (eS : S1 = sL S K i k v)
    (hdg : decode cc pc = .ok (.putfield index, 3)) (kk : ∀ (H : Heap) (locs : List Loc), WH G B E S1 H → va_S (AA G) s.heap H locs → W p l e R s m args below meth c H locs cells slots Q (F0 m (pc + 3) ls rest)) : W p l e R s m args below meth c H locs cells slots Q (F0 m pc ls (.long v :: .ref (B K i) :: rest)) := by
  subst eS
  refine x_put hx hb hts hin ty0 hty hnm hown hK hW hS hd (he _ _ _) hc k hk hlink hsame hfin hdd hn hfit hl (S1 := sL S K i k v) aL_o ?_ hdg kk
  show entL (gC G) B K i (S.1 K i) (ct S.2.1 K i (vp_updL (S.2.1 K i) k v) K i) (S.2.2 K i) = _
  rw [ct_at, he, hpu]
theorem x_putR (hx : p.tables.exec = Jvm.exec) (hb : c.code = cc) {own ref C : String} {T : u_T} {N ci index : Nat} {Ts : List Cond} (hts : ∀ w ∈ Ts, w.before args s = true) (hin : ∀ w ∈ u_ws C T N, w ∈ Ts) (ty0 : Nat → FieldType) (hty : ∀ k, k < N → parseFieldDescriptor (T k).2.2.1 = some (ty0 k)) (hnm : ∀ a, a < N → ∀ b, b < N → a ≠ b → (T a).2.1 ≠ (T b).2.1) (hown : s.vm.findClass own = some m.cls) (hK : va_K (gD G) vwCl (tyl G) s) (hW : WH G B E S H) (hS : va_S (AA G) s.heap H locs) (hd : i < cnt E K) {fl : (Nat → Int32) → (Nat → Int64) → (Nat → Option Nat) → List Value} (he : ∀ f g r, entL (gC G) B K i f g r = .inr (ci, fl f g r)) (hc : vwCl[ci]? = some (C, T, N)) (k : Nat) (hk : k < N) (hlink : (Cond.fieldLink own index ref (T k).2.1 (T k).2.2.1).before args s = true) (hsame : ∀ x, s.fieldFound? (T k).1 (T k).2.1 (T k).2.2.1 = some x → s.fieldFound? ref (T k).2.1 (T k).2.2.1 = some x) (hfin : (T k).2.2.2 = false) {ty : FieldType} {v : Option Nat} {K2 : Nat} (hdd : parseFieldDescriptor (T k).2.2.1 = some ty) (hn : narrow ty (va_rf (v.map (B K2))) = va_rf (v.map (B K2))) (hfit : fits ty (va_rf (v.map (B K2))) = true) (hl : k < (fl (S.1 K i) (S.2.1 K i) (S.2.2 K i)).length)
    (hpu : ∀ f g r (v : Option Nat), fl f g (va_up r k v) = (fl f g r).set k (va_rf (v.map (B K2)))) (eS : S1 = sR S K i k v)
    (hdg : decode cc pc = .ok (.putfield index, 3)) (kk : ∀ (H : Heap) (locs : List Loc), WH G B E S1 H → va_S (AA G) s.heap H locs → W p l e R s m args below meth c H locs cells slots Q (F0 m (pc + 3) ls rest)) : W p l e R s m args below meth c H locs cells slots Q (F0 m pc ls (va_rf (v.map (B K2)) :: .ref (B K i) :: rest)) := by
  subst eS
  refine x_put hx hb hts hin ty0 hty hnm hown hK hW hS hd (he _ _ _) hc k hk hlink hsame hfin hdd hn hfit hl (S1 := sR S K i k v) aR_o ?_ hdg kk
  show entL (gC G) B K i (S.1 K i) (S.2.1 K i) (ct S.2.2 K i (va_up (S.2.2 K i) k v) K i) = _
  rw [ct_at, he, hpu]
theorem x_putN (hx : p.tables.exec = Jvm.exec) (hb : c.code = cc) {own ref C host : String} {T : u_T} {N ci index : Nat} {Ts : List Cond} (hts : ∀ w ∈ Ts, w.before args s = true) (hin : ∀ w ∈ u_ws C T N, w ∈ Ts) (ty0 : Nat → FieldType) (hty : ∀ k, k < N → parseFieldDescriptor (T k).2.2.1 = some (ty0 k)) (hnm : ∀ a, a < N → ∀ b, b < N → a ≠ b → (T a).2.1 ≠ (T b).2.1) (hown : s.vm.findClass own = some m.cls) (hK : va_K (gD G) vwCl (tyl G) s) (hW : WH G B E S H) (hS : va_S (AA G) s.heap H locs) (hd : i < cnt E K) {fs : List Value} (he : entL (gC G) B K i (S.1 K i) (S.2.1 K i) (S.2.2 K i) = .inr (ci, fs)) (hc : vwCl[ci]? = some (C, T, N)) (k : Nat) (hk : k < N) (hlink : (Cond.fieldLinkNest own index ref (T k).2.1 (T k).2.2.1 host).before args s = true) (hsame : ∀ x, s.fieldFound? (T k).1 (T k).2.1 (T k).2.2.1 = some x → s.fieldFound? ref (T k).2.1 (T k).2.2.1 = some x) (hfin : (T k).2.2.2 = false) {ty : FieldType} {v : Value} (hdd : parseFieldDescriptor (T k).2.2.1 = some ty) (hn : narrow ty v = v) (hfit : fits ty v = true) (hl : k < fs.length)
    (ho : ∀ K' i' : Nat, ¬ (K' = K ∧ i' = i) → S1.1 K' i' = S.1 K' i' ∧ S1.2.1 K' i' = S.2.1 K' i' ∧ S1.2.2 K' i' = S.2.2 K' i') (he1 : entL (gC G) B K i (S1.1 K i) (S1.2.1 K i) (S1.2.2 K i) = .inr (ci, fs.set k v))
    (hdg : decode cc pc = .ok (.putfield index, 3)) (kk : ∀ (H : Heap) (locs : List Loc), WH G B E S1 H → va_S (AA G) s.heap H locs → W p l e R s m args below meth c H locs cells slots Q (F0 m (pc + 3) ls rest)) : W p l e R s m args below meth c H locs cells slots Q (F0 m pc ls (v :: .ref (B K i) :: rest)) := by
  have hap := va_apart (own := own) hts hin ty0 hty hnm hK hc
  have hat := hW.1 K i hd
  rw [he] at hat
  obtain ⟨r, h1, cell, q1, q2, q3, q4⟩ := hat
  have hr : r = (C, T, N) := Option.some.inj (h1.symm.trans hc)
  subst hr
  obtain ⟨hS2, hfc, kC, hkC, hkind⟩ := hK.1 ci _ hc
  obtain ⟨cf, kf, fi, f, hi, hsl⟩ := hS2 k hk
  have hlay := hts _ (hin _ (u_in_lay hk))
  unfold u_lay at hlay
  rw [if_neg (by rw [hfin]; decide)] at hlay
  have hst := (u_facts hfc hkC (u_lays hts hin hk) hi).1
  have h6 := u_store hfc hkC hkind hlay hi hdd hn hfit
  refine va_WputK hx hb (f := f) hown hlink (hsame _ hi) hst (by rw [q2]; exact h6) q1 q3 (by rw [hsl]; exact k2_hasslot (q4 k hk)) rfl rfl hdg fun H' e1 e2 e3 => ?_
  rw [hsl] at e1 ⊢
  refine kk H' _ (hW.up hd ho ?_ e3) (hS.put e2 e3 (hW.2.2 K i hd))
  rw [he1]
  exact ⟨_, hc, t_OB.to (V := updV (vp_V fs) k v) ⟨_, e1, q2, q3, t_set q4 hap hk v⟩ (fun j _ => vp_updV_set hl v j)⟩
theorem x_putIN (hx : p.tables.exec = Jvm.exec) (hb : c.code = cc) {own ref C host : String} {T : u_T} {N ci index : Nat} {Ts : List Cond} (hts : ∀ w ∈ Ts, w.before args s = true) (hin : ∀ w ∈ u_ws C T N, w ∈ Ts) (ty0 : Nat → FieldType) (hty : ∀ k, k < N → parseFieldDescriptor (T k).2.2.1 = some (ty0 k)) (hnm : ∀ a, a < N → ∀ b, b < N → a ≠ b → (T a).2.1 ≠ (T b).2.1) (hown : s.vm.findClass own = some m.cls) (hK : va_K (gD G) vwCl (tyl G) s) (hW : WH G B E S H) (hS : va_S (AA G) s.heap H locs) (hd : i < cnt E K) {fl : (Nat → Int32) → (Nat → Int64) → (Nat → Option Nat) → List Value} (he : ∀ f g r, entL (gC G) B K i f g r = .inr (ci, fl f g r)) (hc : vwCl[ci]? = some (C, T, N)) (k : Nat) (hk : k < N) (hlink : (Cond.fieldLinkNest own index ref (T k).2.1 (T k).2.2.1 host).before args s = true) (hsame : ∀ x, s.fieldFound? (T k).1 (T k).2.1 (T k).2.2.1 = some x → s.fieldFound? ref (T k).2.1 (T k).2.2.1 = some x) (hfin : (T k).2.2.2 = false) {ty : FieldType} {v : Int32} (hdd : parseFieldDescriptor (T k).2.2.1 = some ty) (hn : narrow ty (.int v) = .int v) (hfit : fits ty (.int v) = true) (hl : k < (fl (S.1 K i) (S.2.1 K i) (S.2.2 K i)).length)
    (hpu : ∀ f g r (v : Int32), fl (upd f k v) g r = (fl f g r).set k (.int v)) (eS : S1 = sI S K i k v)
    (hdg : decode cc pc = .ok (.putfield index, 3)) (kk : ∀ (H : Heap) (locs : List Loc), WH G B E S1 H → va_S (AA G) s.heap H locs → W p l e R s m args below meth c H locs cells slots Q (F0 m (pc + 3) ls rest)) : W p l e R s m args below meth c H locs cells slots Q (F0 m pc ls (.int v :: .ref (B K i) :: rest)) := by
  subst eS
  refine x_putN hx hb hts hin ty0 hty hnm hown hK hW hS hd (he _ _ _) hc k hk hlink hsame hfin hdd hn hfit hl (S1 := sI S K i k v) aI_o ?_ hdg kk
  show entL (gC G) B K i (ct S.1 K i (upd (S.1 K i) k v) K i) (S.2.1 K i) (S.2.2 K i) = _
  rw [ct_at, he, hpu]
theorem x_iald (hx : p.tables.exec = Jvm.exec) (hb : c.code = cc) (hK : va_K (gD G) vwCl (tyl G) s) (hW : WH G B E S H) (hd : i < cnt E K) {n : Nat} (he : entL (gC G) B K i (S.1 K i) (S.2.1 K i) (S.2.2 K i) = .inl (gC G 0, n, .inl (S.1 K i))) {j : Int32} (hin : vp_in j n) {jn : Nat} (hj : j.toNatClampNeg = jn) (hdg : decode cc pc = .ok (.iaload, 1))
    (kk : W p l e R s m args below meth c H locs cells slots Q (F0 m (pc + 1) ls (.int (gI S K i jn) :: rest))) : W p l e R s m args below meth c H locs cells slots Q (F0 m pc ls (.int j :: .ref (B K i) :: rest)) := by
  subst hj
  exact va_iald hx hb hK (he ▸ hW.one hd) 0 0 rfl rfl hin hdg kk
theorem x_bald (hx : p.tables.exec = Jvm.exec) (hb : c.code = cc) (hK : va_K (gD G) vwCl (tyl G) s) (hW : WH G B E S H) (hd : i < cnt E K) {n : Nat} (he : entL (gC G) B K i (S.1 K i) (S.2.1 K i) (S.2.2 K i) = .inl (gC G 2, n, .inl (S.1 K i))) {j : Int32} (hin : vp_in j n) {jn : Nat} (hj : j.toNatClampNeg = jn) (hdg : decode cc pc = .ok (.baload, 1))
    (kk : W p l e R s m args below meth c H locs cells slots Q (F0 m (pc + 1) ls (.int (gI S K i jn) :: rest))) : W p l e R s m args below meth c H locs cells slots Q (F0 m pc ls (.int j :: .ref (B K i) :: rest)) := by
  subst hj
  exact va_bald hx hb hK (he ▸ hW.one hd) 0 2 rfl rfl hin hdg kk
theorem x_zald (hx : p.tables.exec = Jvm.exec) (hb : c.code = cc) (hK : va_K (gD G) vwCl (tyl G) s) (hW : WH G B E S H) (hd : i < cnt E K) {n : Nat} (he : entL (gC G) B K i (S.1 K i) (S.2.1 K i) (S.2.2 K i) = .inl (gC G 3, n, .inl (S.1 K i))) {j : Int32} (hin : vp_in j n) {jn : Nat} (hj : j.toNatClampNeg = jn) (hdg : decode cc pc = .ok (.baload, 1))
    (kk : W p l e R s m args below meth c H locs cells slots Q (F0 m (pc + 1) ls (.int (gI S K i jn) :: rest))) : W p l e R s m args below meth c H locs cells slots Q (F0 m pc ls (.int j :: .ref (B K i) :: rest)) := by
  subst hj
  exact va_zald hx hb hK (he ▸ hW.one hd) 0 3 rfl rfl hin hdg kk
theorem x_lald (hx : p.tables.exec = Jvm.exec) (hb : c.code = cc) (hK : va_K (gD G) vwCl (tyl G) s) (hW : WH G B E S H) (hd : i < cnt E K) {n : Nat} (he : entL (gC G) B K i (S.1 K i) (S.2.1 K i) (S.2.2 K i) = .inl (gC G 1, n, .inr (.inl (S.2.1 K i)))) {j : Int32} (hin : vp_in j n) {jn : Nat} (hj : j.toNatClampNeg = jn) (hdg : decode cc pc = .ok (.laload, 1))
    (kk : W p l e R s m args below meth c H locs cells slots Q (F0 m (pc + 1) ls (.long (gL S K i jn) :: rest))) : W p l e R s m args below meth c H locs cells slots Q (F0 m pc ls (.int j :: .ref (B K i) :: rest)) := by
  subst hj
  exact va_lald hx hb hK (he ▸ hW.one hd) 0 1 rfl rfl hin hdg kk
/-- a row of references: what stands at j -/
theorem x_aald (hx : p.tables.exec = Jvm.exec) (hb : c.code = cc) (hK : va_K (gD G) vwCl (tyl G) s) (hW : WH G B E S H) (hd : i < cnt E K) {n t : Nat} {ty : FieldType} {f : Nat → Option Nat} (ht : (tyl G)[t]? = some (gC G t, ty)) (hr : ty.isReference = true) (he : entL (gC G) B K i (S.1 K i) (S.2.1 K i) (S.2.2 K i) = .inl (gC G t, n, .inr (.inr (.inr (.inr f))))) {j : Int32} (hin : vp_in j n) (hdg : decode cc pc = .ok (.aaload, 1))
    (kk : W p l e R s m args below meth c H locs cells slots Q (F0 m (pc + 1) ls (va_rf (f j.toNatClampNeg) :: rest))) : W p l e R s m args below meth c H locs cells slots Q (F0 m pc ls (.int j :: .ref (B K i) :: rest)) := by
  have hlt : j.toNatClampNeg < n := Nat.not_le.mp fun q => hin (Or.inr q)
  have hat := hW.1 K i hd
  rw [he] at hat
  exact W.aald (v := va_rf (f j.toNatClampNeg)) (ty := ty) hx hb hat ((hK.2 t _ ht).1 n (fun j => va_rf (f j))) hr (fun q => by cases q) (by show ¬ (j < 0 ∨ (arrV _ _ _).slots.size ≤ _); rw [arrV_size]; exact hin) (by show (arrV _ _ _).slots[_]? = _; rw [arrV_read _ _ hlt]) rfl rfl hdg kk
theorem x_aaldF (hx : p.tables.exec = Jvm.exec) (hb : c.code = cc) (hK : va_K (gD G) vwCl (tyl G) s) (hW : WH G B E S H) (hd : i < cnt E K) {n t K2 : Nat} {ty : FieldType} (ht : (tyl G)[t]? = some (gC G t, ty)) (hr : ty.isReference = true) (he : entL (gC G) B K i (S.1 K i) (S.2.1 K i) (S.2.2 K i) = .inl (gC G t, n, .inr (.inr (.inr (.inr (fun j => some (B K2 j))))))) {j : Int32} (hin : vp_in j n) {jn : Nat} (hj : j.toNatClampNeg = jn) (hdg : decode cc pc = .ok (.aaload, 1))
    (kk : W p l e R s m args below meth c H locs cells slots Q (F0 m (pc + 1) ls (.ref (B K2 jn) :: rest))) : W p l e R s m args below meth c H locs cells slots Q (F0 m pc ls (.int j :: .ref (B K i) :: rest)) := by
  subst hj
  exact x_aald hx hb hK hW hd ht hr he hin hdg kk
theorem x_aaldN (hx : p.tables.exec = Jvm.exec) (hb : c.code = cc) (hK : va_K (gD G) vwCl (tyl G) s) (hW : WH G B E S H) (hd : i < cnt E K) {n t K2 : Nat} {ty : FieldType} (ht : (tyl G)[t]? = some (gC G t, ty)) (hr : ty.isReference = true) (he : entL (gC G) B K i (S.1 K i) (S.2.1 K i) (S.2.2 K i) = .inl (gC G t, n, .inr (.inr (.inr (.inr (fun j => (S.2.2 K i j).map (B K2))))))) {j : Int32} (hin : vp_in j n) {jn : Nat} (hj : j.toNatClampNeg = jn) (hdg : decode cc pc = .ok (.aaload, 1))
    (kk : W p l e R s m args below meth c H locs cells slots Q (F0 m (pc + 1) ls (va_rf (Option.map (B K2) (gR S K i jn)) :: rest))) : W p l e R s m args below meth c H locs cells slots Q (F0 m pc ls (.int j :: .ref (B K i) :: rest)) := by
  subst hj
  exact x_aald hx hb hK hW hd ht hr he hin hdg kk
theorem x_nmI {x y : Int32} (h : y = x) (k : W p l e R s m args below meth c H locs cells slots Q (F0 m pc ls (.int y :: rest))) : W p l e R s m args below meth c H locs cells slots Q (F0 m pc ls (.int x :: rest)) := by subst h; exact k
theorem x_nmL {x y : Int64} (h : y = x) (k : W p l e R s m args below meth c H locs cells slots Q (F0 m pc ls (.long y :: rest))) : W p l e R s m args below meth c H locs cells slots Q (F0 m pc ls (.long x :: rest)) := by subst h; exact k
theorem x_nmN {x y : Option Nat} {K : Nat} (h : y = x) (k : W p l e R s m args below meth c H locs cells slots Q (F0 m pc ls (va_rf (Option.map (B K) y) :: rest))) : W p l e R s m args below meth c H locs cells slots Q (F0 m pc ls (va_rf (Option.map (B K) x) :: rest)) := by subst h; exact k
theorem x_irem (hx : p.tables.exec = Jvm.exec) (hb : c.code = cc) {x y : Int32} (hdg : decode cc pc = .ok (.irem, 1)) (hne : ¬ y = 0) (k : W p l e R s m args below meth c H locs cells slots Q (F0 m (pc + 1) ls (.int (rmI x y) :: rest))) : W p l e R s m args below meth c H locs cells slots Q (F0 m pc ls (.int y :: .int x :: rest)) := lv_irem hx hb hdg hne k
theorem x_lrem (hx : p.tables.exec = Jvm.exec) (hb : c.code = cc) {x y : Int64} (hdg : decode cc pc = .ok (.lrem, 1)) (hne : ¬ y = 0) (k : W p l e R s m args below meth c H locs cells slots Q (F0 m (pc + 1) ls (.long (rmL x y) :: rest))) : W p l e R s m args below meth c H locs cells slots Q (F0 m pc ls (.long y :: .long x :: rest)) := lv_lrem hx hb hdg hne k
theorem x_alen (hx : p.tables.exec = Jvm.exec) (hb : c.code = cc) (hK : va_K (gD G) vwCl (tyl G) s) (hW : WH G B E S H) (hd : i < cnt E K) {t : Nat} {ty : FieldType} {a : vp_A} (ht : (tyl G)[t]? = some (gC G t, ty)) (he : entL (gC G) B K i (S.1 K i) (S.2.1 K i) (S.2.2 K i) = .inl (gC G t, a)) {v : Int32} (hv : Int32.ofNat a.1 = v) (hdg : decode cc pc = .ok (.arraylength, 1))
    (kk : W p l e R s m args below meth c H locs cells slots Q (F0 m (pc + 1) ls (.int v :: rest))) : W p l e R s m args below meth c H locs cells slots Q (F0 m pc ls (.ref (B K i) :: rest)) :=
  va_alen hx hb hK (he ▸ hW.one hd) 0 t rfl ht hv hdg kk
theorem x_iast (hx : p.tables.exec = Jvm.exec) (hb : c.code = cc) (hK : va_K (gD G) vwCl (tyl G) s) (hW : WH G B E S H) (hS : va_S (AA G) s.heap H locs) (hd : i < cnt E K) {n : Nat} (he : ∀ f r, entL (gC G) B K i f (S.2.1 K i) r = .inl (gC G 0, n, .inl f)) {j x : Int32} (hin : vp_in j n) {jn : Nat} (hj : j.toNatClampNeg = jn) (eS : S1 = sI S K i jn x) (hdg : decode cc pc = .ok (.iastore, 1))
    (kk : ∀ (H : Heap) (locs : List Loc), WH G B E S1 H → va_S (AA G) s.heap H locs → W p l e R s m args below meth c H locs cells slots Q (F0 m (pc + 1) ls rest)) : W p l e R s m args below meth c H locs cells slots Q (F0 m pc ls (.int x :: .int j :: .ref (B K i) :: rest)) := by
  subst hj
  subst eS
  have hat := hW.1 K i hd
  rw [he] at hat
  refine W.iast hx hb hat ((hK.2 0 _ rfl).1 n (fun j => .int (S.1 K i j))) (fun q => by cases q) (by show ¬ (j < 0 ∨ (arrV _ _ _).slots.size ≤ _); rw [arrV_size]; exact hin) rfl rfl hdg fun H1 e1 z oq => ?_
  refine kk H1 _ (hW.up hd aI_o ?_ oq) (hS.put z oq (hW.2.2 K i hd))
  show va_at (gD G) vwCl (B K i, entL (gC G) B K i (ct S.1 K i (upd (S.1 K i) j.toNatClampNeg x) K i) (S.2.1 K i) (S.2.2 K i)) H1
  rw [ct_at, he]
  show H1[B K i]? = some (vp_cell _ _)
  rw [e1]
  rw [vp_cell_i, vp_cell_i, arrV_store]
  congr 2
  funext q
  by_cases hq : q = j.toNatClampNeg
  · subst hq
    simp [updV, upd]
  · simp [updV, upd, hq]
theorem x_bast (hx : p.tables.exec = Jvm.exec) (hb : c.code = cc) (hK : va_K (gD G) vwCl (tyl G) s) (hW : WH G B E S H) (hS : va_S (AA G) s.heap H locs) (hd : i < cnt E K) {n : Nat} (he : ∀ f r, entL (gC G) B K i f (S.2.1 K i) r = .inl (gC G 2, n, .inl f)) {j x : Int32} (hin : vp_in j n) {jn : Nat} (hj : j.toNatClampNeg = jn) (eS : S1 = sI S K i jn x.toInt8.toInt32) (hdg : decode cc pc = .ok (.bastore, 1))
    (kk : ∀ (H : Heap) (locs : List Loc), WH G B E S1 H → va_S (AA G) s.heap H locs → W p l e R s m args below meth c H locs cells slots Q (F0 m (pc + 1) ls rest)) : W p l e R s m args below meth c H locs cells slots Q (F0 m pc ls (.int x :: .int j :: .ref (B K i) :: rest)) := by
  subst hj
  subst eS
  have hat := hW.1 K i hd
  rw [he] at hat
  refine W.bast hx hb hat ((hK.2 2 _ rfl).1 n (fun j => .int (S.1 K i j))) (fun q => by cases q) (by show ¬ (j < 0 ∨ (arrV _ _ _).slots.size ≤ _); rw [arrV_size]; exact hin) rfl rfl hdg fun H1 e1 z oq => ?_
  refine kk H1 _ (hW.up hd aI_o ?_ oq) (hS.put z oq (hW.2.2 K i hd))
  show va_at (gD G) vwCl (B K i, entL (gC G) B K i (ct S.1 K i (upd (S.1 K i) j.toNatClampNeg x.toInt8.toInt32) K i) (S.2.1 K i) (S.2.2 K i)) H1
  rw [ct_at, he]
  show H1[B K i]? = some (vp_cell _ _)
  rw [e1]
  rw [vp_cell_i, vp_cell_i, arrV_store]
  congr 2
  funext q
  by_cases hq : q = j.toNatClampNeg
  · subst hq
    simp [updV, upd, narrow_byte]
  · simp [updV, upd, hq]
theorem x_zast (hx : p.tables.exec = Jvm.exec) (hb : c.code = cc) (hK : va_K (gD G) vwCl (tyl G) s) (hW : WH G B E S H) (hS : va_S (AA G) s.heap H locs) (hd : i < cnt E K) {n : Nat} (he : ∀ f r, entL (gC G) B K i f (S.2.1 K i) r = .inl (gC G 3, n, .inl f)) {j x : Int32} (hin : vp_in j n) {jn : Nat} (hj : j.toNatClampNeg = jn) (eS : S1 = sI S K i jn (vp_nar .boolean x)) (hdg : decode cc pc = .ok (.bastore, 1))
    (kk : ∀ (H : Heap) (locs : List Loc), WH G B E S1 H → va_S (AA G) s.heap H locs → W p l e R s m args below meth c H locs cells slots Q (F0 m (pc + 1) ls rest)) : W p l e R s m args below meth c H locs cells slots Q (F0 m pc ls (.int x :: .int j :: .ref (B K i) :: rest)) := by
  subst hj
  subst eS
  have hat := hW.1 K i hd
  rw [he] at hat
  refine W.zast hx hb hat ((hK.2 3 _ rfl).1 n (fun j => .int (S.1 K i j))) (fun q => by cases q) (by show ¬ (j < 0 ∨ (arrV _ _ _).slots.size ≤ _); rw [arrV_size]; exact hin) rfl rfl hdg fun H1 e1 z oq => ?_
  refine kk H1 _ (hW.up hd aI_o ?_ oq) (hS.put z oq (hW.2.2 K i hd))
  show va_at (gD G) vwCl (B K i, entL (gC G) B K i (ct S.1 K i (upd (S.1 K i) j.toNatClampNeg (vp_nar .boolean x)) K i) (S.2.1 K i) (S.2.2 K i)) H1
  rw [ct_at, he]
  show H1[B K i]? = some (vp_cell _ _)
  rw [e1]
  rw [vp_cell_i, vp_cell_i, arrV_store]
  congr 2
  funext q
  by_cases hq : q = j.toNatClampNeg
  · subst hq
    simp [updV, upd, vp_nar, narrow]
  · simp [updV, upd, hq]
theorem x_last (hx : p.tables.exec = Jvm.exec) (hb : c.code = cc) (hK : va_K (gD G) vwCl (tyl G) s) (hW : WH G B E S H) (hS : va_S (AA G) s.heap H locs) (hd : i < cnt E K) {n : Nat} (he : ∀ g, entL (gC G) B K i (S.1 K i) g (S.2.2 K i) = .inl (gC G 1, n, .inr (.inl g))) {j : Int32} {x : Int64} (hin : vp_in j n) {jn : Nat} (hj : j.toNatClampNeg = jn) (eS : S1 = sL S K i jn x) (hdg : decode cc pc = .ok (.lastore, 1))
    (kk : ∀ (H : Heap) (locs : List Loc), WH G B E S1 H → va_S (AA G) s.heap H locs → W p l e R s m args below meth c H locs cells slots Q (F0 m (pc + 1) ls rest)) : W p l e R s m args below meth c H locs cells slots Q (F0 m pc ls (.long x :: .int j :: .ref (B K i) :: rest)) := by
  subst hj
  subst eS
  have hat := hW.1 K i hd
  rw [he] at hat
  refine W.last hx hb hat ((hK.2 1 _ rfl).1 n (fun j => .long (S.2.1 K i j))) (fun q => by cases q) (by show ¬ (j < 0 ∨ (arrV _ _ _).slots.size ≤ _); rw [arrV_size]; exact hin) rfl rfl hdg fun H1 e1 z oq => ?_
  refine kk H1 _ (hW.up hd aL_o ?_ oq) (hS.put z oq (hW.2.2 K i hd))
  show va_at (gD G) vwCl (B K i, entL (gC G) B K i (S.1 K i) (ct S.2.1 K i (vp_updL (S.2.1 K i) j.toNatClampNeg x) K i) (S.2.2 K i)) H1
  rw [ct_at, he]
  show H1[B K i]? = some (vp_cell _ _)
  rw [e1]
  rw [vp_cell_l, vp_cell_l, arrV_store]
  congr 2
  funext q
  by_cases hq : q = j.toNatClampNeg
  · subst hq
    simp [updV, vp_updL]
  · simp [updV, vp_updL, hq]
end LAYER
def tx0 : String := "learn 5 - ( class - step ) * ( class - step ) * 2 ; right 8 - class * 2 + step * 2 ; end step * 10 ;"
def tx1 : String := "learn right end or and not step class week sort moved left "
def txLen : List Nat := [100, 59]
def txByt : List (List Int32) := [[108, 101, 97, 114, 110, 32, 53, 32, 45, 32, 40, 32, 99, 108, 97, 115, 115, 32, 45, 32, 115, 116, 101, 112, 32, 41, 32, 42, 32, 40, 32, 99, 108, 97, 115, 115, 32, 45, 32, 115, 116, 101, 112, 32, 41, 32, 42, 32, 50, 32, 59, 32, 114, 105, 103, 104, 116, 32, 56, 32, 45, 32, 99, 108, 97, 115, 115, 32, 42, 32, 50, 32, 43, 32, 115, 116, 101, 112, 32, 42, 32, 50, 32, 59, 32, 101, 110, 100, 32, 115, 116, 101, 112, 32, 42, 32, 49, 48, 32, 59], [108, 101, 97, 114, 110, 32, 114, 105, 103, 104, 116, 32, 101, 110, 100, 32, 111, 114, 32, 97, 110, 100, 32, 110, 111, 116, 32, 115, 116, 101, 112, 32, 99, 108, 97, 115, 115, 32, 119, 101, 101, 107, 32, 115, 111, 114, 116, 32, 109, 111, 118, 101, 100, 32, 108, 101, 102, 116, 32]]
def tl_ (j : Nat) : Int32 := nI (txLen.getD j 0)
def tx_ (j k : Nat) : Int32 := (txByt.getD j []).getD k 0 &&& 255
def tb_ (j k : Nat) : Int32 := (txByt.getD j []).getD k 0
def ch_ (x : Int32) : Int32 := (x.toUInt32 % 65536).toInt32
def ochar_ (x : Int32) : Bool := decide (ch_ x = x)
def obyte_ (x : Int32) : Bool := decide (x.toInt8.toInt32 = x)
theorem ochar_n {x : Int32} (h : ochar_ x = true) : narrow .char (.int x) = .int x := by
  have e := of_decide_eq_true h
  rw [← e]
  exact pk_nc x
theorem obyte_n {x : Int32} (h : obyte_ x = true) : narrow .byte (.int x) = .int x := by
  have e := of_decide_eq_true h
  rw [narrow_byte, e]
theorem zq_o {C n d : String} {A : Nat → Prop} {U : State} {H : Heap} (h : va_Zq C n d A U H) : ∃ o : Option Nat, va_Z C n d (va_rf o) A U H := by
  rcases h with h | ⟨t, h⟩
  · exact ⟨none, h⟩
  · exact ⟨some t, h⟩
/-- the links inside a nest -/
def nestF : List (String × Nat × String × String × String × String) := [("MovesUp", 205, "MovesUp$Row", "sort", "I", "MovesUp"), ("MovesUp", 206, "MovesUp$Row", "size", "I", "MovesUp"), ("MovesUp", 209, "MovesUp$Row", "items", "[I", "MovesUp"), ("MovesUp$Chances", 57, "MovesUp$Text", "code", "[I", "MovesUp"), ("MovesUp$Chances", 52, "MovesUp$Text", "starts", "[I", "MovesUp"), ("MovesUp", 119, "MovesUp$Pupil", "kind", "I", "MovesUp"), ("MovesUp", 125, "MovesUp$Pupil", "sort", "I", "MovesUp"), ("MovesUp", 128, "MovesUp$Pupil", "number", "I", "MovesUp"), ("MovesUp", 122, "MovesUp$Pupil", "itsClass", "I", "MovesUp"), ("MovesUp", 115, "MovesUp$Pupil", "weights", "[I", "MovesUp")]
def nestM : List (String × Nat × String × String × String × String) := [("MovesUp", 46, "MovesUp$Reader", "<init>", "([B)V", "MovesUp"), ("MovesUp", 55, "MovesUp$Chances", "<init>", "()V", "MovesUp"), ("MovesUp", 62, "MovesUp$Course", "<init>", "(LMovesUp$Chances;)V", "MovesUp"), ("MovesUp", 83, "MovesUp$Row", "<init>", "()V", "MovesUp"), ("MovesUp", 96, "MovesUp$Reader", "read", "(I)I", "MovesUp"), ("MovesUp", 100, "MovesUp$Reader", "made", "()LMovesUp$Text;", "MovesUp"), ("MovesUp$Reader", 73, "MovesUp$Text", "<init>", "([I[I)V", "MovesUp"), ("MovesUp", 104, "MovesUp$Pupil", "<init>", "(IIII)V", "MovesUp"), ("MovesUp", 112, "MovesUp$Pupil", "together", "()I", "MovesUp"), ("MovesUp", 131, "MovesUp$Chances", "rely", "(LMovesUp$Text;II)V", "MovesUp"), ("MovesUp", 135, "MovesUp$Chances", "asks", "(IIIII)I", "MovesUp"), ("MovesUp", 278, "MovesUp$Course", "begin", "([IIII)V", "MovesUp"), ("MovesUp", 282, "MovesUp$Course", "follow", "(II)V", "MovesUp"), ("MovesUp$Course", 76, "MovesUp$Chances", "asks", "(IIIII)I", "MovesUp"), ("MovesUp$Course", 84, "MovesUp", "held", "(I)I", "MovesUp"), ("MovesUp", 152, "MovesUp$Course", "weightsAt", "(I)[J", "MovesUp"), ("MovesUp", 156, "MovesUp$Course", "together", "(I)J", "MovesUp"), ("MovesUp", 163, "MovesUp$Course", "classThen", "(I)I", "MovesUp"), ("MovesUp", 166, "MovesUp$Course", "movedThen", "(I)I", "MovesUp"), ("MovesUp", 169, "MovesUp$Course", "wish", "(I)I", "MovesUp"), ("MovesUp", 176, "MovesUp$Course", "fit", "(I)J", "MovesUp"), ("MovesUp", 183, "MovesUp$Course", "ends", "(I)J", "MovesUp"), ("MovesUp", 186, "MovesUp$Course", "rights", "(I)J", "MovesUp"), ("MovesUp", 189, "MovesUp$Course", "best", "(I)J", "MovesUp"), ("MovesUp", 212, "MovesUp$Course", "share", "(I)J", "MovesUp"), ("MovesUp", 220, "MovesUp$Pupil", "takes", "([J)Z", "MovesUp"), ("MovesUp$Pupil", 34, "MovesUp", "common", "(JJ)J", "MovesUp"), ("MovesUp", 224, "MovesUp$Row", "within", "(I)Z", "MovesUp"), ("MovesUp", 231, "MovesUp$Row", "squares", "(I)I", "MovesUp"), ("MovesUp", 234, "MovesUp$Pupil", "keep", "()V", "MovesUp"), ("MovesUp", 237, "MovesUp$Pupil", "lay", "()V", "MovesUp"), ("MovesUp", 246, "MovesUp$Row", "becomes", "(II)V", "MovesUp"), ("MovesUp", 250, "MovesUp$Row", "cutDown", "(I)I", "MovesUp")]
def NW (U : State) : Prop := (∀ q ∈ nestF, va_Nw (.fieldLinkNest q.1 q.2.1 q.2.2.1 q.2.2.2.1 q.2.2.2.2.1 q.2.2.2.2.2) U) ∧ (∀ q ∈ nestM, va_Nw (.methodLinkNest q.1 q.2.1 ⟨q.2.2.1, q.2.2.2.1, q.2.2.2.2.1⟩ q.2.2.2.2.2) U) ∧ va_AO "MovesUp$Pupil" U ∧ va_AO "MovesUp$Text" U ∧ va_AO "MovesUp$Row" U ∧ va_Nw (.castable "[I" "java/lang/Cloneable") U ∧ (Cond.arrayOver (.array .long)).before #[] U = true
theorem NW.f {U : State} (h : NW U) {A : Array Value} (k : Nat) {q : String × Nat × String × String × String × String} (hk : nestF[k]? = some q) : (Cond.fieldLinkNest q.1 q.2.1 q.2.2.1 q.2.2.2.1 q.2.2.2.2.1 q.2.2.2.2.2).before A U = true := va_Nw.use rfl (h.1 q (List.mem_of_getElem? hk))
theorem NW.m {U : State} (h : NW U) (k : Nat) {q : String × Nat × String × String × String × String} (hk : nestM[k]? = some q) : va_Nw (.methodLinkNest q.1 q.2.1 ⟨q.2.2.1, q.2.2.2.1, q.2.2.2.2.1⟩ q.2.2.2.2.2) U := h.2.1 q (List.mem_of_getElem? hk)
theorem aol_moved {u U : State} (hvm : u.vm.Alike U.vm) (h : (Cond.arrayOver (.array .long)).before #[] u = true) : (Cond.arrayOver (.array .long)).before #[] U = true := by
  obtain ⟨comp, cA, kA, a1, a2, a3, a4, a5⟩ := arrayOverA_spec h
  obtain ⟨kB, b1, b2⟩ := hvm.2.2 _ _ a3
  have a6 : (U.vm.classes.findIdx? fun (x : Class) => match x.kind with | .array component _ => component == comp | _ => false) = some cA := by
    rw [hvm.findIdx?_eq _ (fun _ => rfl)]
    exact a2
  have a7 : kB.kind = .array comp (.array .long) := by rw [b2]; exact a4
  have g1 : U.vm.findClass (FieldType.array .long).toString = some comp := by rw [hvm.findClass]; exact a1
  have g2 : U.vm.findClass ("[" ++ (FieldType.array .long).toString) = some cA := by rw [hvm.findClass]; exact a5
  unfold Cond.before Cond.holds
  simp only [Cond.value]
  rw [g1, Option.bind_some]
  refine (congrArg (fun o : Option Nat => (o.bind (fun c => (U.vm.classes[c]?).map fun (k : Class) => match k.kind with | .array _ ty => decide (ty = FieldType.array .long) && decide (U.vm.findClass ("[" ++ (FieldType.array .long).toString) = some c) | _ => false) == some true)) a6).trans ?_
  simp [b1, a7, g2]
theorem NW.warm {s U : State} (hW : s.WarmedH U.vm) (h : NW s) : NW U := ⟨fun q hq => va_Nw.warmF hW (h.1 q hq), fun q hq => va_Nw.warmM hW (h.2.1 q hq), va_AO.moved hW.alike h.2.2.1, va_AO.moved hW.alike h.2.2.2.1, va_AO.moved hW.alike h.2.2.2.2.1, va_Nw.warmC hW h.2.2.2.2.2.1, aol_moved hW.alike h.2.2.2.2.2.2⟩
/-- what stands outside the system: the row PARENTS, the two texts, the JDK's COMPACT_STRINGS -/
def SW (G : GE) (U : State) (H : Heap) : Prop :=
  va_Z "MovesUp" "PARENTS" "[I" (.ref (gP G)) (AA G) U H ∧ va_T .int (gP G) 6 (fun j => .int (([-1, 0, 0, 0, 1, 3] : List Int32).getD j 0)) (AA G) U H ∧
  va_Z "java/lang/String" "COMPACT_STRINGS" "Z" (.int 1) (AA G) U H ∧ va_Zq "jdk/internal/util/Preconditions" "SIOOBE_FORMATTER" "Ljava/util/function/BiFunction;" (AA G) U H ∧ vk_S 2 txLen txByt (gK G) (gV G) (AA G) U H
def SR (G : GE) (U : State) : Prop := vk_R "MovesUp" 84 tx0 (gK G 0) U ∧ vk_R "MovesUp$Reader" 122 tx1 (gK G 1) U
theorem SW.moved {G : GE} {u U : State} {H : Heap} (hvm : u.vm.Alike U.vm) (h : SW G u H) : SW G U H := ⟨h.1.moved hvm, h.2.1.moved hvm, h.2.2.1.moved hvm, h.2.2.2.1.moved hvm, h.2.2.2.2.moved hvm⟩
theorem SW.kept {G : GE} {U : State} {H H1 : Heap} (h : SW G U H) (hq : ∀ a : Nat, a < H.size → ¬ AA G a → H1[a]? = H[a]?) : SW G U H1 := ⟨h.1.kept hq, h.2.1.kept hq, h.2.2.1.kept hq, h.2.2.2.1.kept hq, h.2.2.2.2.kept hq⟩
theorem SR.warm {G : GE} {s U : State} (hW : s.WarmedH U.vm) (h : SR G s) : SR G U := ⟨h.1.warm hW, h.2.warm hW⟩
/-- what is fixed: the tables' classes, the links, what stands outside -/
def WF (G : GE) (U : State) : Prop := va_K (gD G) vwCl (tyl G) U ∧ NW U ∧ SW G U U.heap ∧ SR G U
/-- a state that holds the abstract memory -/
def WS (G : GE) (B : Nat → Nat → Nat) (E : EN) (S : ST) (U : State) : Prop := WH G B E S U.heap ∧ WF G U
theorem WF.call {G : GE} {s U : State} {H : Heap} {locs : List Loc} (h : WF G s) (hS : va_S (AA G) s.heap H locs) (hU : U.heap = H) (hW : s.WarmedH U.vm) : WF G U := by
  refine ⟨h.1.moved hW.alike, h.2.1.warm hW, ?_, h.2.2.2.warm hW⟩
  rw [hU]
  exact (h.2.2.1.moved hW.alike).kept hS.2.1
theorem WS.call {G : GE} {B : Nat → Nat → Nat} {E : EN} {S : ST} {s U : State} {H : Heap} {locs : List Loc} (h : WF G s) (hH : WH G B E S H) (hS : va_S (AA G) s.heap H locs) (hU : U.heap = H) (hW : s.WarmedH U.vm) : WS G B E S U := ⟨by rw [hU]; exact hH, h.call hS hU hW⟩
theorem WS.blind {G : GE} {B : Nat → Nat → Nat} {E : EN} {S : ST} {av : List Value} : FrameBlind (va_Pc av (WS G B E S)) := fun a U g mk q => by
  obtain ⟨q0, q1, q2, q3, q4, q5⟩ := q
  have hw : U.WarmedH (U.calling g mk a).vm := State.WarmedH.refl U
  exact ⟨q0, q1, q2.moved (Vm.Alike.refl U.vm), q3.warm hw, q4.moved (Vm.Alike.refl U.vm), q5.warm hw⟩
abbrev rmN (n : Nat) : Room := { frames := n, cells := 0, slots := 0, locals := 60 * n }
abbrev QI (G : GE) (B : Nat → Nat → Nat) (E : EN) (S : ST) (r : Int32) : Array Value → State → Outcome → State → Prop := va_Qi (fun (r2 : Int32) (_ : Unit) => r2 = r) (fun _ t => WS G B E S t) (AA G)
abbrev QL (G : GE) (B : Nat → Nat → Nat) (E : EN) (S : ST) (r : Int64) : Array Value → State → Outcome → State → Prop := va_Ql (fun (r2 : Int64) (_ : Unit) => r2 = r) (fun _ t => WS G B E S t) (AA G)
abbrev QV (G : GE) (B : Nat → Nat → Nat) (E : EN) (S : ST) : Array Value → State → Outcome → State → Prop := va_Qv (fun (_ : Unit) => True) (fun _ t => WS G B E S t) (AA G)
abbrev QQ (G : GE) (B : Nat → Nat → Nat) (E : EN) (S : ST) (r : Option Nat) : Array Value → State → Outcome → State → Prop := va_Qq (fun (r2 : Option Nat) (_ : Unit) => r2 = r) (fun _ t => WS G B E S t) (AA G)
section LAYER2
variable {p : Program} {l : Launch} {e : Env} {R : Room} {s : State} {m : MethodId} {args : Array Value} {below : List Frame} {meth : Method} {c : Code} {H : Heap} {locs : List Loc} {cells slots : Nat} {Q : State → Prop}
variable {cc : ByteArray} {pc : Nat} {ls : Array Slot} {rest st0 : List Value} {a : Array Value} {G : GE} {B : Nat → Nat → Nat} {E : EN} {S S1 : ST} {K i : Nat}
theorem y_i {r : Int32} (hr : va_Run p l e R s m args below meth c H locs cells slots 0 0 (F0 m pc ls st0) rest (QI G B E S r a) (AA G)) (hS : va_S (AA G) s.heap H locs)
    (kk : ∀ (H : Heap) (locs : List Loc), WH G B E S H → va_S (AA G) s.heap H locs → W p l e R s m args below meth c H locs cells slots Q (F0 m (pc + 3) ls (.int r :: rest))) : W p l e R s m args below meth c H locs cells slots Q (F0 m pc ls st0) :=
  va_calli hr hS (fun _ _ h => h) (fun _ h => h) (fun r2 _ t H1 locs1 ht _ hw hB _ _ hS1 => by subst hw; exact kk H1 locs1 (ht ▸ hB.1) hS1)
theorem y_l {r : Int64} (hr : va_Run p l e R s m args below meth c H locs cells slots 0 0 (F0 m pc ls st0) rest (QL G B E S r a) (AA G)) (hS : va_S (AA G) s.heap H locs)
    (kk : ∀ (H : Heap) (locs : List Loc), WH G B E S H → va_S (AA G) s.heap H locs → W p l e R s m args below meth c H locs cells slots Q (F0 m (pc + 3) ls (.long r :: rest))) : W p l e R s m args below meth c H locs cells slots Q (F0 m pc ls st0) :=
  va_calll hr hS (fun _ _ h => h) (fun _ h => h) (fun r2 _ t H1 locs1 ht _ hw hB _ _ hS1 => by subst hw; exact kk H1 locs1 (ht ▸ hB.1) hS1)
theorem y_v (hr : va_Run p l e R s m args below meth c H locs cells slots 0 0 (F0 m pc ls st0) rest (QV G B E S a) (AA G)) (hS : va_S (AA G) s.heap H locs)
    (kk : ∀ (H : Heap) (locs : List Loc), WH G B E S H → va_S (AA G) s.heap H locs → W p l e R s m args below meth c H locs cells slots Q (F0 m (pc + 3) ls rest)) : W p l e R s m args below meth c H locs cells slots Q (F0 m pc ls st0) :=
  va_callv hr hS (fun _ _ h => h) (fun _ h => h) (fun _ t H1 locs1 ht _ _ hB _ _ hS1 => kk H1 locs1 (ht ▸ hB.1) hS1)
theorem y_q {r : Option Nat} (hr : va_Run p l e R s m args below meth c H locs cells slots 0 0 (F0 m pc ls st0) rest (QQ G B E S r a) (AA G)) (hS : va_S (AA G) s.heap H locs)
    (kk : ∀ (H : Heap) (locs : List Loc), WH G B E S H → va_S (AA G) s.heap H locs → W p l e R s m args below meth c H locs cells slots Q (F0 m (pc + 3) ls (va_rf r :: rest))) : W p l e R s m args below meth c H locs cells slots Q (F0 m pc ls st0) :=
  va_callq hr hS (fun _ _ h => h) (fun _ h => h) (fun r2 _ t H1 locs1 ht _ hw hB _ _ hS1 => by subst hw; exact kk H1 locs1 (ht ▸ hB.1) hS1)
theorem y_pv (hF : WF G s) (hW : WH G B E S H) (hS : va_S (AA G) s.heap H locs) (hd : i < cnt E K) {ci N : Nat} {C : String} {T : u_T} {fs : List Value} (he : entL (gC G) B K i (S.1 K i) (S.2.1 K i) (S.2.2 K i) = .inr (ci, fs)) (hc : vwCl[ci]? = some (C, T, N)) {As : List Value} : PreV s H C (B K i) (va_Pc (.ref (B K i) :: As) (WS G B E S)) As :=
  ⟨WS.blind, va_recv hF.1 (hW.one hd) hc (q0 := 0) (by rw [he]; rfl), fun _ hU hw => ⟨rfl, hF.call hS hU hw |> fun h => ⟨by rw [hU]; exact hW, h⟩⟩⟩
theorem y_ps (hF : WF G s) (hW : WH G B E S H) (hS : va_S (AA G) s.heap H locs) {As : List Value} : PreS s H (va_Pc As (WS G B E S)) As :=
  ⟨WS.blind, fun _ hU hw => ⟨rfl, WS.call hF hW hS hU hw⟩⟩
theorem y_ri {r : Int32} (hF : WF G s) (hW : WH G B E S H) (hS : va_S (AA G) s.heap H locs) : ∀ t : State, t.heap = H → s.WarmedH t.vm → QI G B E S r args s (.returned (some (.int r))) t := fun _ ht hw => ⟨⟨r, (), rfl, rfl, WS.call hF hW hS ht hw⟩, hS.F ht⟩
theorem y_rl {r : Int64} (hF : WF G s) (hW : WH G B E S H) (hS : va_S (AA G) s.heap H locs) : ∀ t : State, t.heap = H → s.WarmedH t.vm → QL G B E S r args s (.returned (some (.long r))) t := fun _ ht hw => ⟨⟨r, (), rfl, rfl, WS.call hF hW hS ht hw⟩, hS.F ht⟩
theorem y_rv (hF : WF G s) (hW : WH G B E S H) (hS : va_S (AA G) s.heap H locs) : ∀ t : State, t.heap = H → s.WarmedH t.vm → QV G B E S args s (.returned none) t := fun _ ht hw => ⟨⟨(), rfl, trivial, WS.call hF hW hS ht hw⟩, hS.F ht⟩
theorem y_rq {r : Option Nat} (hF : WF G s) (hW : WH G B E S H) (hS : va_S (AA G) s.heap H locs) : ∀ t : State, t.heap = H → s.WarmedH t.vm → QQ G B E S r args s (.returned (some (va_rf r))) t := fun _ ht hw => ⟨⟨r, (), rfl, rfl, WS.call hF hW hS ht hw⟩, hS.F ht⟩
theorem y_pstr (hF : WF G s) (hW : WH G B E S H) (hS : va_S (AA G) s.heap H locs) (j : Nat) (hj : j < 2) {As : List Value} : PreV s H "java/lang/String" (gK G j) (va_Pc (.ref (gK G j) :: As) (WS G B E S)) As :=
  ⟨WS.blind, vk_recv hF.2.2.1.2.2.2.2 hj hS, fun _ hU hw => ⟨rfl, WS.call hF hW hS hU hw⟩⟩
theorem z_i {v r : Int32} {S1 S2 : ST} {ty : FieldType} (hf : some (v, S1) = some (r, S2)) (hx : p.tables.exec = Jvm.exec) (hb : c.code = cc) (hr : meth.sig.returnType = some ty) (hn : narrow ty (.int v) = .int v) (hF : WF G s) (hW : WH G B E S1 H) (hS : va_S (AA G) s.heap H locs) (hdg : decode cc pc = .ok (.ireturn, 1)) (hlocks : meth.locks = false) : W p l e R s m args below meth c H locs cells slots (MQ below (QI G B E S2 r) args s cells slots (AA G)) (F0 m pc ls [.int v]) := by
  cases hf
  exact W.zret hx hb hr hn (y_ri hF hW hS) hS.2.2 hdg hlocks
theorem zr_i {v r : Int32} {ty : FieldType} (hf : some v = some r) (hx : p.tables.exec = Jvm.exec) (hb : c.code = cc) (hr : meth.sig.returnType = some ty) (hn : narrow ty (.int v) = .int v) (hF : WF G s) (hW : WH G B E S H) (hS : va_S (AA G) s.heap H locs) (hdg : decode cc pc = .ok (.ireturn, 1)) (hlocks : meth.locks = false) : W p l e R s m args below meth c H locs cells slots (MQ below (QI G B E S r) args s cells slots (AA G)) (F0 m pc ls [.int v]) := by
  cases hf
  exact W.zret hx hb hr hn (y_ri hF hW hS) hS.2.2 hdg hlocks
theorem z_l {v r : Int64} {S1 S2 : ST} (hf : some (v, S1) = some (r, S2)) (hx : p.tables.exec = Jvm.exec) (hb : c.code = cc) (hr : meth.sig.returnType = some .long) (hF : WF G s) (hW : WH G B E S1 H) (hS : va_S (AA G) s.heap H locs) (hdg : decode cc pc = .ok (.lreturn, 1)) (hlocks : meth.locks = false) : W p l e R s m args below meth c H locs cells slots (MQ below (QL G B E S2 r) args s cells slots (AA G)) (F0 m pc ls [.long v]) := by
  cases hf
  exact W.lret hx hb hr (y_rl hF hW hS) hS.2.2 hdg hlocks
theorem zr_l {v r : Int64} (hf : some v = some r) (hx : p.tables.exec = Jvm.exec) (hb : c.code = cc) (hr : meth.sig.returnType = some .long) (hF : WF G s) (hW : WH G B E S H) (hS : va_S (AA G) s.heap H locs) (hdg : decode cc pc = .ok (.lreturn, 1)) (hlocks : meth.locks = false) : W p l e R s m args below meth c H locs cells slots (MQ below (QL G B E S r) args s cells slots (AA G)) (F0 m pc ls [.long v]) := by
  cases hf
  exact W.lret hx hb hr (y_rl hF hW hS) hS.2.2 hdg hlocks
theorem z_v {S1 S2 : ST} (hf : some S1 = some S2) (hx : p.tables.exec = Jvm.exec) (hb : c.code = cc) (hr : meth.sig.returnType = none) (hF : WF G s) (hW : WH G B E S1 H) (hS : va_S (AA G) s.heap H locs) (hdg : decode cc pc = .ok (.return_, 1)) (hlocks : meth.locks = false) : W p l e R s m args below meth c H locs cells slots (MQ below (QV G B E S2) args s cells slots (AA G)) (F0 m pc ls []) := by
  cases hf
  exact W.vret hx hb hr (y_rv hF hW hS) hS.2.2 hdg hlocks
theorem zr_v {r : Unit} (hf : some () = some r) (hx : p.tables.exec = Jvm.exec) (hb : c.code = cc) (hr : meth.sig.returnType = none) (hF : WF G s) (hW : WH G B E S H) (hS : va_S (AA G) s.heap H locs) (hdg : decode cc pc = .ok (.return_, 1)) (hlocks : meth.locks = false) : W p l e R s m args below meth c H locs cells slots (MQ below (QV G B E S) args s cells slots (AA G)) (F0 m pc ls []) := W.vret hx hb hr (y_rv hF hW hS) hS.2.2 hdg hlocks
theorem zr_q {o r : Option Nat} {rt : FieldType} {K : Nat} (hf : some o = some r) (hx : p.tables.exec = Jvm.exec) (hb : c.code = cc) (hr : meth.sig.returnType = some rt) (hrt : (∃ n, rt = .object n) ∨ ∃ t, rt = .array t) (hF : WF G s) (hW : WH G B E S H) (hS : va_S (AA G) s.heap H locs) (hdg : decode cc pc = .ok (.areturn, 1)) (hlocks : meth.locks = false) : W p l e R s m args below meth c H locs cells slots (MQ below (QQ G B E S (Option.map (B K) r)) args s cells slots (AA G)) (F0 m pc ls [va_rf (Option.map (B K) o)]) := by
  cases hf
  exact W.aret hx hb hr hrt (va_rf_or _) (y_rq hF hW hS) hS.2.2 hdg hlocks
theorem rm_grp {n : Nat} {L : Nat} (h : L ≤ n) {k : Nat} (hk : k ≤ L) : k ≤ n := Nat.le_trans hk h
end LAYER2
/-! ## all cells in a row: for what moves more than one element -/
def allc (E : EN) : List (Nat × Nat) := (List.range 90).flatMap fun K => (List.range (cnt E K)).map fun i => (K, i)
theorem cnt_90 {E : EN} {K : Nat} (h : ¬ K < 90) : cnt E K = 0 := by
  unfold cnt
  have h1 : one_kinds.contains K = false := by
    rw [Bool.eq_false_iff]
    intro q
    have := List.contains_iff_mem.mp q
    simp [one_kinds] at this
    omega
  have h2 : mdl_kinds.contains K = false := by
    rw [Bool.eq_false_iff]
    intro q
    have := List.contains_iff_mem.mp q
    simp [mdl_kinds] at this
    omega
  rw [h1, h2, if_neg (by decide), if_neg (by decide), if_neg (by omega), if_neg (by omega), if_neg (by omega), if_neg (by omega)]
theorem allc_mem {E : EN} {K i : Nat} (h : i < cnt E K) : (K, i) ∈ allc E := by
  have hK : K < 90 := by
    by_cases q : K < 90
    · exact q
    · rw [cnt_90 q] at h
      omega
  exact List.mem_flatMap.mpr ⟨K, List.mem_range.mpr hK, List.mem_map.mpr ⟨i, List.mem_range.mpr h, rfl⟩⟩
theorem allc_in {E : EN} {q : Nat × Nat} (h : q ∈ allc E) : q.2 < cnt E q.1 := by
  obtain ⟨K, -, h2⟩ := List.mem_flatMap.mp h
  obtain ⟨i, h3, rfl⟩ := List.mem_map.mp h2
  exact List.mem_range.mp h3
theorem allc_nd (E : EN) : (allc E).Nodup := by
  unfold allc List.Nodup
  rw [List.pairwise_flatMap]
  refine ⟨fun K _ => ?_, ?_⟩
  · rw [List.pairwise_map]
    exact (List.pairwise_lt_range (n := cnt E K)).imp fun h q => by
      have := (Prod.mk.inj q).2
      omega
  · refine (List.pairwise_lt_range (n := 90)).imp fun h x hx y hy q => ?_
    obtain ⟨i, -, rfl⟩ := List.mem_map.mp hx
    obtain ⟨j, -, rfl⟩ := List.mem_map.mp hy
    have := (Prod.mk.inj q).1
    omega
def wl (G : GE) (B : Nat → Nat → Nat) (E : EN) (S : ST) : va_W := (allc E).map fun q => (B q.1 q.2, entL (gC G) B q.1 q.2 (S.1 q.1 q.2) (S.2.1 q.1 q.2) (S.2.2 q.1 q.2))
theorem wl_P {G : GE} {B : Nat → Nat → Nat} {E : EN} {S : ST} {H : Heap} (h : WH G B E S H) : va_P (gD G) vwCl (wl G B E S) H := fun k q hq => by
  unfold wl at hq
  rw [List.getElem?_map] at hq
  obtain ⟨a, ha, rfl⟩ := Option.map_eq_some_iff.mp hq
  exact h.1 a.1 a.2 (allc_in (List.mem_of_getElem? ha))
theorem wl_D {G : GE} {B : Nat → Nat → Nat} {E : EN} {S : ST} {H : Heap} (h : WH G B E S H) : va_D (AA G) (wl G B E S) := by
  refine ⟨fun i j p q hi hj hpq => ?_, fun k q hq => ?_⟩
  · unfold wl at hi hj
    rw [List.getElem?_map] at hi hj
    obtain ⟨a, ha, rfl⟩ := Option.map_eq_some_iff.mp hi
    obtain ⟨b, hb, rfl⟩ := Option.map_eq_some_iff.mp hj
    obtain ⟨e1, e2⟩ := h.2.1 a.1 a.2 b.1 b.2 (allc_in (List.mem_of_getElem? ha)) (allc_in (List.mem_of_getElem? hb)) hpq
    have e : a = b := Prod.ext e1 e2
    subst e
    exact (List.getElem?_inj (List.getElem?_eq_some_iff.mp ha).1 (allc_nd E)).mp (ha.trans hb.symm)
  · unfold wl at hq
    rw [List.getElem?_map] at hq
    obtain ⟨a, ha, rfl⟩ := Option.map_eq_some_iff.mp hq
    exact h.2.2 a.1 a.2 (allc_in (List.mem_of_getElem? ha))
theorem wl_at {G : GE} {B : Nat → Nat → Nat} {E : EN} {S : ST} {K i : Nat} (h : i < cnt E K) : ∃ k : Nat, (allc E)[k]? = some (K, i) ∧ (wl G B E S)[k]? = some (B K i, entL (gC G) B K i (S.1 K i) (S.2.1 K i) (S.2.2 K i)) := by
  obtain ⟨k, hk⟩ := List.mem_iff_getElem?.mp (allc_mem h)
  refine ⟨k, hk, ?_⟩
  unfold wl
  rw [List.getElem?_map, hk]
  rfl
section LAYER3
variable {p : Program} {l : Launch} {e : Env} {R : Room} {s : State} {m : MethodId} {args : Array Value} {below : List Frame} {meth : Method} {c : Code} {H : Heap} {locs : List Loc} {cells slots : Nat} {Q : State → Prop}
variable {cc : ByteArray} {pc : Nat} {ls : Array Slot} {rest st0 : List Value} {a : Array Value} {G : GE} {B : Nat → Nat → Nat} {E : EN} {S S1 : ST} {K i K2 i2 : Nat}
theorem x_copy (hx : p.tables.exec = Jvm.exec) (hb : c.code = cc) (hml : c.maxLocals = ls.size) {own : String} {index : Nat} (hown : s.vm.findClass own = some m.cls) (hlink : (Cond.methodLink own index arraycopyName).before args s = true) (hnat : (Cond.native arraycopyName).before args s = true) (hstat : (Cond.static arraycopyName).before args s = true) (hini : (Cond.initialized "java/lang/System").before args s = true)
    (hK : va_K (gD G) vwCl (tyl G) s) (hW : WH G B E S H) (hS : va_S (AA G) s.heap H locs) (hd : i < cnt E K) (hd2 : i2 < cnt E K2) {n0 n1 : Nat} (he : entL (gC G) B K i (S.1 K i) (S.2.1 K i) (S.2.2 K i) = .inl (gC G 0, n0, .inl (S.1 K i))) (he2 : ∀ f r, entL (gC G) B K2 i2 f (S.2.1 K2 i2) r = .inl (gC G 0, n1, .inl f))
    {sp dp n : Int32} (h1 : ¬ sp < 0) (h2 : ¬ dp < 0) (h3 : ¬ n < 0) (h4 : sp.toNatClampNeg + n.toNatClampNeg ≤ n0) (h5 : dp.toNatClampNeg + n.toNatClampNeg ≤ n1) (hframes : 1 ≤ R.frames) (hlocals : (rest.map fun v => v.category).sum + (nativeFrameWords "java/lang/System" "arraycopy" 5 + 11) ≤ R.locals)
    {j1 j2 j3 : Nat} (e1 : sp.toNatClampNeg = j1) (e2 : dp.toNatClampNeg = j2) (e3 : n.toNatClampNeg = j3) (eS : S1 = aI S K2 i2 (va_cpy (S.1 K i) (S.1 K2 i2) j1 j2 j3)) (hdg : decode cc pc = .ok (.invokestatic index, 3))
    (kk : ∀ (H : Heap) (locs : List Loc), WH G B E S1 H → va_S (AA G) s.heap H locs → W p l e R s m args below meth c H locs cells slots Q (F0 m (pc + 3) ls rest)) : W p l e R s m args below meth c H locs cells slots Q (F0 m pc ls (.int n :: .int dp :: .ref (B K2 i2) :: .int sp :: .ref (B K i) :: rest)) := by
  subst e1 e2 e3 eS
  obtain ⟨q0, -, g0⟩ := wl_at (G := G) (B := B) (S := S) hd
  obtain ⟨q1, p1, g1⟩ := wl_at (G := G) (B := B) (S := S) hd2
  rw [he] at g0
  rw [he2] at g1
  refine va_copyi hx hb hml hown hlink hnat hstat hini hK (wl_P hW) (wl_D hW) hS q0 q1 0 0 g0 g1 rfl rfl rfl h1 h2 h3 h4 h5 (fun _ _ => rfl) hframes hlocals hdg (fun H1 locs1 hP1 _ hS1 => ?_)
  refine kk H1 locs1 ⟨fun K' i' h' => ?_, hW.2.1, hW.2.2⟩ hS1
  by_cases q : K' = K2 ∧ i' = i2
  · obtain ⟨rfl, rfl⟩ := q
    have := hP1 q1 (B K' i', .inl (gC G 0, n1, .inl (va_cpy (S.1 K i) (S.1 K' i') sp.toNatClampNeg dp.toNatClampNeg n.toNatClampNeg))) (by
      rw [List.getElem?_set, if_pos rfl, if_pos (List.getElem?_eq_some_iff.mp g1).1])
    show va_at (gD G) vwCl (B K' i', entL (gC G) B K' i' (ct S.1 K' i' (va_cpy (S.1 K i) (S.1 K' i') sp.toNatClampNeg dp.toNatClampNeg n.toNatClampNeg) K' i') (S.2.1 K' i') (S.2.2 K' i')) H1
    rw [ct_at, he2]
    exact this
  · obtain ⟨k', p', g'⟩ := wl_at (G := G) (B := B) (S := S) h'
    have hne : q1 ≠ k' := fun z => by
      subst z
      have := Option.some.inj (p1.symm.trans p')
      exact q ⟨(Prod.mk.inj this).1.symm, (Prod.mk.inj this).2.symm⟩
    obtain ⟨o1, o2, o3⟩ := aI_o (S := S) (f := va_cpy (S.1 K i) (S.1 K2 i2) sp.toNatClampNeg dp.toNatClampNeg n.toNatClampNeg) K' i' q
    rw [o1, o2, o3]
    exact hP1 k' _ (by rw [List.getElem?_set, if_neg hne]; exact g')
end LAYER3
/-! ## what a method leaves as it was: w names kinds (K, 0) and single fields (K, j + 1) that it may change -/
def wq (w : List (Nat × Nat)) (K j : Nat) : Bool := w.contains (K, 0) || w.contains (K, j + 1)
def Fm (w : List (Nat × Nat)) (S S1 : ST) : Prop := ∀ K i j : Nat, wq w K j = false → S1.1 K i j = S.1 K i j ∧ S1.2.1 K i j = S.2.1 K i j ∧ S1.2.2 K i j = S.2.2 K i j
theorem Fm.rf {w : List (Nat × Nat)} {S : ST} : Fm w S S := fun _ _ _ _ => ⟨rfl, rfl, rfl⟩
theorem Fm.trans {w : List (Nat × Nat)} {S S1 S2 : ST} (F : Fm w S S1) (F2 : Fm w S1 S2) : Fm w S S2 := fun K i j h => by
  obtain ⟨a1, a2, a3⟩ := F K i j h
  obtain ⟨b1, b2, b3⟩ := F2 K i j h
  exact ⟨b1.trans a1, b2.trans a2, b3.trans a3⟩
theorem wq_sub {w w' : List (Nat × Nat)} (h : w'.all (fun x => w.contains x || w.contains (x.1, 0)) = true) {K j : Nat} (hq : wq w K j = false) : wq w' K j = false := by
  rw [Bool.eq_false_iff]
  intro q
  have h1 : ∀ x, w'.contains x = true → (w.contains x || w.contains (x.1, 0)) = true := fun x hx => List.all_eq_true.mp h x (List.contains_iff_mem.mp hx)
  unfold wq at q hq
  rw [Bool.or_eq_false_iff] at hq
  rcases (Bool.or_eq_true _ _).mp q with q | q
  · have := h1 _ q
    rw [hq.1] at this
    cases this
  · have := h1 _ q
    rw [hq.1, hq.2] at this
    cases this
theorem Fm.tr {w w' : List (Nat × Nat)} {S S1 S2 : ST} (F : Fm w S S1) (F2 : Fm w' S1 S2) (h : w'.all (fun x => w.contains x || w.contains (x.1, 0)) = true) : Fm w S S2 := F.trans (fun K i j hq => F2 K i j (wq_sub h hq))
theorem Fm.mono {w w' : List (Nat × Nat)} {S S1 : ST} (F : Fm w' S S1) (h : w'.all (fun x => w.contains x || w.contains (x.1, 0)) = true) : Fm w S S1 := fun K i j hq => F K i j (wq_sub h hq)
theorem Fm.sI {w : List (Nat × Nat)} {S0 S S2 : ST} {K i j : Nat} {v : Int32} (F : Fm w S0 S) (h : wq w K j = true) (e : S2 = sI S K i j v) : Fm w S0 S2 := by
  subst e
  refine F.trans (fun K' i' j' hq => ⟨?_, rfl, rfl⟩)
  show ct S.1 K i (upd (S.1 K i) j v) K' i' j' = S.1 K' i' j'
  by_cases q : K' = K ∧ i' = i
  · obtain ⟨rfl, rfl⟩ := q
    rw [ct_at]
    unfold upd
    by_cases q2 : j' = j
    · subst q2
      rw [h] at hq
      cases hq
    · rw [if_neg q2]
  · rw [ct_ne _ _ _ _ q]
theorem Fm.sL {w : List (Nat × Nat)} {S0 S S2 : ST} {K i j : Nat} {v : Int64} (F : Fm w S0 S) (h : wq w K j = true) (e : S2 = sL S K i j v) : Fm w S0 S2 := by
  subst e
  refine F.trans (fun K' i' j' hq => ⟨rfl, ?_, rfl⟩)
  show ct S.2.1 K i (vp_updL (S.2.1 K i) j v) K' i' j' = S.2.1 K' i' j'
  by_cases q : K' = K ∧ i' = i
  · obtain ⟨rfl, rfl⟩ := q
    rw [ct_at]
    unfold vp_updL
    by_cases q2 : j' = j
    · subst q2
      rw [h] at hq
      cases hq
    · rw [if_neg q2]
  · rw [ct_ne _ _ _ _ q]
theorem Fm.sR {w : List (Nat × Nat)} {S0 S S2 : ST} {K i j : Nat} {v : Option Nat} (F : Fm w S0 S) (h : wq w K j = true) (e : S2 = sR S K i j v) : Fm w S0 S2 := by
  subst e
  refine F.trans (fun K' i' j' hq => ⟨rfl, rfl, ?_⟩)
  show ct S.2.2 K i (va_up (S.2.2 K i) j v) K' i' j' = S.2.2 K' i' j'
  by_cases q : K' = K ∧ i' = i
  · obtain ⟨rfl, rfl⟩ := q
    rw [ct_at]
    by_cases q2 : j' = j
    · subst q2
      rw [h] at hq
      cases hq
    · rw [va_up_ne _ _ q2]
  · rw [ct_ne _ _ _ _ q]
theorem Fm.aI {w : List (Nat × Nat)} {S0 S S2 : ST} {K i : Nat} {f : Nat → Int32} (F : Fm w S0 S) (h : w.contains (K, 0) = true) (e : S2 = aI S K i f) : Fm w S0 S2 := by
  subst e
  refine F.trans (fun K' i' j' hq => ⟨?_, rfl, rfl⟩)
  show ct S.1 K i f K' i' j' = S.1 K' i' j'
  by_cases q : K' = K ∧ i' = i
  · obtain ⟨rfl, rfl⟩ := q
    unfold wq at hq
    rw [h] at hq
    cases hq
  · rw [ct_ne _ _ _ _ q]
theorem Fm.I {w : List (Nat × Nat)} {S S1 : ST} (F : Fm w S S1) {K i j : Nat} (h : wq w K j = false) : gI S1 K i j = gI S K i j := (F K i j h).1
theorem Fm.L {w : List (Nat × Nat)} {S S1 : ST} (F : Fm w S S1) {K i j : Nat} (h : wq w K j = false) : gL S1 K i j = gL S K i j := (F K i j h).2.1
theorem Fm.R {w : List (Nat × Nat)} {S S1 : ST} (F : Fm w S S1) {K i j : Nat} (h : wq w K j = false) : gR S1 K i j = gR S K i j := (F K i j h).2.2
/-! ## reading behind writing -/
theorem gI_sI (S : ST) (K i j : Nat) (v : Int32) (K' i' j' : Nat) : gI (sI S K i j v) K' i' j' = if K' = K ∧ i' = i ∧ j' = j then v else gI S K' i' j' := by
  show ct S.1 K i (upd (S.1 K i) j v) K' i' j' = _
  by_cases q : K' = K ∧ i' = i
  · obtain ⟨rfl, rfl⟩ := q
    rw [ct_at]
    unfold upd gI
    by_cases q2 : j' = j
    · rw [if_pos q2, if_pos ⟨rfl, rfl, q2⟩]
    · rw [if_neg q2, if_neg (fun h => q2 h.2.2)]
  · rw [ct_ne _ _ _ _ q, if_neg (fun h => q ⟨h.1, h.2.1⟩)]
    rfl
theorem gL_sL (S : ST) (K i j : Nat) (v : Int64) (K' i' j' : Nat) : gL (sL S K i j v) K' i' j' = if K' = K ∧ i' = i ∧ j' = j then v else gL S K' i' j' := by
  show ct S.2.1 K i (vp_updL (S.2.1 K i) j v) K' i' j' = _
  by_cases q : K' = K ∧ i' = i
  · obtain ⟨rfl, rfl⟩ := q
    rw [ct_at]
    unfold vp_updL gL
    by_cases q2 : j' = j
    · rw [if_pos q2, if_pos ⟨rfl, rfl, q2⟩]
    · rw [if_neg q2, if_neg (fun h => q2 h.2.2)]
  · rw [ct_ne _ _ _ _ q, if_neg (fun h => q ⟨h.1, h.2.1⟩)]
    rfl
theorem gR_sR (S : ST) (K i j : Nat) (v : Option Nat) (K' i' j' : Nat) : gR (sR S K i j v) K' i' j' = if K' = K ∧ i' = i ∧ j' = j then v else gR S K' i' j' := by
  show ct S.2.2 K i (va_up (S.2.2 K i) j v) K' i' j' = _
  by_cases q : K' = K ∧ i' = i
  · obtain ⟨rfl, rfl⟩ := q
    rw [ct_at]
    unfold gR
    by_cases q2 : j' = j
    · rw [if_pos ⟨rfl, rfl, q2⟩, q2, va_up_self]
    · rw [va_up_ne _ _ q2, if_neg (fun h => q2 h.2.2)]
  · rw [ct_ne _ _ _ _ q, if_neg (fun h => q ⟨h.1, h.2.1⟩)]
    rfl
theorem gI_aI (S : ST) (K i : Nat) (f : Nat → Int32) (K' i' j' : Nat) : gI (aI S K i f) K' i' j' = if K' = K ∧ i' = i then f j' else gI S K' i' j' := by
  show ct S.1 K i f K' i' j' = _
  by_cases q : K' = K ∧ i' = i
  · obtain ⟨rfl, rfl⟩ := q
    rw [ct_at, if_pos ⟨rfl, rfl⟩]
  · rw [ct_ne _ _ _ _ q, if_neg q]
    rfl
theorem gL_sI (S : ST) (K i j : Nat) (v : Int32) : gL (sI S K i j v) = gL S := rfl
theorem gR_sI (S : ST) (K i j : Nat) (v : Int32) : gR (sI S K i j v) = gR S := rfl
theorem gI_sL (S : ST) (K i j : Nat) (v : Int64) : gI (sL S K i j v) = gI S := rfl
theorem gR_sL (S : ST) (K i j : Nat) (v : Int64) : gR (sL S K i j v) = gR S := rfl
theorem gI_sR (S : ST) (K i j : Nat) (v : Option Nat) : gI (sR S K i j v) = gI S := rfl
theorem gL_sR (S : ST) (K i j : Nat) (v : Option Nat) : gL (sR S K i j v) = gL S := rfl
theorem gL_aI (S : ST) (K i : Nat) (f : Nat → Int32) : gL (aI S K i f) = gL S := rfl
theorem gR_aI (S : ST) (K i : Nat) (f : Nat → Int32) : gR (aI S K i f) = gR S := rfl
