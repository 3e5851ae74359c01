/-! PURE PART: room: bits, the likeliest -/
theorem q_and (a b : Nat) : nI a &&& nI b = nI (a &&& b) := by
  apply Int32.toBitVec_inj.1
  show BitVec.ofNat 32 a &&& BitVec.ofNat 32 b = BitVec.ofNat 32 (a &&& b)
  apply BitVec.eq_of_getLsbD_eq
  intro i hi
  simp [hi]
theorem q_orb (a b : Nat) : nI a ||| nI b = nI (a ||| b) := by
  apply Int32.toBitVec_inj.1
  show BitVec.ofNat 32 a ||| BitVec.ofNat 32 b = BitVec.ofNat 32 (a ||| b)
  apply BitVec.eq_of_getLsbD_eq
  intro i hi
  simp [hi]
theorem q_tb {c i : Nat} (hc : c < 256) (hi : i < 8) : ((nI c >>> (nI i &&& 31)) &&& (1 : Int32)) = if c.testBit i = true then 1 else 0 := by
  have all : ∀ i, i < 8 → ∀ c, c < 256 → ((nI c >>> (nI i &&& 31)) &&& (1 : Int32)) = if c.testBit i = true then 1 else 0 := by decide +kernel
  exact all i hi c hc
theorem q_cmp {a c : Nat} (ha : a < 256) (hc : c < 256) : nI a &&& (nI c ^^^ (-1 : Int32)) = nI (a &&& (255 ^^^ c)) := by
  have e1 : ∀ c, c < 256 → (nI c ^^^ (-1 : Int32)) &&& nI 255 = nI (255 ^^^ c) := by decide +kernel
  have e2 : ∀ a, a < 256 → a &&& 255 = a := by decide +kernel
  calc nI a &&& (nI c ^^^ (-1 : Int32)) = (nI a &&& nI 255) &&& (nI c ^^^ (-1 : Int32)) := by rw [q_and, e2 a ha]
    _ = nI a &&& ((nI c ^^^ (-1 : Int32)) &&& nI 255) := by rw [Int32.and_assoc, Int32.and_comm (nI 255)]
    _ = nI (a &&& (255 ^^^ c)) := by rw [e1 c hc, q_and]
theorem tb_cmp {a c i : Nat} (hi : i < 8) : (a &&& (255 ^^^ c)).testBit i = (a.testBit i && !c.testBit i) := by
  have e : ∀ i, i < 8 → (255 : Nat).testBit i = true := by decide +kernel
  rw [Nat.testBit_and, Nat.testBit_xor, e i hi, Bool.true_xor]
theorem q_sh8 {j : Nat} (h : j < 8) : ((1 : Int32) <<< (nI j &&& 31)) = nI (2 ^ j) := by
  have all : ∀ j, j < 8 → ((1 : Int32) <<< (nI j &&& 31)) = nI (2 ^ j) := by decide +kernel
  exact all j h
theorem or_lt {c j : Nat} (hc : c < 256) (hj : j < 8) : c ||| 2 ^ j < 256 := by
  have : c ||| 2 ^ j < 2 ^ 8 := Nat.or_lt_two_pow hc (Nat.pow_lt_pow_right (by decide) hj)
  exact this
theorem tb_or {c i j : Nat} : (c ||| 2 ^ j).testBit i = (c.testBit i || decide (j = i)) := by
  rw [Nat.testBit_or, Nat.testBit_two_pow]
/-- upwards: the first of the greatest -/
def bsU (sel : Nat → Bool) (f : Nat → Nat) : Nat → Option Nat
  | 0 => none
  | v + 1 => if sel v = true then (match bsU sel f v with
    | none => some v
    | some j => if f v ≤ f j then some j else some v) else bsU sel f v
/-- downwards -/
def bsD (sel : Nat → Bool) (f : Nat → Nat) (n : Nat) : Nat → Option Nat
  | 0 => none
  | q + 1 => if sel (n - 1 - q) = true then (match bsD sel f n q with
    | none => some (n - 1 - q)
    | some j => if f (n - 1 - q) < f j then some j else some (n - 1 - q)) else bsD sel f n q
def isB (P : Nat → Prop) (sel : Nat → Bool) (f : Nat → Nat) : Option Nat → Prop
  | none => ∀ i, P i → sel i = false
  | some j => P j ∧ sel j = true ∧ ∀ i, P i → sel i = true → f i ≤ f j ∧ (i < j → f i < f j)
theorem isB_uniq {P : Nat → Prop} {sel : Nat → Bool} {f : Nat → Nat} {o o' : Option Nat} (h : isB P sel f o) (h' : isB P sel f o') : o = o' := by
  cases o with
  | none => cases o' with
    | none => rfl
    | some j => have := h j h'.1; rw [h'.2.1] at this; cases this
  | some i => cases o' with
    | none => have := h' i h.1; rw [h.2.1] at this; cases this
    | some j =>
      have a := h.2.2 j h'.1 h'.2.1
      have b := h'.2.2 i h.1 h.2.1
      rcases Nat.lt_trichotomy i j with q | q | q
      · have := b.2 q; omega
      · rw [q]
      · have := a.2 q; omega
theorem bsU_spec (sel : Nat → Bool) (f : Nat → Nat) : ∀ v, isB (fun i => i < v) sel f (bsU sel f v)
  | 0 => fun i hi => absurd hi (by omega)
  | v + 1 => by
    have ih := bsU_spec sel f v
    rw [show bsU sel f (v + 1) = if sel v = true then (match bsU sel f v with
      | none => some v
      | some j => if f v ≤ f j then some j else some v) else bsU sel f v from rfl]
    by_cases hs : sel v = true
    · rw [if_pos hs]
      rcases hb : bsU sel f v with _ | j
      · rw [hb] at ih
        refine ⟨by omega, hs, fun i hi hsi => ?_⟩
        by_cases z : i = v
        · subst z; exact ⟨Nat.le_refl _, fun y => absurd y (by omega)⟩
        · have := ih i (show i < v by omega); rw [hsi] at this; cases this
      · rw [hb] at ih
        obtain ⟨i1, i2, i3⟩ := ih
        have i1 : j < v := i1
        show isB _ sel f (if f v ≤ f j then some j else some v)
        by_cases hf : f v ≤ f j
        · rw [if_pos hf]
          refine ⟨show j < v + 1 by omega, i2, fun i hi hsi => ?_⟩
          by_cases z : i = v
          · subst z; exact ⟨hf, fun y => absurd y (by omega)⟩
          · exact i3 i (show i < v by omega) hsi
        · rw [if_neg hf]
          refine ⟨show v < v + 1 by omega, hs, fun i hi hsi => ?_⟩
          by_cases z : i = v
          · subst z; exact ⟨Nat.le_refl _, fun y => absurd y (by omega)⟩
          · have := (i3 i (show i < v by omega) hsi).1
            exact ⟨by omega, fun _ => by omega⟩
    · rw [if_neg hs]
      rcases hb : bsU sel f v with _ | j
      · rw [hb] at ih
        intro i hi
        by_cases z : i = v
        · subst z; exact Bool.eq_false_iff.mpr hs
        · exact ih i (show i < v by omega)
      · rw [hb] at ih
        obtain ⟨i1, i2, i3⟩ := ih
        have i1 : j < v := i1
        refine ⟨show j < v + 1 by omega, i2, fun i hi hsi => ?_⟩
        by_cases z : i = v
        · subst z; exact absurd hsi hs
        · exact i3 i (show i < v by omega) hsi
theorem bsD_spec (sel : Nat → Bool) (f : Nat → Nat) (n : Nat) : ∀ q, q ≤ n → isB (fun i => n - q ≤ i ∧ i < n) sel f (bsD sel f n q)
  | 0, _ => fun i hi => absurd hi (by omega)
  | q + 1, hq => by
    have ih := bsD_spec sel f n q (by omega)
    rw [show bsD sel f n (q + 1) = if sel (n - 1 - q) = true then (match bsD sel f n q with
      | none => some (n - 1 - q)
      | some j => if f (n - 1 - q) < f j then some j else some (n - 1 - q)) else bsD sel f n q from rfl]
    obtain ⟨v, hv⟩ : ∃ v, v = n - 1 - q := ⟨_, rfl⟩
    rw [← hv]
    by_cases hs : sel v = true
    · rw [if_pos hs]
      rcases hb : bsD sel f n q with _ | j
      · rw [hb] at ih
        refine ⟨⟨by omega, by omega⟩, hs, fun i hi hsi => ?_⟩
        by_cases z : i = v
        · subst z; exact ⟨Nat.le_refl _, fun y => absurd y (by omega)⟩
        · have := ih i ⟨by omega, by omega⟩; rw [hsi] at this; cases this
      · rw [hb] at ih
        obtain ⟨⟨i0, i1⟩, i2, i3⟩ := ih
        show isB _ sel f (if f v < f j then some j else some v)
        by_cases hf : f v < f j
        · rw [if_pos hf]
          refine ⟨⟨by omega, by omega⟩, i2, fun i hi hsi => ?_⟩
          by_cases z : i = v
          · subst z; exact ⟨by omega, fun _ => hf⟩
          · exact i3 i ⟨by omega, by omega⟩ hsi
        · rw [if_neg hf]
          refine ⟨⟨by omega, by omega⟩, hs, fun i hi hsi => ?_⟩
          by_cases z : i = v
          · subst z; exact ⟨Nat.le_refl _, fun y => absurd y (by omega)⟩
          · have := (i3 i ⟨by omega, by omega⟩ hsi).1
            exact ⟨by omega, fun y => absurd y (by omega)⟩
    · rw [if_neg hs]
      rcases hb : bsD sel f n q with _ | j
      · rw [hb] at ih
        intro i hi
        by_cases z : i = v
        · subst z; exact Bool.eq_false_iff.mpr hs
        · exact ih i ⟨by omega, by omega⟩
      · rw [hb] at ih
        obtain ⟨⟨i0, i1⟩, i2, i3⟩ := ih
        refine ⟨⟨by omega, by omega⟩, i2, fun i hi hsi => ?_⟩
        by_cases z : i = v
        · subst z; exact absurd hsi hs
        · exact i3 i ⟨by omega, by omega⟩ hsi
theorem bsD_U (sel : Nat → Bool) (f : Nat → Nat) (n : Nat) : bsD sel f n n = bsU sel f n := by
  have a := bsD_spec sel f n n (Nat.le_refl _)
  have b := bsU_spec sel f n
  refine isB_uniq a ?_
  rw [show (fun i => n - n ≤ i ∧ i < n) = (fun i => i < n) from funext fun i => propext ⟨fun h => h.2, fun h => ⟨by omega, h⟩⟩]
  exact b
theorem bsU_cong {sel sel' : Nat → Bool} {f : Nat → Nat} : ∀ {n : Nat}, (∀ i, i < n → sel i = sel' i) → bsU sel f n = bsU sel' f n
  | 0, _ => rfl
  | v + 1, h => by
    rw [show bsU sel f (v + 1) = if sel v = true then (match bsU sel f v with
      | none => some v
      | some j => if f v ≤ f j then some j else some v) else bsU sel f v from rfl, bsU_cong (fun i hi => h i (by omega)), h v (by omega)]
    rfl
def bsM (f : Nat → Nat) : Option Nat → Int64
  | none => -1
  | some j => lN (f j)
def bsE : Option Nat → Int32
  | none => -1
  | some j => nI j
theorem w_nm1 {n : Nat} (h : n < 9223372036854775808) : ¬ lN n ≤ (-1 : Int64) := by
  rw [Int64.le_iff_toInt_le, w_toInt h, show (-1 : Int64).toInt = -1 by decide]
  omega
theorem s_likeliest {E : EN} {S : ST} {A : Nat} {f : Nat → Nat} (hN : 300 ≤ E.1) (h8 : E.2.1 ≤ 8) (hA : A < 256) (hn : gI S 2 0 1 = nI E.2.1) (h7 : ∀ i, i < E.2.1 → gL S 7 0 i = lN (f i)) (hf : ∀ i, f i ≤ 10000) :
    f_X6_likeliest E S (nI A) = some (nI ((bsU A.testBit f E.2.1).getD 0)) := by
  unfold f_X6_likeliest
  have h := lpN (σ := Nat) (φ := fun m v => f_X6_likeliest_b9 E m S (nI A) (nI ((bsU A.testBit f v).getD 0)) (bsM f (bsU A.testBit f v)) (nI v)) (T := fun v => v) (N := E.2.1) (n := E.1) (r := some (nI ((bsU A.testBit f E.2.1).getD 0))) (fun m v hv => by
    show g_X6_likeliest_b9 E (f_X6_likeliest_b9 E m) S _ _ _ _ = _
    unfold g_X6_likeliest_b9
    rw [hn, if_neg (by rw [q_le (by omega) (by omega)]; omega), q_tb hA (show v < 8 by omega), show bsU A.testBit f (v + 1) = if A.testBit v = true then (match bsU A.testBit f v with
      | none => some v
      | some j => if f v ≤ f j then some j else some v) else bsU A.testBit f v from rfl]
    by_cases z : A.testBit v = true
    · rw [if_pos z, if_pos rfl, if_pos z, ck_in (ib_nI (by omega) (by decide)), q_cl (by omega), h7 v hv]
      have hfv := hf v
      rcases hb : bsU A.testBit f v with _ | j
      · rw [if_neg (show ¬ lN (f v) ≤ bsM f none from w_nm1 (by omega)), lt_e]
        unfold f_X6_likeliest_b51
        rw [lt_e, nI_1]
        rfl
      · have hfj := hf j
        show (if lN (f v) ≤ lN (f j) then _ else _) = _
        by_cases y : f v ≤ f j
        · rw [if_pos (by rw [w_le (by omega) (by omega)]; exact y)]
          unfold f_X6_likeliest_b51
          rw [lt_e, nI_1]
          show _ = f_X6_likeliest_b9 E m S (nI A) (nI ((if f v ≤ f j then some j else some v).getD 0)) (bsM f (if f v ≤ f j then some j else some v)) (nI (v + 1))
          rw [if_pos y]
        · rw [if_neg (by rw [w_le (by omega) (by omega)]; exact y), lt_e]
          unfold f_X6_likeliest_b51
          rw [lt_e, nI_1]
          show _ = f_X6_likeliest_b9 E m S (nI A) (nI ((if f v ≤ f j then some j else some v).getD 0)) (bsM f (if f v ≤ f j then some j else some v)) (nI (v + 1))
          rw [if_neg y]
          rfl
    · rw [if_neg z, if_neg (show ¬ (0 : Int32) = 1 by decide), if_neg z]
      unfold f_X6_likeliest_b51
      rw [lt_e, nI_1]) (fun m => by
    show f_X6_likeliest_b9 E (m + 1) S (nI A) (nI ((bsU A.testBit f E.2.1).getD 0)) (bsM f (bsU A.testBit f E.2.1)) (nI E.2.1) = _
    rw [show f_X6_likeliest_b9 E (m + 1) = g_X6_likeliest_b9 E (f_X6_likeliest_b9 E m) from rfl]
    unfold g_X6_likeliest_b9
    rw [hn, if_pos (by rw [q_le (by omega) (by omega)]; omega)]) (by omega)
  exact h
